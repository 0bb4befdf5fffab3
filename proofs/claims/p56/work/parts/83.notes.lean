/-! THE LAW'S TEXTS ARE WRITTEN -/
theorem nx {x : Nat} {M : Mem} (fx : Fix x M) : ∃ r M', r < 8388608 ∧ f_L_next (x + 60) M = some (nI r, M') ∧ Fr (fun a => a = x + 60) M M' := by
  obtain ⟨p1, p2⟩ := fx.2.2.2.2.2.2
  have in0 : ¬ ((0 : Int32) < 0 ∨ 1 ≤ (0 : Int32).toNatClampNeg) := by decide
  have gA' : ∀ N : Mem, mK N (x + 60) = 9 → mN N (x + 60) = 1 → gA 9 (x + 60) 0 N = some (mA N (x + 60) 0) := fun N h1 h2 => by unfold gA; rw [h2, if_pos ⟨h1, in0⟩]; rfl
  have sA' : ∀ (N : Mem) (u : Int32), mK N (x + 60) = 9 → mN N (x + 60) = 1 → sA 9 (x + 60) 0 u N = some (wA N (x + 60) (u1 (mA N (x + 60)) 0 u)) := fun N u h1 h2 => by rw [sA_w, h2, if_pos ⟨h1, in0⟩, nar9]; rfl
  unfold f_L_next
  rw [gA' M p1 p2, Option.bind_some, sA' M _ p1 p2, Option.bind_some, gA' (wA M (x + 60) _) p1 p2, Option.bind_some, Option.bind_some, sA' (wA M (x + 60) _) _ p1 p2, Option.bind_some, wA_again, gA' (wA M (x + 60) _) p1 p2, Option.bind_some]
  have fin : ∀ {W : Mem} {y : Int32}, Fr (fun a => a = x + 60) M W → ∃ r M', r < 8388608 ∧ some ((y.toUInt32 >>> ((9 : Int32).toUInt32 &&& Int32.toUInt32 31)).toInt32, W) = some (nI r, M') ∧ Fr (fun a => a = x + 60) M M' := fun {W y} f => by
    obtain ⟨r, hr, er⟩ := shr9 y
    exact ⟨r, W, hr, by rw [er], f⟩
  exact fin (Fr.wA rfl)
/-- the builder of a text at b; what lies below Z is as at first -/
def MB (x : Nat) (M0 M : Mem) (T : List Nat) : Prop := Fix x M ∧ Fz (mZ M0) x M0 M ∧ SB (mZ M0) M (mZ M0) T ∧ x + 61 ≤ mZ M0
section MBS
variable {x : Nat} {M0 M1 M : Mem} {T t : List Nat}
theorem MB.go {M' : Mem} {a' : Nat} {T' : List Nat} (h : MB x M0 M T) (s : SBa (mZ M0) M' (mZ M0) a' T') (f : Fz (mZ M0) x M M') : MB x M0 M' T' := ⟨h.1.fz f h.2.2.2, h.2.1.tr f, ⟨a', s⟩, h.2.2.2⟩
theorem MB.k (h : MB x M0 M T) : (mK M (mZ M0) = 12) = True := by obtain ⟨_, _, ⟨a, s⟩, _⟩ := h; exact s.k12
theorem MB.const (h : MB x M0 M T) {i : Nat} (ht : TX i t) (hl : T.length + t.length ≤ 200) : ∃ M', f_J4_append_15ec4_c (mZ M0) i M = some (mZ M0, M') ∧ MB x M0 M' (T ++ t) := by
  obtain ⟨a, s⟩ := h.2.2.1
  obtain ⟨M', a', e, s', f⟩ := sb_const (x := x) s ht hl
  exact ⟨M', e, h.go s' f⟩
theorem MB.int (h : MB x M0 M T) {v : Nat} (hv : v < 100) (hl : T.length + 2 ≤ 200) : ∃ M', f_J4_append_bf812 (mZ M0) (nI v) M = some (mZ M0, M') ∧ MB x M0 M' (T ++ dig v) := by
  obtain ⟨a, s⟩ := h.2.2.1
  obtain ⟨M', a', e, s', f⟩ := sb_int (x := x) s hv hl
  exact ⟨M', e, h.go s' f⟩
theorem MB.chr (h : MB x M0 M T) {v : Nat} (hv : v < 128) (hl : T.length + 1 ≤ 200) : ∃ M', f_J4_append_cf468 (mZ M0) (nI v) M = some (mZ M0, M') ∧ MB x M0 M' (T ++ [v]) := by
  obtain ⟨a, s⟩ := h.2.2.1
  obtain ⟨M', a', e, s', f⟩ := sb_chr (x := x) s hv hl
  exact ⟨M', e, h.go s' f⟩
theorem MB.str (h : MB x M0 M T) {s : Nat} (hs : Str M s t) (hl : T.length + t.length ≤ 200) : ∃ M', f_J4_append_15ec4 (mZ M0) s M = some (mZ M0, M') ∧ MB x M0 M' (T ++ t) := by
  obtain ⟨a, sb⟩ := h.2.2.1
  obtain ⟨M', a', e, s', f⟩ := sb_str (x := x) sb hs hl
  exact ⟨M', e, h.go s' f⟩
theorem MB.next (h : MB x M0 M T) : ∃ r M', r < 8388608 ∧ f_L_next (x + 60) M = some (nI r, M') ∧ MB x M0 M' T := by
  obtain ⟨r, M', hr, e, f⟩ := nx h.1
  obtain ⟨a, s⟩ := h.2.2.1
  have hz := h.2.2.2
  have hz' := h.2.1.1
  have s' := s.fz (Y := mZ M) (Fz.kp f (Nat.le_refl _)) s.1.2.2.1 s.1.2.2.2 (by omega)
  exact ⟨r, M', hr, e, h.go s' (Fz.kp f hz')⟩
/-- beside it the builder of a line, begun at M1 -/
def LB (x : Nat) (M0 M1 M : Mem) (T t : List Nat) : Prop := Fix x M ∧ Fz (mZ M0) x M0 M ∧ (∃ a, SBa (mZ M0) M (mZ M0) a T ∧ a < mZ M1 ∧ mZ M0 < mZ M1) ∧ SB (mZ M1) M (mZ M1) t ∧ mZ M1 ≤ mZ M ∧ x + 61 ≤ mZ M0
theorem LB.go {M' : Mem} {a' : Nat} {t' : List Nat} (h : LB x M0 M1 M T t) (s : SBa (mZ M1) M' (mZ M1) a' t') (f : Fz (mZ M1) x M M') : LB x M0 M1 M' T t' := by
  obtain ⟨h1, h2, ⟨a, h3, h4, h5⟩, h6, h7, h8⟩ := h
  exact ⟨h1.fz f (by omega), h2.tr (f.le (by omega)), ⟨a, h3.fz f h5 h4 (by omega), h4, h5⟩, ⟨a', s⟩, Nat.le_trans h7 f.1, h8⟩
theorem LB.k (h : LB x M0 M1 M T t) : (mK M (mZ M1) = 12) = True := by obtain ⟨_, _, _, ⟨a, s⟩, _⟩ := h; exact s.k12
theorem LB.const {u : List Nat} (h : LB x M0 M1 M T t) {i : Nat} (ht : TX i u) (hl : t.length + u.length ≤ 200) : ∃ M', f_J4_append_15ec4_c (mZ M1) i M = some (mZ M1, M') ∧ LB x M0 M1 M' T (t ++ u) := by
  obtain ⟨a, s⟩ := h.2.2.2.1
  obtain ⟨M', a', e, s', f⟩ := sb_const (x := x) s ht hl
  exact ⟨M', e, h.go s' f⟩
theorem LB.int (h : LB x M0 M1 M T t) {v : Nat} (hv : v < 100) (hl : t.length + 2 ≤ 200) : ∃ M', f_J4_append_bf812 (mZ M1) (nI v) M = some (mZ M1, M') ∧ LB x M0 M1 M' T (t ++ dig v) := by
  obtain ⟨a, s⟩ := h.2.2.2.1
  obtain ⟨M', a', e, s', f⟩ := sb_int (x := x) s hv hl
  exact ⟨M', e, h.go s' f⟩
theorem LB.next (h : LB x M0 M1 M T t) : ∃ r M', r < 8388608 ∧ f_L_next (x + 60) M = some (nI r, M') ∧ LB x M0 M1 M' T t := by
  obtain ⟨r, M', hr, e, f⟩ := nx h.1
  obtain ⟨h1, h2, ⟨a, h3, h4, h5⟩, ⟨c, s⟩, h7, h8⟩ := h
  have fz : Fz (mZ M) x M M' := Fz.kp f (Nat.le_refl _)
  exact ⟨r, M', hr, e, h1.fz fz (by omega), h2.tr (fz.le (by omega)), ⟨a, h3.fz fz (by omega) (by omega) (by omega), h4, h5⟩, ⟨c, s.fz fz s.1.2.2.1 s.1.2.2.2 (by omega)⟩, Nat.le_trans h7 fz.1, h8⟩
theorem LB.tos (h : LB x M0 M1 M T t) : ∃ s M', f_J4_toString_0e30d (mZ M1) M = some (s, M') ∧ Str M' s t ∧ MB x M0 M' T := by
  obtain ⟨h1, h2, ⟨a, h3, h4, h5⟩, ⟨c, s⟩, h7, h8⟩ := h
  obtain ⟨M', e, st, f⟩ := sb_tos (x := x) s
  exact ⟨mZ M, M', e, st, h1.fz f (by omega), h2.tr (f.le (by omega)), ⟨a, h3.fz f (by omega) (by omega) (by omega)⟩, h8⟩
theorem MB.line (h : MB x M0 M T) : ∃ M', f_J4_init_da8c8 (mZ M) (newO 12 M) = some M' ∧ LB x M0 M M' T [] := by
  obtain ⟨h1, h2, ⟨a, s⟩, h4⟩ := h
  obtain ⟨M', e, s', f⟩ := sb_new (x := x) (M := M)
  have hz := h2.1
  exact ⟨M', e, h1.fz f (by omega), h2.tr (f.le hz), ⟨a, s.fz f s.1.2.2.1 s.1.2.2.2 (by omega), s.1.2.2.2, s.1.2.2.1⟩, ⟨_, s'⟩, f.1, h4⟩
theorem dig_le (n : Nat) : (dig n).length ≤ 2 := by rw [dig_len]; split <;> omega
theorem dig_1 {n : Nat} (h : n < 10) : (dig n).length = 1 := by rw [dig_len, if_pos h]
end MBS
/-- one round of the text's loop -/
def Rd (x : Nat) (M0 : Mem) (T : List Nat) (R C Q : Nat) (z : Int32) (F : Option ((Int32 × Mem) ⊕ (Nat × Mem))) : Prop := ∃ M' k r a b, F = some (.inl (z + -1, M')) ∧ lnO R C Q k r a b ∧ MB x M0 M' (T ++ lnT k r a b)
section NT
variable {x : Nat} {M0 M : Mem} {T : List Nat} {R C Q : Nat}
theorem gz_n {n : Nat} (h : n ≠ 0) (h2 : n < 100) : gz (nI n) = some () := by
  have : ¬ (nI n = 0) := fun e => absurd ((nI_eq (b := 0) (by omega) (by omega)).mp e) h
  unfold gz; rw [if_pos this]
theorem n_round (h : MB x M0 M T) (hT : T.length ≤ 170) (hR : 1 ≤ R ∧ R ≤ 4) (hC : C ≤ 2) (hQ : Q ≤ 2) {n : Nat} (hn : 1 ≤ n) (hn2 : n < 100) : Rd x M0 T R C Q (nI n) (fc_L_notes_42 (nI R) (nI C) (nI Q) (x + 60) (mZ M0) (nI n) M) := by
  have n0 : ¬ (nI n ≤ 0) := nI_ge (a := 0) (by omega) (by omega)
  obtain ⟨r1, M1, b1, e1, h1⟩ := h.next
  obtain ⟨r2, M2, b2, e2, h2⟩ := h1.next
  have k1 := nI_rem (a := r1) (b := R) (by omega) (by omega)
  have k2 : nI r2 - nI r2 / 4 * 4 = nI (r2 % 4) := nI_rem (a := r2) (b := 4) (by omega) (by omega)
  have gR := gz_R hR.1 hR.2
  have hr : r1 % R < R := Nat.mod_lt _ (by omega)
  obtain ⟨r, er⟩ : ∃ r, r = r1 % R := ⟨_, rfl⟩
  rw [← er] at k1 hr
  have dr := dig_1 (n := r) (by omega)
  rcases (show r2 % 4 = 0 ∨ r2 % 4 = 1 ∨ r2 % 4 = 2 ∨ r2 % 4 = 3 by omega) with c | c | c | c
  · rw [c] at k2
    have z0 : nI 0 = 0 := rfl
    by_cases cC : C = 0
    · subst cC
      obtain ⟨M3, e3, l3⟩ := h2.line
      obtain ⟨M4, e4, l4⟩ := l3.const t_mer (by decide)
      obtain ⟨M5, e5, l5⟩ := l4.int (v := r) (by omega) (by decide)
      obtain ⟨M6, e6, l6⟩ := l5.const t_0 (by rw [List.length_append, dr]; decide)
      obtain ⟨s, M7, e7, st, m7⟩ := l6.tos
      obtain ⟨M8, e8, m8⟩ := m7.str st (by rw [List.length_append, List.length_append, dr]; show T.length + (7 + 1 + 2) ≤ 200; omega)
      have eq : T ++ (([] ++ [59, 109, 101, 114, 103, 101, 32]) ++ dig r ++ [32, 48]) = T ++ lnT 2 r 0 0 := by
        congr 1
      rw [eq] at m8
      refine ⟨M8, 2, r, 0, 0, ?_, ⟨hr, Or.inr (Or.inr (Or.inl ⟨rfl, by omega⟩))⟩, m8⟩
      simp only [fc_L_notes_42, fj_L_notes_173, fj_L_notes_326, n0, if_false, e1, bn, gR, Option.bind_some, e2, k1, k2, z0, eq_self, if_true, bnew, e3, cK, l3.k, e4, l4.k, e5, l5.k, e6, l6.k, e7, m7.k, e8]
    · have cz : (nI C = 0) = False := nI_eqF (b := 0) cC (by omega) (by omega)
      obtain ⟨M3, e3, l3⟩ := h2.line
      obtain ⟨M4, e4, l4⟩ := l3.const t_inc (by decide)
      obtain ⟨M5, e5, l5⟩ := l4.int (v := r) (by omega) (by decide)
      obtain ⟨M6, e6, l6⟩ := l5.const t_sp (by rw [List.length_append, dr]; decide)
      obtain ⟨r3, M7, b3, e7, l7⟩ := l6.next
      have k3 := nI_rem (a := r3) (b := C) (by omega) (by omega)
      have ha : r3 % C < C := Nat.mod_lt _ (by omega)
      have da := dig_1 (n := r3 % C) (by omega)
      obtain ⟨M8, e8, l8⟩ := l7.int (v := r3 % C) (by omega) (by rw [List.length_append, List.length_append, dr]; decide)
      obtain ⟨M9, e9, l9⟩ := l8.const t_sp (by rw [List.length_append, List.length_append, List.length_append, dr, da]; decide)
      obtain ⟨r4, Ma, b4, ea, la⟩ := l9.next
      have k4 : nI r4 - nI r4 / 9 * 9 = nI (r4 % 9) := nI_rem (a := r4) (b := 9) (by omega) (by omega)
      have k5 : (1 : Int32) + nI (r4 % 9) = nI (1 + r4 % 9) := nI_add 1 _
      have db := dig_1 (n := 1 + r4 % 9) (by omega)
      obtain ⟨Mb, eb, lb⟩ := la.int (v := 1 + r4 % 9) (by omega) (by rw [List.length_append, List.length_append, List.length_append, List.length_append, dr, da]; decide)
      obtain ⟨s, Mc, ec, st, mc⟩ := lb.tos
      obtain ⟨Md, ed, md⟩ := mc.str st (by rw [List.length_append, List.length_append, List.length_append, List.length_append, List.length_append, dr, da, db]; show T.length + (5 + 1 + 1 + 1 + 1 + 1) ≤ 200; omega)
      have eq : T ++ (([] ++ [59, 105, 110, 99, 32]) ++ dig r ++ [32] ++ dig (r3 % C) ++ [32] ++ dig (1 + r4 % 9)) = T ++ lnT 0 r (r3 % C) (1 + r4 % 9) := by
        congr 1
        show _ = [59, 105, 110, 99, 32] ++ (dig r ++ ([32] ++ (dig (r3 % C) ++ ([32] ++ dig (1 + r4 % 9)))))
        simp only [List.nil_append, List.append_assoc]
      rw [eq] at md
      refine ⟨Md, 0, r, r3 % C, 1 + r4 % 9, ?_, ⟨hr, Or.inl ⟨rfl, ha, by omega, by omega⟩⟩, md⟩
      simp only [fc_L_notes_42, fj_L_notes_173, fj_L_notes_326, n0, if_false, e1, bn, gR, Option.bind_some, e2, k1, k2, z0, cz, eq_self, if_true, bnew, e3, cK, l3.k, e4, l4.k, e5, l5.k, e6, e7, gz_n cC (by omega), l7.k, k3, e8, l8.k, e9, ea, la.k, k4, k5, eb, lb.k, ec, mc.k, ed]
  · rw [c] at k2
    have z1 : (nI 1 = 0) = False := eq_false (by decide)
    have z1' : nI 1 = 1 := rfl
    have z0 : nI 0 = 0 := rfl
    by_cases cQ : Q = 0
    · subst cQ
      obtain ⟨M3, e3, l3⟩ := h2.line
      obtain ⟨M4, e4, l4⟩ := l3.const t_mer0 (by decide)
      obtain ⟨M5, e5, l5⟩ := l4.int (v := r) (by omega) (by decide)
      obtain ⟨s, M7, e7, st, m7⟩ := l5.tos
      obtain ⟨M8, e8, m8⟩ := m7.str st (by rw [List.length_append, dr]; show T.length + (9 + 1) ≤ 200; omega)
      have eq : T ++ (([] ++ [59, 109, 101, 114, 103, 101, 32, 48, 32]) ++ dig r) = T ++ lnT 2 0 r 0 := by
        congr 1
      rw [eq] at m8
      refine ⟨M8, 2, 0, r, 0, ?_, ⟨by omega, Or.inr (Or.inr (Or.inl ⟨rfl, hr⟩))⟩, m8⟩
      simp only [fc_L_notes_42, fj_L_notes_258, fj_L_notes_326, n0, if_false, e1, bn, gR, Option.bind_some, e2, k1, k2, z1, z1', z0, eq_self, if_true, bnew, e3, cK, l3.k, e4, l4.k, e5, l5.k, e7, m7.k, e8, e10]
    · have cz : (nI Q = 0) = False := nI_eqF (b := 0) cQ (by omega) (by omega)
      obtain ⟨M3, e3, l3⟩ := h2.line
      obtain ⟨M4, e4, l4⟩ := l3.const t_wri (by decide)
      obtain ⟨M5, e5, l5⟩ := l4.int (v := r) (by omega) (by decide)
      obtain ⟨M6, e6, l6⟩ := l5.const t_sp (by rw [List.length_append, dr]; decide)
      obtain ⟨r3, M7, b3, e7, l7⟩ := l6.next
      have k3 := nI_rem (a := r3) (b := Q) (by omega) (by omega)
      have ha : r3 % Q < Q := Nat.mod_lt _ (by omega)
      have da := dig_1 (n := r3 % Q) (by omega)
      obtain ⟨M8, e8, l8⟩ := l7.int (v := r3 % Q) (by omega) (by rw [List.length_append, List.length_append, dr]; decide)
      obtain ⟨M9, e9, l9⟩ := l8.const t_sp (by rw [List.length_append, List.length_append, List.length_append, dr, da]; decide)
      obtain ⟨r4, Ma, b4, ea, la⟩ := l9.next
      have k4 : nI r4 - nI r4 / 100 * 100 = nI (r4 % 100) := nI_rem (a := r4) (b := 100) (by omega) (by omega)
      have db := dig_le (r4 % 100)
      obtain ⟨Mb, eb, lb⟩ := la.int (v := r4 % 100) (by omega) (by rw [List.length_append, List.length_append, List.length_append, List.length_append, dr, da]; decide)
      obtain ⟨s, Mc, ec, st, mc⟩ := lb.tos
      obtain ⟨Md, ed, md⟩ := mc.str st (by rw [List.length_append, List.length_append, List.length_append, List.length_append, List.length_append, dr, da]; show T.length + (7 + 1 + 1 + 1 + 1 + (dig (r4 % 100)).length) ≤ 200; omega)
      have eq : T ++ (([] ++ [59, 119, 114, 105, 116, 101, 32]) ++ dig r ++ [32] ++ dig (r3 % Q) ++ [32] ++ dig (r4 % 100)) = T ++ lnT 1 r (r3 % Q) (r4 % 100) := by
        congr 1
        show _ = [59, 119, 114, 105, 116, 101, 32] ++ (dig r ++ ([32] ++ (dig (r3 % Q) ++ ([32] ++ dig (r4 % 100)))))
        simp only [List.nil_append, List.append_assoc]
      rw [eq] at md
      refine ⟨Md, 1, r, r3 % Q, r4 % 100, ?_, ⟨hr, Or.inr (Or.inl ⟨rfl, ha, by omega⟩)⟩, md⟩
      simp only [fc_L_notes_42, fj_L_notes_258, fj_L_notes_326, n0, if_false, e1, bn, gR, Option.bind_some, e2, k1, k2, z1, z1', cz, eq_self, if_true, bnew, e3, cK, l3.k, e4, l4.k, e5, l5.k, e6, e7, gz_n cQ (by omega), l7.k, k3, e8, l8.k, e9, ea, la.k, k4, eb, lb.k, ec, mc.k, ed, e10]
  · rw [c] at k2
    have z2 : (nI 2 = 0) = False := eq_false (by decide)
    have z2' : (nI 2 = 1) = False := eq_false (by decide)
    have z2'' : nI 2 = 2 := rfl
    obtain ⟨M3, e3, m3⟩ := h2.const t_mer (by show T.length + 7 ≤ 200; omega)
    obtain ⟨M4, e4, m4⟩ := m3.int (v := r) (by omega) (by rw [List.length_append]; show T.length + 7 + 2 ≤ 200; omega)
    obtain ⟨M5, e5, m5⟩ := m4.chr (v := 32) (by omega) (by rw [List.length_append, List.length_append, dr]; show T.length + 7 + 1 + 1 ≤ 200; omega)
    obtain ⟨r3, M6, b3, e6, m6⟩ := m5.next
    have k3 := nI_rem (a := r3) (b := R) (by omega) (by omega)
    have ha : r3 % R < R := Nat.mod_lt _ (by omega)
    obtain ⟨M7, e7, m7⟩ := m6.int (v := r3 % R) (by omega) (by rw [List.length_append, List.length_append, List.length_append, dr]; show T.length + 7 + 1 + 1 + 2 ≤ 200; omega)
    have eq : T ++ [59, 109, 101, 114, 103, 101, 32] ++ dig r ++ [32] ++ dig (r3 % R) = T ++ lnT 2 r (r3 % R) 0 := by
      show _ = T ++ ([59, 109, 101, 114, 103, 101, 32] ++ (dig r ++ ([32] ++ dig (r3 % R))))
      simp only [List.append_assoc]
    rw [eq] at m7
    have e5' : f_J4_append_cf468 (mZ M0) 32 M4 = _ := e5
    refine ⟨M7, 2, r, r3 % R, 0, ?_, ⟨hr, Or.inr (Or.inr (Or.inl ⟨rfl, ha⟩))⟩, m7⟩
    simp only [fc_L_notes_42, fj_L_notes_326, n0, if_false, e1, bn, gR, Option.bind_some, e2, k1, k2, z2, z2', z2'', i20, i21, eq_self, if_true, cK, h2.k, e3, m3.k, e4, m4.k, e5', e6, m6.k, k3, e7]
  · rw [c] at k2
    have z3 : (nI 3 = 0) = False := eq_false (by decide)
    have z3' : (nI 3 = 1) = False := eq_false (by decide)
    have z3'' : (nI 3 = 2) = False := eq_false (by decide)
    obtain ⟨M3, e3, m3⟩ := h2.const t_add (by show T.length + 5 ≤ 200; omega)
    obtain ⟨M4, e4, m4⟩ := m3.int (v := r) (by omega) (by rw [List.length_append]; show T.length + 5 + 2 ≤ 200; omega)
    obtain ⟨M5, e5, m5⟩ := m4.chr (v := 32) (by omega) (by rw [List.length_append, List.length_append, dr]; show T.length + 5 + 1 + 1 ≤ 200; omega)
    obtain ⟨r3, M6, b3, e6, m6⟩ := m5.next
    have k3 : nI r3 - nI r3 / 5 * 5 = nI (r3 % 5) := nI_rem (a := r3) (b := 5) (by omega) (by omega)
    have k4 : (97 : Int32) + nI (r3 % 5) = nI (97 + r3 % 5) := nI_add 97 _
    have k5 : ((nI (97 + r3 % 5)).toUInt32 % 65536).toInt32 = nI (97 + r3 % 5) := (chn ⟨97 + r3 % 5, by omega⟩).1
    obtain ⟨M7, e7, m7⟩ := m6.chr (v := 97 + r3 % 5) (by omega) (by rw [List.length_append, List.length_append, List.length_append, dr]; show T.length + 5 + 1 + 1 + 1 ≤ 200; omega)
    have eq : T ++ [59, 97, 100, 100, 32] ++ dig r ++ [32] ++ [97 + r3 % 5] = T ++ lnT 3 r (r3 % 5) 0 := by
      show _ = T ++ ([59, 97, 100, 100, 32] ++ (dig r ++ ([32] ++ [97 + r3 % 5])))
      simp only [List.append_assoc]
    rw [eq] at m7
    have e5' : f_J4_append_cf468 (mZ M0) 32 M4 = _ := e5
    refine ⟨M7, 3, r, r3 % 5, 0, ?_, ⟨hr, Or.inr (Or.inr (Or.inr ⟨rfl, by omega⟩))⟩, m7⟩
    simp only [fc_L_notes_42, fj_L_notes_326, n0, if_false, e1, bn, gR, Option.bind_some, e2, k1, k2, z3, z3', z3'', cK, h2.k, if_true, e3, m3.k, e4, m4.k, e5', e6, m6.k, k3, k4, k5, e7]
end NT
