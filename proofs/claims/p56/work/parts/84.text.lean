/-! EVERY TEXT OF THE LAW IS TAKEN -/
abbrev Lne : Type := Nat × Nat × Nat × Nat
def lsT : List Lne → List Nat
  | [] => []
  | l :: s => lnT l.1 l.2.1 l.2.2.1 l.2.2.2 ++ lsT s
def lsG : List Lne → GF → GF
  | [], g => g
  | l :: s, g => lsG s (lnG l.1 l.2.1 l.2.2.1 l.2.2.2 g)
def lsO (R C Q : Nat) (s : List Lne) : Prop := ∀ l, l ∈ s → lnO R C Q l.1 l.2.1 l.2.2.1 l.2.2.2
theorem lsT_app (s : List Lne) (l : Lne) : lsT (s ++ [l]) = lsT s ++ lnT l.1 l.2.1 l.2.2.1 l.2.2.2 := by
  induction s with
  | nil => show lnT _ _ _ _ ++ lsT [] = [] ++ _; rw [show lsT [] = [] from rfl, List.append_nil, List.nil_append]
  | cons a s ih => show lnT _ _ _ _ ++ lsT (s ++ [l]) = _; rw [ih, ← List.append_assoc]; rfl
theorem lnT_len (k r a b : Nat) : (lnT k r a b).length ≤ 15 := by
  have h1 := dig_le r
  have h2 := dig_le a
  have h3 := dig_le b
  unfold lnT
  by_cases c0 : k = 0
  · rw [if_pos c0]; simp only [List.length_append, List.length_cons, List.length_nil]; omega
  · rw [if_neg c0]
    by_cases c1 : k = 1
    · rw [if_pos c1]; simp only [List.length_append, List.length_cons, List.length_nil]; omega
    · rw [if_neg c1]
      by_cases c2 : k = 2
      · rw [if_pos c2]; simp only [List.length_append, List.length_cons, List.length_nil]; omega
      · rw [if_neg c2]; simp only [List.length_append, List.length_cons, List.length_nil]; omega
theorem lsT_len (s : List Lne) : (lsT s).length ≤ 15 * s.length := by
  induction s with
  | nil => exact Nat.le_refl _
  | cons l s ih =>
    show (lnT _ _ _ _ ++ lsT s).length ≤ 15 * (s.length + 1)
    rw [List.length_append]
    have := lnT_len l.1 l.2.1 l.2.2.1 l.2.2.2
    omega
theorem lnT_0 (k r a b : Nat) : ∃ S, lnT k r a b = 59 :: S := by
  unfold lnT
  by_cases c0 : k = 0
  · rw [if_pos c0]; exact ⟨_, rfl⟩
  · rw [if_neg c0]
    by_cases c1 : k = 1
    · rw [if_pos c1]; exact ⟨_, rfl⟩
    · rw [if_neg c1]
      by_cases c2 : k = 2
      · rw [if_pos c2]; exact ⟨_, rfl⟩
      · rw [if_neg c2]; exact ⟨_, rfl⟩
theorem lnG_lo (k r a b : Nat) (g : GF) {q : Nat} (hq : q < 10) : lnG k r a b g q = g q := by
  unfold lnG cntG
  by_cases c0 : k = 0
  · rw [if_pos c0, put_lo hq]
  · rw [if_neg c0]
    by_cases c1 : k = 1
    · rw [if_pos c1, put_lo hq]
    · rw [if_neg c1]
      by_cases c2 : k = 2
      · rw [if_pos c2, put_lo hq]
      · rw [if_neg c2, put_lo hq]
theorem ls_ok {R C Q L : Nat} {c : GF} (hR : R ≤ 4) (hC : C ≤ 4) (hQ : Q ≤ 4) : ∀ (s : List Lne) (n p : Nat) (ty : Int32) (g : GF), lsO R C Q s → g 0 = nI R → g 1 = nI C → g 2 = nI Q → At c p (lsT s) → p + (lsT s).length = L → s.length < n → linesR c L n g (ty, p) = .inr (lsG s g) := by
  intro s
  induction s with
  | nil =>
    intro n p ty g _ _ _ _ _ hL hn
    obtain ⟨n, rfl⟩ : ∃ k, n = k + 1 := ⟨n - 1, by have : 0 < n := hn; omega⟩
    have e : p = L := hL
    subst e
    show cif (uT c p (ty, p) = 0) _ _ = _
    rw [cif_t tok0]; rfl
  | cons l s ih =>
    intro n p ty g hO g0 g1 g2 hA hL hn
    obtain ⟨n, rfl⟩ : ∃ k, n = k + 1 := ⟨n - 1, by have : s.length + 1 < n := hn; omega⟩
    have hA' : At c p (lnT l.1 l.2.1 l.2.2.1 l.2.2.2 ++ lsT s) := hA
    have hL' : p + (lnT l.1 l.2.1 l.2.2.1 l.2.2.2 ++ lsT s).length = L := hL
    rw [List.length_append] at hL'
    obtain ⟨A1, A2⟩ := hA'.app
    have hN : Nx c L (p + (lnT l.1 l.2.1 l.2.2.1 l.2.2.2).length) := by
      cases s with
      | nil => exact Or.inl hL'
      | cons l' s' =>
        obtain ⟨S, eS⟩ := lnT_0 l'.1 l'.2.1 l'.2.2.1 l'.2.2.2
        have e1 : lsT (l' :: s') = 59 :: (S ++ lsT s') := by show lnT _ _ _ _ ++ lsT s' = _; rw [eS]; rfl
        rw [e1] at A2 hL'
        have := A2 0 (Nat.succ_pos _)
        exact Or.inr ⟨by simp only [List.length_cons] at hL'; omega, Or.inl this⟩
    obtain ⟨ty', e⟩ := ln_ok (n := n) (ty := ty) hR hC hQ (hO l (List.mem_cons_self ..)) g0 g1 g2 A1 (by omega) hN
    rw [e]
    exact ih n _ ty' _ (fun l' h => hO l' (List.mem_cons_of_mem _ h)) ((lnG_lo _ _ _ _ _ (by omega)).trans g0) ((lnG_lo _ _ _ _ _ (by omega)).trans g1) ((lnG_lo _ _ _ _ _ (by omega)).trans g2) A2 (by omega) (by have : s.length + 1 < n + 1 := hn; omega)
/-- the eighth tag is nowhere -/
def No7 (g : GF) : Prop := ∀ t, t < 4 → ∀ j, j < 4 → row g t (64 + j) = 0
theorem No7.put {g : GF} {r : Nat} {a : GF} (h : No7 g) (ha : ∀ j, j < 4 → a (64 + j) = 0) : No7 (Jvm.Pilot.COfflineNotesLaw_law_r8929_57547b.put g r a) := fun t ht j hj => by
  by_cases q : t = r
  · subst q; rw [row_put (by omega)]; exact ha j hj
  · rw [row_put_ne (by omega) q]; exact h t ht j hj
theorem lnG_wk {n R C Q k r a b : Nat} {g : GF} (h : Wk n R C Q 0 g) (f : No7 g) (hn : n < 100) (hO : lnO R C Q k r a b) : Wk (n + 1) R C Q 0 (lnG k r a b g) ∧ No7 (lnG k r a b g) := by
  obtain ⟨hr, hk⟩ := hO
  have hR := h.1.2.2.2.2
  rcases hk with ⟨rfl, ha, hb, hb9⟩ | ⟨rfl, ha, hb⟩ | ⟨rfl, ha⟩ | ⟨rfl, ha⟩
  · have bi : (nI b).toInt = b := nI_toI (by omega)
    refine ⟨h.sum (off := 4) (by omega) (Or.inl rfl) hr ha (by omega) (by omega), f.put (fun j hj => ?_)⟩
    rw [u1_ne _ _ (by omega)]; exact f r (by omega) j hj
  · have bi : (nI b).toInt = b := nI_toI (by omega)
    refine ⟨h.new (by omega) hr (Or.inr ⟨a, ha, rfl⟩) (by omega) (by omega), f.put (fun j hj => ?_)⟩
    rw [newN_o (by omega) (by omega) (by omega)]; exact f r (by omega) j hj
  · refine ⟨h.mer hr (by omega), f.put (fun j hj => ?_)⟩
    exact absR_0 (h.wr hr) (h.wr ha) (f r (by omega) j hj) (f a (by omega) j hj) (fun e => by omega)
  · refine ⟨h.new (v := 0) (by omega) hr (Or.inl ⟨a, by omega, rfl⟩) (by decide) (by decide), f.put (fun j hj => ?_)⟩
    rw [newN_o (by omega) (by omega) (by omega)]; exact f r (by omega) j hj
theorem lsG_wk {R C Q : Nat} : ∀ (s : List Lne) (n : Nat) (g : GF), Wk n R C Q 0 g → No7 g → n + s.length < 100 → lsO R C Q s → Wk (n + s.length) R C Q 0 (lsG s g) ∧ No7 (lsG s g) := by
  intro s
  induction s with
  | nil => intro n g h f _ _; exact ⟨h, f⟩
  | cons l s ih =>
    intro n g h f hn hO
    have hn' : n + (s.length + 1) < 100 := hn
    obtain ⟨h1, f1⟩ := lnG_wk h f (by omega) (hO l (List.mem_cons_self ..))
    obtain ⟨h2, f2⟩ := ih (n + 1) _ h1 f1 (by omega) (fun l' m => hO l' (List.mem_cons_of_mem _ m))
    exact ⟨by rw [show n + (l :: s).length = n + 1 + s.length by simp only [List.length_cons]; omega]; exact h2, f2⟩
theorem hd_wk {R C Q : Nat} (hR : 1 ≤ R ∧ R ≤ 4) (hC : C ≤ 4) (hQ : Q ≤ 4) : Wk 0 R C Q 0 (hdG (fun _ => 0) (nI R) (nI C) (nI Q)) ∧ No7 (hdG (fun _ => 0) (nI R) (nI C) (nI Q)) := by
  have rz : ∀ t i, row (hdG (fun _ => 0) (nI R) (nI C) (nI Q)) t i = 0 := fun t i => by
    show hdG (fun _ => 0) (nI R) (nI C) (nI Q) (bs t + i) = 0
    unfold hdG
    rw [bs_eq, if_neg (by omega), if_neg (by omega), if_neg (by omega)]
  refine ⟨⟨⟨rfl, rfl, rfl, rfl, hR.1, hR.2, hC, hQ, by omega⟩, fun t _ _ => WFr.zero.congr (fun i _ => rz t i), ⟨fun _ _ => 0, fun t _ _ i _ _ h => absurd (rz t i) h⟩, fun t _ _ i _ => by rw [rz, rz]; exact Int.le_refl _, fun t _ _ i _ _ => rz t i, fun j hj => absurd hj (Nat.not_lt_zero _)⟩, fun t _ j _ => rz t _⟩
/-- the first line -/
def hdT (R C Q : Nat) : List Nat := [114, 101, 112, 108, 105, 99, 97, 115, 32] ++ dig R ++ [32] ++ dig C ++ [32] ++ dig Q
theorem hdT_len {R C Q : Nat} (hR : R ≤ 4) (hC : C ≤ 4) (hQ : Q ≤ 4) : (hdT R C Q).length = 14 := by
  unfold hdT
  simp only [List.length_append, List.length_cons, List.length_nil, dig_1 (show R < 10 by omega), dig_1 (show C < 10 by omega), dig_1 (show Q < 10 by omega)]
theorem text_ok {R C Q : Nat} {c : GF} {s : List Lne} (hR : 1 ≤ R ∧ R ≤ 4) (hC : C ≤ 4) (hQ : Q ≤ 4) (hO : lsO R C Q s) (hA : At c 0 (hdT R C Q ++ lsT s)) : textR c (hdT R C Q ++ lsT s).length (fun _ => 0) = .inr (lsG s (hdG (fun _ => 0) (nI R) (nI C) (nI Q))) := by
  obtain ⟨L, hL⟩ : ∃ L, L = (hdT R C Q ++ lsT s).length := ⟨_, rfl⟩
  rw [← hL]
  have len := hdT_len hR.2 hC hQ
  rw [List.length_append, len] at hL
  obtain ⟨A1, A2⟩ := hA.app
  rw [len] at A2
  have A2 : At c 14 (lsT s) := by rw [Nat.zero_add] at A2; exact A2
  have r1 := dig_1 (show R < 10 by omega)
  have c1 := dig_1 (show C < 10 by omega)
  have q1 := dig_1 (show Q < 10 by omega)
  have eT : hdT R C Q = [114, 101, 112, 108, 105, 99, 97, 115] ++ ([32] ++ (dig R ++ ([32] ++ (dig C ++ ([32] ++ dig Q))))) := by
    unfold hdT
    simp only [List.append_assoc]; rfl
  rw [eT] at A1
  obtain ⟨B1, B2⟩ := A1.app
  have B2 : At c 8 _ := B2
  obtain ⟨B3, B4⟩ := B2.app
  have B4 : At c 9 _ := B4
  obtain ⟨B5, B6⟩ := B4.app
  rw [r1] at B6
  obtain ⟨B7, B8⟩ := B6.app
  have B8 : At c 11 _ := B8
  obtain ⟨B9, D1⟩ := B8.app
  rw [c1] at D1
  obtain ⟨D2, D3⟩ := D1.app
  have D3 : At c 13 _ := D3
  have b8 : c 8 = nI 32 := B3.one
  have b10 : c 10 = nI 32 := B7.one
  have b12 : c 12 = nI 32 := D2.one
  have k := word_ok (c := c) (L := L) (ty := 0) (e := 0) (W := [114, 101, 112, 108, 105, 99, 97, 115]) ⟨by decide, by decide⟩ B1 (by show 0 + 8 < L; omega) b8 ⟨by decide, by decide⟩
  have w1 := is_t (w := 1) k B1 (by decide +kernel) (by decide +kernel)
  have hN : Nx c L 14 := by
    cases s with
    | nil => exact Or.inl (by rw [hL]; rfl)
    | cons l' s' =>
      obtain ⟨S, eS⟩ := lnT_0 l'.1 l'.2.1 l'.2.2.1 l'.2.2.2
      have e1 : lsT (l' :: s') = 59 :: (S ++ lsT s') := by show lnT _ _ _ _ ++ lsT s' = _; rw [eS]; rfl
      rw [e1] at A2 hL
      exact Or.inr ⟨by simp only [List.length_cons] at hL; omega, Or.inl (A2 0 (Nat.succ_pos _))⟩
  obtain ⟨n1, m1⟩ := num_ok (c := c) (ty := 1) (L := L) (e := 8) (lo := 1) (hi := 4) (v := R) (by omega) (At.cons b8 B5) (by rw [r1]; omega) (by rw [r1]; exact Or.inr ⟨by omega, Or.inr b10⟩) (nI_le (a := 1) hR.1 (by omega)) (nI_le (b := 4) hR.2 (by omega))
  obtain ⟨n2, m2⟩ := num_ok (c := c) (ty := 2) (L := L) (e := 10) (lo := 0) (hi := 4) (v := C) (by omega) (At.cons b10 B9) (by rw [c1]; omega) (by rw [c1]; exact Or.inr ⟨by omega, Or.inr b12⟩) (nI_le (a := 0) (by omega) (by omega)) (nI_le (b := 4) hC (by omega))
  obtain ⟨n3, m3⟩ := num_ok (c := c) (ty := 2) (L := L) (e := 12) (lo := 0) (hi := 4) (v := Q) (by omega) (At.cons b12 D3) (by rw [q1]; omega) (by rw [q1]; exact hN) (nI_le (a := 0) (by omega) (by omega)) (nI_le (b := 4) hQ (by omega))
  rw [r1] at m1
  rw [c1] at m2
  rw [q1] at m3
  have eh : headR c L (fun _ => 0) = .inr (hdG (fun _ => 0) (nI R) (nI C) (nI Q), (2, 14)) := by
    unfold headR
    have w1' : isW c L 1 cur0 := w1
    have k4 : uN c L cur0 = (1, 8) := k.2.2.2
    rw [cif_t w1', k4, n1, m1]
    show sb (numR c L (2, 10) 0 4) _ = _
    rw [n2, m2]
    show sb (numR c L (2, 12) 0 4) _ = _
    rw [n3, m3]; rfl
  unfold textR
  rw [eh]
  show linesR c L (L + 1) (hdG (fun _ => 0) (nI R) (nI C) (nI Q)) (2, 14) = _
  have sl : s.length ≤ (lsT s).length := by
    have key : ∀ s : List Lne, s.length ≤ (lsT s).length := by
      intro s
      induction s with
      | nil => exact Nat.le_refl _
      | cons l s ih =>
        obtain ⟨S, eS⟩ := lnT_0 l.1 l.2.1 l.2.2.1 l.2.2.2
        show s.length + 1 ≤ (lnT _ _ _ _ ++ lsT s).length
        rw [eS, List.length_append, List.length_cons]; omega
    exact key s
  exact ls_ok hR.2 hC hQ s (L + 1) 14 2 _ hO rfl rfl rfl A2 (by omega) (by omega)
section TE
variable {x : Nat} {M : Mem}
theorem w_notes (fx : Fix x M) (hz : x + 61 ≤ mZ M) {R C Q : Nat} (hR : 1 ≤ R ∧ R ≤ 4) (hC : C ≤ 2) (hQ : Q ≤ 2) : ∃ s M' ls, f_L_notes (nI R) (nI C) (nI Q) (x + 60) M = some (s, M') ∧ ls.length ≤ 11 ∧ lsO R C Q ls ∧ Str M' s (hdT R C Q ++ lsT ls) ∧ Fr (kpP x) M M' ∧ Fix x M' := by
  have r1 := dig_1 (show R < 10 by omega)
  have c1 := dig_1 (show C < 10 by omega)
  obtain ⟨M1, a1, e1, s1, f1⟩ := sb_init (x := x) (M := M) t_rep
  have b1 : MB x M M1 [114, 101, 112, 108, 105, 99, 97, 115, 32] := ⟨fx.fz f1 hz, f1, ⟨a1, s1⟩, hz⟩
  obtain ⟨M2, e2, b2⟩ := b1.int (v := R) (by omega) (by decide)
  obtain ⟨M3, e3, b3⟩ := b2.chr (v := 32) (by omega) (by rw [List.length_append, r1]; decide)
  obtain ⟨M4, e4, b4⟩ := b3.int (v := C) (by omega) (by rw [List.length_append, List.length_append, r1]; decide)
  obtain ⟨M5, e5, b5⟩ := b4.chr (v := 32) (by omega) (by rw [List.length_append, List.length_append, List.length_append, r1, c1]; decide)
  obtain ⟨M6, e6, b6⟩ := b5.int (v := Q) (by omega) (by rw [List.length_append, List.length_append, List.length_append, List.length_append, r1, c1]; decide)
  obtain ⟨r, M7, hr, e7, b7⟩ := b6.next
  have k7 : nI r - nI r / 12 * 12 = nI (r % 12) := nI_rem (a := r) (b := 12) (by omega) (by omega)
  have b7' : MB x M M7 (hdT R C Q) := b7
  have hlen := hdT_len hR.2 (show C ≤ 4 by omega) (show Q ≤ 4 by omega)
  have lp : ∃ y, fj_L_notes_42 (nI R) (nI C) (nI Q) (x + 60) (mZ M) (nI (r % 12)) M7 = some y ∧ ∃ ls, ls.length ≤ 11 ∧ lsO R C Q ls ∧ Str y.2 y.1 (hdT R C Q ++ lsT ls) ∧ Fr (kpP x) M y.2 ∧ Fix x y.2 := by
    unfold fj_L_notes_42
    refine loopM_inv (N := r % 12) (P := fun i q => q.1 = nI (r % 12 - i) ∧ ∃ ls, ls.length = i ∧ lsO R C Q ls ∧ MB x M q.2 (hdT R C Q ++ lsT ls)) ⟨rfl, [], rfl, fun l h => absurd h List.not_mem_nil, by rw [show lsT [] = [] from rfl, List.append_nil]; exact b7'⟩ (fun i q hi hp => ?_) (fun q hp => ?_) (by omega)
    · obtain ⟨q1, N⟩ := q
      obtain ⟨p1, ls, l1, l2, l3⟩ := hp
      dsimp only at p1 l3
      subst p1
      have lb := lsT_len ls
      obtain ⟨N', k, rr, a, b, e, o, m⟩ := n_round l3 (by rw [List.length_append, hlen]; omega) hR hC hQ (n := r % 12 - i) (by omega) (by omega)
      have em : nI (r % 12 - i) + -1 = nI (r % 12 - (i + 1)) := by rw [nI_neg (by omega)]; rfl
      refine ⟨(nI (r % 12 - (i + 1)), N'), by rw [← em]; exact e, rfl, ls ++ [(k, rr, a, b)], by rw [List.length_append, l1]; rfl, fun l hl => ?_, ?_⟩
      · rcases List.mem_append.mp hl with h | h
        · exact l2 l h
        · rw [List.mem_singleton.mp h]; exact o
      · rw [lsT_app, ← List.append_assoc]; exact m
    · obtain ⟨q1, N⟩ := q
      obtain ⟨p1, ls, l1, l2, l3⟩ := hp
      dsimp only at p1 l3
      subst p1
      have z : nI (r % 12 - r % 12) ≤ 0 := by rw [Nat.sub_self]; exact Int32.le_refl _
      obtain ⟨n1, n2, ⟨a, n3⟩, n4⟩ := l3
      obtain ⟨N', e, st, f⟩ := sb_tos (x := x) n3
      have k12 := n3.k12
      refine ⟨(mZ N, N'), ?_, ls, by omega, l2, st, (n2.tr (f.le n2.1)).fr, n1.fz f (by have := n2.1; omega)⟩
      simp only [fc_L_notes_42, fj_L_notes_332, z, if_true, cK, k12, e, bn, Option.map_some]
  obtain ⟨⟨s, M'⟩, e, ls, l1, l2, l3, l4, l5⟩ := lp
  refine ⟨s, M', ls, ?_, l1, l2, l3, l4, l5⟩
  have e3' : f_J4_append_cf468 (mZ M) 32 M2 = _ := e3
  have e5' : f_J4_append_cf468 (mZ M) 32 M4 = _ := e5
  simp only [f_L_notes, bnew, e1, Option.bind_some, cK, b1.k, if_true, e2, bn, b2.k, e3', b3.k, e4, b4.k, e5', b5.k, e6, e7, k7]
  exact e
theorem texts : TextOK x := fun M R C Q hb h1 h4 hC hQ => by
  obtain ⟨w, p, g, o, h, v, b, cz, i129⟩ := hb
  have hz := cz.z1
  have fx : Fix x M := by obtain ⟨rt, c, _⟩ := cz; exact c.1
  obtain ⟨s, M1, ls, e1, l1, l2, st, f1, fx1⟩ := w_notes fx hz ⟨h1, h4⟩ hC hQ
  have hlen := hdT_len h4 (show C ≤ 4 by omega) (show Q ≤ 4 by omega)
  have lb := lsT_len ls
  have z1 : x + 61 ≤ mZ M1 := Nat.le_trans hz f1.1
  have i1 : mI M1 129 x = 0 := by rw [(f1.at (show x < mZ M by omega) (by unfold kpP; omega)).1]; exact i129
  obtain ⟨M2, len, e2, f2, i2, n1, n2, t2⟩ := w_type fx1 z1 st (by rw [List.length_append, hlen]; omega) (by rw [List.length_append, hlen]; omega) i1
  have cz2 := (cz.sim f1).simX f2
  have tx := text_ok (c := mA M2 (x + 1)) ⟨h1, h4⟩ (show C ≤ 4 by omega) (show Q ≤ 4 by omega) l2 (fun i hi => by rw [Nat.zero_add]; exact t2 i hi)
  obtain ⟨M3, sw, ps, e3, cz3, i3, _, z3⟩ := c_loaded cz2 i2 n1 n2 tx
  obtain ⟨k0, n7⟩ := hd_wk ⟨h1, h4⟩ (show C ≤ 4 by omega) (show Q ≤ 4 by omega)
  obtain ⟨k1, n71⟩ := lsG_wk ls 0 _ k0 n7 (by omega) l2
  have k5 : (mK M2 x = 5) = True := eq_true (by obtain ⟨rt, c, _⟩ := cz2; exact c.1.1.1)
  have g0 : lsG ls (hdG (fun _ => 0) (nI R) (nI C) (nI Q)) 0 = nI R := k1.1.1
  rw [g0] at e3
  refine ⟨s, M1, M3, _, o, v, e1, ?_, ⟨⟨sw, ps, cz3⟩, i3, k1.mono (by omega), fun j hj => absurd hj (Nat.not_lt_zero _)⟩, fun j hj => n71 0 (by omega) j hj⟩
  simp only [f_L_load, e2, bn, cK, k5, if_true, e3, bx]
end TE
