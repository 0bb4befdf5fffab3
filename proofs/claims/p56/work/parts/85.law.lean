/-! THE LAW -/
section LAW
variable {x : Nat} {M : Mem} {xs : Nat → Int32} {L : Nat}
theorem w_round (hd : BD x M) {q : Nat} (hq : q < 2) {s3 v9 : Int32} : ∃ y, fj_L_law_63 xs L x (x + 60) (nI q) (x + 60) 0 v9 s3 M = some y ∧ ∃ M', y = .inl (1, nI (q + 1), M') ∧ BD x M' := by
  have HD := hd
  obtain ⟨w, p, g0, o0, h0, v0, b0, cz, i129⟩ := hd
  have fx : Fix x M := by obtain ⟨rt, c, _⟩ := cz; exact c.1
  obtain ⟨p1, p2⟩ := fx.2.2.2.2.2.2
  have in0 : ¬ ((0 : Int32) < 0 ∨ 1 ≤ (0 : Int32).toNatClampNeg) := by decide
  have sa : sA 9 (x + 60) 0 (v9 ^^^ s3) M = some (wA M (x + 60) (u1 (mA M (x + 60)) 0 (v9 ^^^ s3))) := by rw [sA_w, p2, if_pos ⟨p1, in0⟩, nar9]; rfl
  have b1 : BD x (wA M (x + 60) (u1 (mA M (x + 60)) 0 (v9 ^^^ s3))) := HD.sim (Fr.wA (Or.inl rfl))
  have fix : ∀ {N : Mem}, BD x N → Fix x N := fun h => by obtain ⟨_, _, _, _, _, _, _, ⟨rt, c, _⟩, _⟩ := h; exact c.1
  have kp : ∀ {N N' : Mem}, Fr (fun a => a = x + 60) N N' → Fr (kpP x) N N' := fun f => f.mono (fun a h => Or.inl h)
  obtain ⟨r1, M1, n1, e1, f1⟩ := nx (fix b1)
  have b2 := b1.sim (kp f1)
  obtain ⟨r2, M2, n2, e2, f2⟩ := nx (fix b2)
  have b3 := b2.sim (kp f2)
  obtain ⟨r3, M3, n3, e3, f3⟩ := nx (fix b3)
  have b4 := b3.sim (kp f3)
  have k1 : nI r1 - nI r1 / 4 * 4 = nI (r1 % 4) := nI_rem (a := r1) (b := 4) (by omega) (by omega)
  have k1' : (1 : Int32) + nI (r1 % 4) = nI (1 + r1 % 4) := nI_add 1 _
  have k2 : nI r2 - nI r2 / 3 * 3 = nI (r2 % 3) := nI_rem (a := r2) (b := 3) (by omega) (by omega)
  have k3 : nI r3 - nI r3 / 3 * 3 = nI (r3 % 3) := nI_rem (a := r3) (b := 3) (by omega) (by omega)
  obtain ⟨s, M4, M5, g, o, v, e4, e5, d, f7⟩ := texts M3 (1 + r1 % 4) (r2 % 3) (r3 % 3) b4 (by omega) (by omega) (by omega) (by omega)
  obtain ⟨w5, q5, cz5, hx5⟩ := d.cx
  obtain ⟨M6, b', e6, cz6, hb, kp6⟩ := c_save cz5 hx5 hq
  have d6 : DD 12 x (1 + r1 % 4) (r2 % 3) (r3 % 3) 0 M6 g o 0 (cpO v q g 1330) b' := ⟨⟨w5, q5, cz6⟩, kp6.2.1.trans d.2.1, d.2.2.1, d.2.2.2⟩
  have S : Svd (1 + r1 % 4) (r2 % 3) (r3 % 3) q (cpO v q g 1330) b' g := ⟨(hb q hq).mpr (Or.inr rfl), fun i hi => by
    unfold sl cpO; rw [if_pos (by omega)]; exact congrArg g (by omega), d.2.2.1, f7, by omega⟩
  obtain ⟨M7, e7, d7⟩ := d6.sum
  obtain ⟨y, e8, M8, n', m', g', o', h', rfl, d8⟩ := w_inner d7 (Nat.le_refl _) hq S (xs := xs) (L := L)
  have k5 : (mK M5 x = 5) = True := hx5.k5
  have z0 : nI 0 = 0 := rfl
  refine ⟨_, ?_, M8, rfl, d8.bd⟩
  simp only [fj_L_law_63, fj_L_law_116, sa, Option.bind_some, e1, bn, e2, e3, k1, k1', k2, k3, e4, e5, eq_self, if_true, cK, k5, e6, bq, z0, e7]
  exact e8
theorem w_outer (hd : BD x M) (hL : L < 2147483648) : ∃ M', fj_L_law_34 xs L x (x + 60) 1 0 M = some (1, M') := by
  have lp : ∃ y, fj_L_law_34 xs L x (x + 60) 1 0 M = some y ∧ ∃ M', y = (1, M') := by
    unfold fj_L_law_34
    refine loopM_inv (N := 2) (P := fun i q => q.1 = 1 ∧ q.2.1 = nI i ∧ BD x q.2.2) ⟨rfl, rfl, hd⟩ (fun i q hi hp => ?_) (fun q hp => ?_) (by decide)
    · obtain ⟨q1, q2, N⟩ := q
      obtain ⟨a1, a2, a3⟩ := hp
      dsimp only at a1 a2 a3
      subst a1 a2
      have hl : ¬ ((2 : Int32) ≤ nI i) := nI_ge (a := i) (b := 2) hi (by omega)
      have fx : Fix x N := by obtain ⟨_, _, _, _, _, _, _, ⟨rt, c, _⟩, _⟩ := a3; exact c.1
      obtain ⟨p1, p2⟩ := fx.2.2.2.2.2.2
      have in0 : ¬ ((0 : Int32) < 0 ∨ 1 ≤ (0 : Int32).toNatClampNeg) := by decide
      have ga : gA 9 (x + 60) 0 N = some (mA N (x + 60) 0) := by unfold gA; rw [p2, if_pos ⟨p1, in0⟩]; rfl
      by_cases c : L ≤ i
      · have l1 : Int32.ofNat L ≤ nI i := nI_le (a := L) (b := i) c (by omega)
        obtain ⟨y, e, M', rfl, b'⟩ := w_round a3 hi (xs := xs) (L := L) (s3 := 0) (v9 := mA N (x + 60) 0)
        refine ⟨(1, nI (i + 1), M'), ?_, rfl, rfl, b'⟩
        simp only [fc_L_law_34, hl, if_false, e10, ga, Option.bind_some, l1, if_true]
        exact e
      · have l1 : ¬ (Int32.ofNat L ≤ nI i) := nI_ge (a := i) (b := L) (by omega) hL
        have gx : gX xs L (nI i) = some (xs i) := by
          unfold gX; rw [nI_cl (by omega), if_pos (fun e => e.elim (nI_pos (by omega)) (fun e => by omega))]
        obtain ⟨y, e, M', rfl, b'⟩ := w_round a3 hi (xs := xs) (L := L) (s3 := xs i) (v9 := mA N (x + 60) 0)
        refine ⟨(1, nI (i + 1), M'), ?_, rfl, rfl, b'⟩
        simp only [fc_L_law_34, hl, if_false, e10, ga, Option.bind_some, l1, gx]
        exact e
    · obtain ⟨q1, q2, N⟩ := q
      obtain ⟨a1, a2, a3⟩ := hp
      dsimp only at a1 a2 a3
      subst a1 a2
      have hl : (2 : Int32) ≤ nI 2 := Int32.le_refl _
      refine ⟨(1, N), ?_, N, rfl⟩
      simp only [fc_L_law_34, fj_L_law_418, hl, if_true, Option.map_some]
  obtain ⟨y, e, M', rfl⟩ := lp
  exact ⟨M', e⟩
theorem law_one (hL : L < 2147483648) : ∃ M', f_L_law xs L M = some (1, M') := by
  obtain ⟨M1, s1, z1, cz, i1, _⟩ := c_begin (x := mZ M) (M := M) rfl
  have bd : BD (mZ M) (newA 9 1 M1) := ⟨_, _, _, _, _, _, _, cz, i1⟩
  have fx : Fix (mZ M) (newA 9 1 M1) := by obtain ⟨rt, c, _⟩ := cz; exact c.1
  obtain ⟨p1, p2⟩ := fx.2.2.2.2.2.2
  have in0 : ¬ ((0 : Int32) < 0 ∨ 1 ≤ (0 : Int32).toNatClampNeg) := by decide
  have go : ∀ s3 : Int32, ∃ M', fj_L_law_27 xs L (mZ M) (mZ M + 60) (mZ M + 60) 0 s3 (newA 9 1 M1) = some (1, M') := fun s3 => by
    have sa : sA 9 (mZ M + 60) 0 s3 (newA 9 1 M1) = some (wA (newA 9 1 M1) (mZ M + 60) (u1 (mA (newA 9 1 M1) (mZ M + 60)) 0 s3)) := by rw [sA_w, p2, if_pos ⟨p1, in0⟩, nar9]; rfl
    obtain ⟨M', e⟩ := w_outer (xs := xs) (L := L) (bd.sim (Fr.wA (b := mZ M + 60) (g := u1 (mA (newA 9 1 M1) (mZ M + 60)) 0 s3) (Or.inl rfl))) hL
    exact ⟨M', by unfold fj_L_law_27; rw [sa, Option.bind_some]; exact e⟩
  by_cases c : Int32.ofNat L = 0
  · obtain ⟨M', e⟩ := go 1932
    refine ⟨M', ?_⟩
    unfold f_L_law bnew bnewa
    dsimp only
    rw [s1, Option.bind_some, z1, if_pos c]
    exact e
  · have hL0 : L ≠ 0 := fun e => c (by rw [e]; rfl)
    have gx : gX xs L 0 = some (xs 0) := by
      have c0 : (0 : Int32).toNatClampNeg = 0 := rfl
      unfold gX; rw [c0, if_pos (fun e => e.elim (by decide) (fun e => by omega))]
    obtain ⟨M', e⟩ := go (xs 0)
    refine ⟨M', ?_⟩
    unfold f_L_law bnew bnewa
    dsimp only
    rw [s1, Option.bind_some, z1, if_neg c, gx, Option.bind_some]
    exact e
end LAW
