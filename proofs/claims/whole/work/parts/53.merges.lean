/-! THE REFERENCE'S MERGE -/
def surv (a b : Nat → Int32) (i : Nat) : Int32 := if a (i % 4) < b i then b i else if a i = b i ∨ b (i % 4) < a i then a i else 0
/-- a row that has taken in another, as the reference has it -/
def absR (a b : Nat → Int32) : Nat → Int32 := fun i => if i < 36 then (if b i ≤ a i then a i else b i) else if i < 116 then surv a b i else if surv a b (i - 16) = 0 then 0 else if surv a b (i - 16) = a (i - 16) then a i else b i
def mg (g : Nat → Int32) (t u : Nat) (P : Nat → Prop) [DecidablePred P] : Nat → Int32 := put g t (fun p => if P p then absR (row g t) (row g u) p else row g t p)
theorem mg_rd {g : Nat → Int32} {t u s i : Nat} {P : Nat → Prop} [DecidablePred P] (hi : i < 132) (h : ¬ P i) : mg g t u P (bs s + i) = row g s i := by
  unfold mg
  by_cases q : s = t
  · subst q; rw [put_at hi, if_neg h]
  · rw [put_ne hi q]; rfl
theorem mg_congr {g : Nat → Int32} {t u : Nat} {P Q : Nat → Prop} [DecidablePred P] [DecidablePred Q] (h : ∀ i, i < 132 → (P i ↔ Q i)) : mg g t u P = mg g t u Q := by
  unfold mg
  refine put_congr (fun i hi => ?_)
  by_cases q : P i
  · rw [if_pos q, if_pos ((h i hi).mp q)]
  · rw [if_neg q, if_neg (fun e => q ((h i hi).mpr e))]
theorem mg_wr {g : Nat → Int32} {t u i : Nat} {P : Nat → Prop} [DecidablePred P] {v : Int32} (hi : i < 132) (h : v = absR (row g t) (row g u) i) : u1 (mg g t u P) (bs t + i) v = mg g t u (fun p => P p ∨ p = i) := by
  unfold mg
  rw [u1_put hi]
  refine put_congr (fun j hj => ?_)
  unfold u1; dsimp only
  by_cases q : j = i
  · subst q; rw [if_pos rfl, if_pos (Or.inr rfl), h]
  · rw [if_neg q]
    by_cases q2 : P j
    · rw [if_pos q2, if_pos (Or.inl q2)]
    · rw [if_neg q2, if_neg (fun e => e.elim q2 q)]
theorem mg_sk {g : Nat → Int32} {t u i : Nat} {P : Nat → Prop} [DecidablePred P] (hi : i < 132) (h : row g t i = absR (row g t) (row g u) i) : mg g t u P = mg g t u (fun p => P p ∨ p = i) := by
  unfold mg
  refine put_congr (fun j hj => ?_)
  by_cases q2 : P j
  · rw [if_pos q2, if_pos (Or.inl q2)]
  · rw [if_neg q2]
    by_cases q : j = i
    · subst q; rw [if_pos (Or.inr rfl), h]
    · rw [if_neg (fun e => e.elim q2 q)]
theorem mg_no {g : Nat → Int32} {t u : Nat} {P : Nat → Prop} [DecidablePred P] (h : ∀ i, i < 132 → ¬ P i) : mg g t u P = g := by
  unfold mg
  rw [put_congr (b := row g t) (fun i hi => if_neg (h i hi)), put_row]
theorem mg_all {g : Nat → Int32} {t u : Nat} {P : Nat → Prop} [DecidablePred P] (h : ∀ i, i < 132 → P i) : mg g t u P = put g t (absR (row g t) (row g u)) := put_congr (fun i hi => if_pos (h i hi))
section RM
variable {M : Mem} {m w : Nat} {g : Nat → Int32} {t u : Nat}
theorem X5_raises (hR : Rn M m w) (ht : t < 12) (hu : u < 12) {i : Nat} (hi : i < 36) {P : Nat → Prop} [DecidablePred P] (hP : ¬ P i) : f_X5_raises m (nI (bs t + i)) (nI (bs u + i)) (wA M w (mg g t u P)) = some (wA M w (mg g t u (fun p => P p ∨ p = i))) := by
  obtain ⟨h1, h2, h3, h4⟩ := hR
  have hb := bs_le ht
  have hb' := bs_le hu
  have hi' : i < 132 := by omega
  have e1 : mg g t u P (bs t + i) = row g t i := mg_rd hi' hP
  have e2 : mg g t u P (bs u + i) = row g u i := mg_rd hi' hP
  rw [← mg_wr (P := P) (v := if row g u i ≤ row g t i then row g t i else row g u i) hi' (by unfold absR; rw [if_pos hi])]
  by_cases q : row g u i ≤ row g t i
  · simp (disch := omega) only [f_X5_raises, fj_X5_raises_35, h1, h2, h3, h4, e1, e2, q, gI, gR, gRn, sI_w, sR_w, gA, sA_w, gB, gBn, sBn_w, sB0_w, gL, sL_w, cK, bn, Option.bind_some, Option.map_some, nar9, inT, wA_self, wA_again, wB_self, wB_again, wL_self, wL_again, u1_self, nI_add, nI_mul, nI_sub, nI_div, nI_leT, nI_leF, nI_ltT, nI_ltF, nI_eqT, nI_eqF, nI_neg, nI_cl, lit_nI, nI_nlt0, if_true, if_false, if_pos, if_neg, true_and, and_true, not_false_eq_true, or_self, or_false, false_or, reduceIte, and_self, not_true_eq_false, ne_eq, mK_wI, mN_wI, mR_wI, mA_wI, mB_wI, mL_wI, mZ_wI, mK_wA, mN_wA, mI_wA, mR_wA, mB_wA, mL_wA, mZ_wA, mK_wB, mN_wB, mI_wB, mR_wB, mA_wB, mL_wB, mZ_wB, mK_wR, mN_wR, mI_wR, mA_wR, mB_wR, mL_wR, mZ_wR, mK_wL, mN_wL, mI_wL, mR_wL, mA_wL, mB_wL, mZ_wL]
  · simp (disch := omega) only [f_X5_raises, fj_X5_raises_35, h1, h2, h3, h4, e1, e2, q, gI, gR, gRn, sI_w, sR_w, gA, sA_w, gB, gBn, sBn_w, sB0_w, gL, sL_w, cK, bn, Option.bind_some, Option.map_some, nar9, inT, wA_self, wA_again, wB_self, wB_again, wL_self, wL_again, u1_self, nI_add, nI_mul, nI_sub, nI_div, nI_leT, nI_leF, nI_ltT, nI_ltF, nI_eqT, nI_eqF, nI_neg, nI_cl, lit_nI, nI_nlt0, if_true, if_false, if_pos, if_neg, true_and, and_true, not_false_eq_true, or_self, or_false, false_or, reduceIte, and_self, not_true_eq_false, ne_eq, mK_wI, mN_wI, mR_wI, mA_wI, mB_wI, mL_wI, mZ_wI, mK_wA, mN_wA, mI_wA, mR_wA, mB_wA, mL_wA, mZ_wA, mK_wB, mN_wB, mI_wB, mR_wB, mA_wB, mL_wB, mZ_wB, mK_wR, mN_wR, mI_wR, mA_wR, mB_wR, mL_wR, mZ_wR, mK_wL, mN_wL, mI_wL, mR_wL, mA_wL, mB_wL, mZ_wL]
theorem X5_survivor (hR : Rn M m w) (ht : t < 12) (hu : u < 12) {i b : Nat} (hb4 : b < 4) (hi : b = i % 4) {P : Nat → Prop} [DecidablePred P] (hP : ¬ P b) : f_X5_survivor m (nI t) (nI u) (row g t i) (row g u i) (nI b) (wA M w (mg g t u P)) = some (surv (row g t) (row g u) i, wA M w (mg g t u P)) := by
  obtain ⟨h1, h2, h3, h4⟩ := hR
  have hb := bs_le ht
  have hb' := bs_le hu
  have hi' : b < 132 := by omega
  have e1 : mg g t u P (bs t + b) = row g t b := mg_rd hi' hP
  have e2 : mg g t u P (bs u + b) = row g u b := mg_rd hi' hP
  unfold surv
  rw [← hi]
  by_cases q1 : row g u i ≤ row g t b
  · rw [if_neg (Int32.not_lt.mpr q1)]
    by_cases q2 : row g t i = row g u i
    · rw [if_pos (Or.inl q2)]
      rw [← q2] at q1
      simp (disch := omega) only [f_X5_survivor, fj_X5_survivor_40, fj_X5_survivor_45, fj_X5_survivor_57, X5_version, h1, h2, h3, h4, e1, e2, q1, q2.symm, gI, gR, gRn, sI_w, sR_w, gA, sA_w, gB, gBn, sBn_w, sB0_w, gL, sL_w, cK, bn, Option.bind_some, Option.map_some, nar9, inT, wA_self, wA_again, wB_self, wB_again, wL_self, wL_again, u1_self, nI_add, nI_mul, nI_sub, nI_div, nI_leT, nI_leF, nI_ltT, nI_ltF, nI_eqT, nI_eqF, nI_neg, nI_cl, lit_nI, nI_nlt0, if_true, if_false, if_pos, if_neg, true_and, and_true, not_false_eq_true, or_self, or_false, false_or, reduceIte, and_self, not_true_eq_false, ne_eq, mK_wI, mN_wI, mR_wI, mA_wI, mB_wI, mL_wI, mZ_wI, mK_wA, mN_wA, mI_wA, mR_wA, mB_wA, mL_wA, mZ_wA, mK_wB, mN_wB, mI_wB, mR_wB, mA_wB, mL_wB, mZ_wB, mK_wR, mN_wR, mI_wR, mA_wR, mB_wR, mL_wR, mZ_wR, mK_wL, mN_wL, mI_wL, mR_wL, mA_wL, mB_wL, mZ_wL]
    · by_cases q3 : row g t i ≤ row g u b
      · rw [if_neg (fun e => e.elim q2 (Int32.not_lt.mpr q3))]
        simp (disch := omega) only [f_X5_survivor, fj_X5_survivor_40, fj_X5_survivor_45, fj_X5_survivor_57, X5_version, h1, h2, h3, h4, e1, e2, q1, q2, q3, gI, gR, gRn, sI_w, sR_w, gA, sA_w, gB, gBn, sBn_w, sB0_w, gL, sL_w, cK, bn, Option.bind_some, Option.map_some, nar9, inT, wA_self, wA_again, wB_self, wB_again, wL_self, wL_again, u1_self, nI_add, nI_mul, nI_sub, nI_div, nI_leT, nI_leF, nI_ltT, nI_ltF, nI_eqT, nI_eqF, nI_neg, nI_cl, lit_nI, nI_nlt0, if_true, if_false, if_pos, if_neg, true_and, and_true, not_false_eq_true, or_self, or_false, false_or, reduceIte, and_self, not_true_eq_false, ne_eq, mK_wI, mN_wI, mR_wI, mA_wI, mB_wI, mL_wI, mZ_wI, mK_wA, mN_wA, mI_wA, mR_wA, mB_wA, mL_wA, mZ_wA, mK_wB, mN_wB, mI_wB, mR_wB, mA_wB, mL_wB, mZ_wB, mK_wR, mN_wR, mI_wR, mA_wR, mB_wR, mL_wR, mZ_wR, mK_wL, mN_wL, mI_wL, mR_wL, mA_wL, mB_wL, mZ_wL]
      · rw [if_pos (Or.inr (Int32.not_le.mp q3))]
        simp (disch := omega) only [f_X5_survivor, fj_X5_survivor_40, fj_X5_survivor_45, fj_X5_survivor_57, X5_version, h1, h2, h3, h4, e1, e2, q1, q2, q3, gI, gR, gRn, sI_w, sR_w, gA, sA_w, gB, gBn, sBn_w, sB0_w, gL, sL_w, cK, bn, Option.bind_some, Option.map_some, nar9, inT, wA_self, wA_again, wB_self, wB_again, wL_self, wL_again, u1_self, nI_add, nI_mul, nI_sub, nI_div, nI_leT, nI_leF, nI_ltT, nI_ltF, nI_eqT, nI_eqF, nI_neg, nI_cl, lit_nI, nI_nlt0, if_true, if_false, if_pos, if_neg, true_and, and_true, not_false_eq_true, or_self, or_false, false_or, reduceIte, and_self, not_true_eq_false, ne_eq, mK_wI, mN_wI, mR_wI, mA_wI, mB_wI, mL_wI, mZ_wI, mK_wA, mN_wA, mI_wA, mR_wA, mB_wA, mL_wA, mZ_wA, mK_wB, mN_wB, mI_wB, mR_wB, mA_wB, mL_wB, mZ_wB, mK_wR, mN_wR, mI_wR, mA_wR, mB_wR, mL_wR, mZ_wR, mK_wL, mN_wL, mI_wL, mR_wL, mA_wL, mB_wL, mZ_wL]
  · rw [if_pos (Int32.not_le.mp q1)]
    simp (disch := omega) only [f_X5_survivor, fj_X5_survivor_40, fj_X5_survivor_45, fj_X5_survivor_57, X5_version, h1, h2, h3, h4, e1, e2, q1, gI, gR, gRn, sI_w, sR_w, gA, sA_w, gB, gBn, sBn_w, sB0_w, gL, sL_w, cK, bn, Option.bind_some, Option.map_some, nar9, inT, wA_self, wA_again, wB_self, wB_again, wL_self, wL_again, u1_self, nI_add, nI_mul, nI_sub, nI_div, nI_leT, nI_leF, nI_ltT, nI_ltF, nI_eqT, nI_eqF, nI_neg, nI_cl, lit_nI, nI_nlt0, if_true, if_false, if_pos, if_neg, true_and, and_true, not_false_eq_true, or_self, or_false, false_or, reduceIte, and_self, not_true_eq_false, ne_eq, mK_wI, mN_wI, mR_wI, mA_wI, mB_wI, mL_wI, mZ_wI, mK_wA, mN_wA, mI_wA, mR_wA, mB_wA, mL_wA, mZ_wA, mK_wB, mN_wB, mI_wB, mR_wB, mA_wB, mL_wB, mZ_wB, mK_wR, mN_wR, mI_wR, mA_wR, mB_wR, mL_wR, mZ_wR, mK_wL, mN_wL, mI_wL, mR_wL, mA_wL, mB_wL, mZ_wL]
theorem X5_mergesEntry (hR : Rn M m w) (ht : t < 12) (hu : u < 12) {r b : Nat} (hr : r < 4) (hb4 : b < 4) {P : Nat → Prop} [DecidablePred P] (hP : ∀ i, i < 4 ∨ i = 100 + (4 * r + b) ∨ i = 116 + (4 * r + b) → ¬ P i) : f_X5_mergesEntry m (nI t) (nI u) (nI r) (nI b) (wA M w (mg g t u P)) = some (wA M w (mg g t u (fun p => (P p ∨ p = 116 + (4 * r + b)) ∨ p = 100 + (4 * r + b)))) := by
  have H := hR
  obtain ⟨h1, h2, h3, h4⟩ := hR
  have hb := bs_le ht
  have hb' := bs_le hu
  have k1 : 100 + (4 * r + b) < 132 := by omega
  have k2 : 116 + (4 * r + b) < 132 := by omega
  have p1 : ¬ P (100 + (4 * r + b)) := hP _ (Or.inr (Or.inl rfl))
  have p2 : ¬ P (116 + (4 * r + b)) := hP _ (Or.inr (Or.inr rfl))
  have e1 : mg g t u P (bs t + (100 + (4 * r + b))) = row g t (100 + (4 * r + b)) := mg_rd k1 p1
  have e2 : mg g t u P (bs u + (100 + (4 * r + b))) = row g u (100 + (4 * r + b)) := mg_rd k1 p1
  have e4 : mg g t u P (bs u + (116 + (4 * r + b))) = row g u (116 + (4 * r + b)) := mg_rd k2 p2
  have es := X5_survivor (g := g) H ht hu (i := 100 + (4 * r + b)) (b := b) hb4 (by omega) (P := P) (hP b (Or.inl hb4))
  have a1 : absR (row g t) (row g u) (100 + (4 * r + b)) = surv (row g t) (row g u) (100 + (4 * r + b)) := by unfold absR; rw [if_neg (by omega), if_pos (by omega)]
  have a2 : absR (row g t) (row g u) (116 + (4 * r + b)) = if surv (row g t) (row g u) (100 + (4 * r + b)) = 0 then 0 else if surv (row g t) (row g u) (100 + (4 * r + b)) = row g t (100 + (4 * r + b)) then row g t (116 + (4 * r + b)) else row g u (116 + (4 * r + b)) := by
    unfold absR; rw [if_neg (by omega), if_neg (by omega), show 116 + (4 * r + b) - 16 = 100 + (4 * r + b) by omega]
  rw [← mg_wr (P := fun p => P p ∨ p = 116 + (4 * r + b)) (v := surv (row g t) (row g u) (100 + (4 * r + b))) k1 a1.symm]
  by_cases q1 : surv (row g t) (row g u) (100 + (4 * r + b)) = 0
  · rw [← mg_wr (P := P) (v := nI 0) k2 (by rw [a2, if_pos q1]; rfl)]
    simp only [lit_nI] at q1
    simp (disch := omega) only [f_X5_mergesEntry, fj_X5_mergesEntry_94, X5_dot, X5_noted, h1, h2, h3, h4, e1, e2, e4, es, q1, gI, gR, gRn, sI_w, sR_w, gA, sA_w, gB, gBn, sBn_w, sB0_w, gL, sL_w, cK, bn, Option.bind_some, Option.map_some, nar9, inT, wA_self, wA_again, wB_self, wB_again, wL_self, wL_again, u1_self, nI_add, nI_mul, nI_sub, nI_div, nI_leT, nI_leF, nI_ltT, nI_ltF, nI_eqT, nI_eqF, nI_neg, nI_cl, lit_nI, nI_nlt0, if_true, if_false, if_pos, if_neg, true_and, and_true, not_false_eq_true, or_self, or_false, false_or, reduceIte, and_self, not_true_eq_false, ne_eq, mK_wI, mN_wI, mR_wI, mA_wI, mB_wI, mL_wI, mZ_wI, mK_wA, mN_wA, mI_wA, mR_wA, mB_wA, mL_wA, mZ_wA, mK_wB, mN_wB, mI_wB, mR_wB, mA_wB, mL_wB, mZ_wB, mK_wR, mN_wR, mI_wR, mA_wR, mB_wR, mL_wR, mZ_wR, mK_wL, mN_wL, mI_wL, mR_wL, mA_wL, mB_wL, mZ_wL]
  · by_cases q2 : surv (row g t) (row g u) (100 + (4 * r + b)) = row g t (100 + (4 * r + b))
    · rw [← mg_sk (P := P) k2 (by rw [a2, if_neg q1, if_pos q2])]
      rw [q2] at q1 es ⊢
      simp only [lit_nI] at q1
      simp (disch := omega) only [f_X5_mergesEntry, fj_X5_mergesEntry_94, X5_dot, X5_noted, h1, h2, h3, h4, e1, e2, e4, es, q1, gI, gR, gRn, sI_w, sR_w, gA, sA_w, gB, gBn, sBn_w, sB0_w, gL, sL_w, cK, bn, Option.bind_some, Option.map_some, nar9, inT, wA_self, wA_again, wB_self, wB_again, wL_self, wL_again, u1_self, nI_add, nI_mul, nI_sub, nI_div, nI_leT, nI_leF, nI_ltT, nI_ltF, nI_eqT, nI_eqF, nI_neg, nI_cl, lit_nI, nI_nlt0, if_true, if_false, if_pos, if_neg, true_and, and_true, not_false_eq_true, or_self, or_false, false_or, reduceIte, and_self, not_true_eq_false, ne_eq, mK_wI, mN_wI, mR_wI, mA_wI, mB_wI, mL_wI, mZ_wI, mK_wA, mN_wA, mI_wA, mR_wA, mB_wA, mL_wA, mZ_wA, mK_wB, mN_wB, mI_wB, mR_wB, mA_wB, mL_wB, mZ_wB, mK_wR, mN_wR, mI_wR, mA_wR, mB_wR, mL_wR, mZ_wR, mK_wL, mN_wL, mI_wL, mR_wL, mA_wL, mB_wL, mZ_wL]
    · rw [← mg_wr (P := P) (v := row g u (116 + (4 * r + b))) k2 (by rw [a2, if_neg q1, if_neg q2])]
      simp only [lit_nI] at q1
      simp (disch := omega) only [f_X5_mergesEntry, fj_X5_mergesEntry_94, X5_dot, X5_noted, h1, h2, h3, h4, e1, e2, e4, es, q1, q2, gI, gR, gRn, sI_w, sR_w, gA, sA_w, gB, gBn, sBn_w, sB0_w, gL, sL_w, cK, bn, Option.bind_some, Option.map_some, nar9, inT, wA_self, wA_again, wB_self, wB_again, wL_self, wL_again, u1_self, nI_add, nI_mul, nI_sub, nI_div, nI_leT, nI_leF, nI_ltT, nI_ltF, nI_eqT, nI_eqF, nI_neg, nI_cl, lit_nI, nI_nlt0, if_true, if_false, if_pos, if_neg, true_and, and_true, not_false_eq_true, or_self, or_false, false_or, reduceIte, and_self, not_true_eq_false, ne_eq, mK_wI, mN_wI, mR_wI, mA_wI, mB_wI, mL_wI, mZ_wI, mK_wA, mN_wA, mI_wA, mR_wA, mB_wA, mL_wA, mZ_wA, mK_wB, mN_wB, mI_wB, mR_wB, mA_wB, mL_wB, mZ_wB, mK_wR, mN_wR, mI_wR, mA_wR, mB_wR, mL_wR, mZ_wR, mK_wL, mN_wL, mI_wL, mR_wL, mA_wL, mB_wL, mZ_wL]
abbrev mP0 (k : Nat) (p : Nat) : Prop := 4 ≤ p ∧ p % 4 < k
abbrev mP1 (k c : Nat) (p : Nat) : Prop := mP0 k p ∨ (p % 4 = k ∧ (4 ≤ p ∧ p < 4 + 4 * c ∨ 20 ≤ p ∧ p < 20 + 4 * c))
abbrev mP2 (k c : Nat) (p : Nat) : Prop := mP0 k p ∨ (p % 4 = k ∧ 4 ≤ p ∧ p < 36 + 4 * c)
abbrev mP3 (k c : Nat) (p : Nat) : Prop := mP0 k p ∨ (p % 4 = k ∧ (4 ≤ p ∧ p < 100 + 4 * c ∨ 116 ≤ p ∧ p < 116 + 4 * c))
abbrev mP4 (c : Nat) (p : Nat) : Prop := 4 ≤ p ∨ p < c
theorem X5_merges4 (hR : Rn M m w) (ht : t < 12) (hu : u < 12) : fj_X5_merges_149 m (nI t) (nI u) (nI 0) (wA M w (mg g t u (mP4 0))) = some (wA M w (mg g t u (mP4 4))) := by
  have H := hR
  obtain ⟨h1, h2, h3, h4⟩ := hR
  have hb := bs_le ht
  have hb' := bs_le hu
  unfold fj_X5_merges_149
  refine loopM_run (st := fun k => (nI k, wA M w (mg g t u (mP4 k)))) (N := 4) rfl (fun k hk => ?_) ?_ (FUn (by decide))
  · have e := X5_raises (g := g) H ht hu (i := k) (by omega) (P := mP4 k) (by omega)
    rw [mg_congr (P := fun p => mP4 k p ∨ p = k) (Q := mP4 (k + 1)) (fun i hi => by omega)] at e
    dsimp only
    unfold fc_X5_merges_149
    rw [if_neg (show ¬ ((4 : Int32) ≤ nI k) from nI_ge hk (by decide)), X5_version, bn_some, X5_version, bn_some, cK_ok (M := wA M w (mg g t u (mP4 k))) h1, e, Option.bind_some, ← nI_add]; rfl
  · simp (disch := omega) only [fc_X5_merges_149, nI_add, nI_mul, nI_sub, nI_div, nI_leT, nI_leF, nI_ltT, nI_ltF, nI_eqT, nI_eqF, nI_neg, nI_cl, lit_nI, nI_nlt0, if_true, if_false, if_pos, if_neg, true_and, and_true, not_false_eq_true, or_self, or_false, false_or, reduceIte, and_self, not_true_eq_false, ne_eq, Option.map_some]
theorem X5_merges3 (hR : Rn M m w) (ht : t < 12) (hu : u < 12) {k : Nat} (hk : k < 4) : fj_X5_merges_120 m (nI t) (nI u) (nI k) (nI 0) (wA M w (mg g t u (mP3 k 0))) = some (.inl (nI (k + 1), wA M w (mg g t u (mP0 (k + 1))))) := by
  have H := hR
  obtain ⟨h1, h2, h3, h4⟩ := hR
  have hb := bs_le ht
  have hb' := bs_le hu
  unfold fj_X5_merges_120
  refine loopM_run (st := fun c => (nI c, wA M w (mg g t u (mP3 k c)))) (N := 4) rfl (fun c hc => ?_) ?_ (FUn (by decide))
  · have e := X5_mergesEntry (g := g) H ht hu (r := c) (b := k) hc hk (P := mP3 k c) (by omega)
    rw [mg_congr (P := fun p => (mP3 k c p ∨ p = 116 + (4 * c + k)) ∨ p = 100 + (4 * c + k)) (Q := mP3 k (c + 1)) (fun i hi => by omega)] at e
    simp (disch := omega) only [fc_X5_merges_120, h1, e, gI, gR, gRn, sI_w, sR_w, gA, sA_w, gB, gBn, sBn_w, sB0_w, gL, sL_w, cK, bn, Option.bind_some, Option.map_some, nar9, inT, wA_self, wA_again, wB_self, wB_again, wL_self, wL_again, u1_self, nI_add, nI_mul, nI_sub, nI_div, nI_leT, nI_leF, nI_ltT, nI_ltF, nI_eqT, nI_eqF, nI_neg, nI_cl, lit_nI, nI_nlt0, if_true, if_false, if_pos, if_neg, true_and, and_true, not_false_eq_true, or_self, or_false, false_or, reduceIte, and_self, not_true_eq_false, ne_eq, mK_wI, mN_wI, mR_wI, mA_wI, mB_wI, mL_wI, mZ_wI, mK_wA, mN_wA, mI_wA, mR_wA, mB_wA, mL_wA, mZ_wA, mK_wB, mN_wB, mI_wB, mR_wB, mA_wB, mL_wB, mZ_wB, mK_wR, mN_wR, mI_wR, mA_wR, mB_wR, mL_wR, mZ_wR, mK_wL, mN_wL, mI_wL, mR_wL, mA_wL, mB_wL, mZ_wL]
  · rw [mg_congr (P := mP3 k 4) (Q := mP0 (k + 1)) (fun i hi => by omega)]
    simp (disch := omega) only [fc_X5_merges_120, fj_X5_merges_141, nI_add, nI_mul, nI_sub, nI_div, nI_leT, nI_leF, nI_ltT, nI_ltF, nI_eqT, nI_eqF, nI_neg, nI_cl, lit_nI, nI_nlt0, if_true, if_false, if_pos, if_neg, true_and, and_true, not_false_eq_true, or_self, or_false, false_or, reduceIte, and_self, not_true_eq_false, ne_eq, Option.map_some]
theorem X5_merges2 (hR : Rn M m w) (ht : t < 12) (hu : u < 12) {k : Nat} (hk : k < 4) : fj_X5_merges_61 m (nI t) (nI u) (nI k) (nI 0) (wA M w (mg g t u (mP2 k 0))) = some (.inl (nI (k + 1), wA M w (mg g t u (mP0 (k + 1))))) := by
  have H := hR
  obtain ⟨h1, h2, h3, h4⟩ := hR
  have hb := bs_le ht
  have hb' := bs_le hu
  unfold fj_X5_merges_61
  refine loopM_run (st := fun c => (nI c, wA M w (mg g t u (mP2 k c)))) (N := 16) rfl (fun c hc => ?_) ?_ (FUn (by decide))
  · have hi : 36 + (4 * c + k) < 132 := by omega
    have p1 : ¬ mP2 k c (36 + (4 * c + k)) := by omega
    have e1 : mg g t u (mP2 k c) (bs t + (36 + (4 * c + k))) = row g t (36 + (4 * c + k)) := mg_rd hi p1
    have e2 : mg g t u (mP2 k c) (bs u + (36 + (4 * c + k))) = row g u (36 + (4 * c + k)) := mg_rd hi p1
    have es := X5_survivor (g := g) H ht hu (i := 36 + (4 * c + k)) (b := k) hk (by omega) (P := mP2 k c) (by omega)
    rw [← mg_congr (P := fun p => mP2 k c p ∨ p = 36 + (4 * c + k)) (Q := mP2 k (c + 1)) (fun i hi => by omega), ← mg_wr (v := surv (row g t) (row g u) (36 + (4 * c + k))) hi (by unfold absR; rw [if_neg (by omega), if_pos (by omega)])]
    simp (disch := omega) only [fc_X5_merges_61, X5_tag, h1, h2, h3, h4, e1, e2, es, gI, gR, gRn, sI_w, sR_w, gA, sA_w, gB, gBn, sBn_w, sB0_w, gL, sL_w, cK, bn, Option.bind_some, Option.map_some, nar9, inT, wA_self, wA_again, wB_self, wB_again, wL_self, wL_again, u1_self, nI_add, nI_mul, nI_sub, nI_div, nI_leT, nI_leF, nI_ltT, nI_ltF, nI_eqT, nI_eqF, nI_neg, nI_cl, lit_nI, nI_nlt0, if_true, if_false, if_pos, if_neg, true_and, and_true, not_false_eq_true, or_self, or_false, false_or, reduceIte, and_self, not_true_eq_false, ne_eq, mK_wI, mN_wI, mR_wI, mA_wI, mB_wI, mL_wI, mZ_wI, mK_wA, mN_wA, mI_wA, mR_wA, mB_wA, mL_wA, mZ_wA, mK_wB, mN_wB, mI_wB, mR_wB, mA_wB, mL_wB, mZ_wB, mK_wR, mN_wR, mI_wR, mA_wR, mB_wR, mL_wR, mZ_wR, mK_wL, mN_wL, mI_wL, mR_wL, mA_wL, mB_wL, mZ_wL]
  · rw [mg_congr (P := mP2 k 16) (Q := mP3 k 0) (fun i hi => by omega)]
    simp (disch := omega) only [fc_X5_merges_61, fj_X5_merges_117, nI_add, nI_mul, nI_sub, nI_div, nI_leT, nI_leF, nI_ltT, nI_ltF, nI_eqT, nI_eqF, nI_neg, nI_cl, lit_nI, nI_nlt0, if_true, if_false, if_pos, if_neg, true_and, and_true, not_false_eq_true, or_self, or_false, false_or, reduceIte, and_self, not_true_eq_false, ne_eq, X5_merges3 H ht hu hk]
theorem X5_merges1 (hR : Rn M m w) (ht : t < 12) (hu : u < 12) {k : Nat} (hk : k < 4) : fj_X5_merges_10 m (nI t) (nI u) (nI k) (nI 0) (wA M w (mg g t u (mP1 k 0))) = some (.inl (nI (k + 1), wA M w (mg g t u (mP0 (k + 1))))) := by
  have H := hR
  obtain ⟨h1, h2, h3, h4⟩ := hR
  have hb := bs_le ht
  have hb' := bs_le hu
  unfold fj_X5_merges_10
  refine loopM_run (st := fun c => (nI c, wA M w (mg g t u (mP1 k c)))) (N := 4) rfl (fun c hc => ?_) ?_ (FUn (by decide))
  · have e := X5_raises (g := g) H ht hu (i := 4 + (4 * c + k)) (by omega) (P := mP1 k c) (by omega)
    have e' := X5_raises (g := g) H ht hu (i := 20 + (4 * c + k)) (by omega) (P := fun p => mP1 k c p ∨ p = 4 + (4 * c + k)) (by omega)
    rw [mg_congr (P := fun p => (mP1 k c p ∨ p = 4 + (4 * c + k)) ∨ p = 20 + (4 * c + k)) (Q := mP1 k (c + 1)) (fun i hi => by omega)] at e'
    dsimp only
    unfold fc_X5_merges_10
    rw [if_neg (show ¬ ((4 : Int32) ≤ nI c) from nI_ge hc (by decide)), X5_more, bn_some, X5_more, bn_some, cK_ok (M := wA M w (mg g t u (mP1 k c))) h1, e, Option.bind_some, X5_less, bn_some, X5_less, bn_some, cK_ok (M := wA M w (mg g t u (fun p => mP1 k c p ∨ p = 4 + (4 * c + k)))) h1, e', Option.bind_some, ← nI_add]; rfl
  · rw [mg_congr (P := mP1 k 4) (Q := mP2 k 0) (fun i hi => by omega)]
    simp (disch := omega) only [fc_X5_merges_10, fj_X5_merges_58, nI_add, nI_mul, nI_sub, nI_div, nI_leT, nI_leF, nI_ltT, nI_ltF, nI_eqT, nI_eqF, nI_neg, nI_cl, lit_nI, nI_nlt0, if_true, if_false, if_pos, if_neg, true_and, and_true, not_false_eq_true, or_self, or_false, false_or, reduceIte, and_self, not_true_eq_false, ne_eq, X5_merges2 H ht hu hk]
theorem X5_merges (hR : Rn M m w) (ht : t < 12) (hu : u < 12) : f_X5_merges m (nI t) (nI u) (wA M w g) = some (wA M w (put g t (absR (row g t) (row g u)))) := by
  have H := hR
  obtain ⟨h1, h2, h3, h4⟩ := hR
  have hb := bs_le ht
  have hb' := bs_le hu
  unfold f_X5_merges fj_X5_merges_2
  refine loopM_run (st := fun k => (nI k, wA M w (mg g t u (mP0 k)))) (N := 4) ?_ (fun k hk => ?_) ?_ (FUn (by decide))
  · show _ = (nI 0, wA M w (mg g t u (mP0 0)))
    rw [mg_no (fun i hi => by omega)]; rfl
  · rw [mg_congr (P := mP0 k) (Q := mP1 k 0) (fun i hi => by omega)]
    simp (disch := omega) only [fc_X5_merges_2, nI_add, nI_mul, nI_sub, nI_div, nI_leT, nI_leF, nI_ltT, nI_ltF, nI_eqT, nI_eqF, nI_neg, nI_cl, lit_nI, nI_nlt0, if_true, if_false, if_pos, if_neg, true_and, and_true, not_false_eq_true, or_self, or_false, false_or, reduceIte, and_self, not_true_eq_false, ne_eq, X5_merges1 H ht hu hk]
  · rw [mg_congr (P := mP0 4) (Q := mP4 0) (fun i hi => by omega), ← mg_all (P := mP4 4) (fun i hi => by omega)]
    simp (disch := omega) only [fc_X5_merges_2, fj_X5_merges_147, nI_add, nI_mul, nI_sub, nI_div, nI_leT, nI_leF, nI_ltT, nI_ltF, nI_eqT, nI_eqF, nI_neg, nI_cl, lit_nI, nI_nlt0, if_true, if_false, if_pos, if_neg, true_and, and_true, not_false_eq_true, or_self, or_false, false_or, reduceIte, and_self, not_true_eq_false, ne_eq, X5_merges4 H ht hu]
end RM
