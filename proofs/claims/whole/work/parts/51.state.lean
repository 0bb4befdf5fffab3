/-! THE CLASS'S STATES: each method, as a function of the cells -/
def St (M : Mem) (s c : Nat) : Prop := mK M s = 3 ∧ mR M 64 s = some c ∧ mK M c = 9 ∧ mN M c = 132
def absD (a b : Nat → Int32) (j : Nat) (x y : Int32) : Int32 := if b j ≤ a (j % 4) then (if a j = b j then x else if b (j % 4) < a j then x else 0) else y
/-- a state that has absorbed another -/
def absF (a b : Nat → Int32) : Nat → Int32 := fun i => if i < 36 then (if a i < b i then b i else a i) else if i < 116 then absD a b i (a i) (b i) else if i < 132 then absD a b (i - 16) (a i) (b i) else a i
def dotF (x y : Nat → Int32) (i : Nat) : Nat → Int32 := fun p => if p = i then absD x y i (x i) (y i) else if 100 ≤ i ∧ p = i + 16 then absD x y i (x p) (y p) else x p
theorem St.wA {M : Mem} {s c a : Nat} {g : Nat → Int32} (h : St M s c) : St (wA M a g) s c := h
theorem St.wI {M : Mem} {s c a f : Nat} {g : Int32} (h : St M s c) : St (wI M f a g) s c := h
theorem X2_setDot {M : Mem} {s c i : Nat} {d v : Int32} (h : St M s c) (hi : i < 116) : f_X2_setDot s (nI i) d v M = some (wA M c (if i < 100 then u1 (mA M c) i d else u1 (u1 (mA M c) i d) (i + 16) v)) := by
  obtain ⟨h1, h2, h3, h4⟩ := h
  by_cases hc : i < 100
  · simp (disch := omega) only [f_X2_setDot, fj_X2_setDot_26, h1, h2, h3, h4, gI, gR, gRn, sI, sR, gA, sA, gB, gBn, sBn, sB0, cK, bn, Option.bind_some, Option.map_some, nar9, inT, nI_add, nI_mul, nI_sub, nI_div, nI_leT, nI_leF, nI_ltT, nI_ltF, nI_eqT, nI_eqF, nI_neg, nI_cl, lit_nI, nI_nlt0, if_true, if_false, if_pos, if_neg, true_and, and_true, not_false_eq_true, or_self, or_false, false_or, reduceIte, and_self, not_true_eq_false, ne_eq, up2_wA, up2_wB, up2_wL, up2_wI, up2_wR, mK_wI, mN_wI, mR_wI, mA_wI, mB_wI, mL_wI, mZ_wI, mK_wA, mN_wA, mI_wA, mR_wA, mB_wA, mL_wA, mZ_wA, mK_wB, mN_wB, mI_wB, mR_wB, mA_wB, mL_wB, mZ_wB, mK_wR, mN_wR, mI_wR, mA_wR, mB_wR, mL_wR, mZ_wR, mK_wL, mN_wL, mI_wL, mR_wL, mA_wL, mB_wL, mZ_wL, mI_wI, mR_wR, mA_wA, mB_wB, mL_wL, hc]
  · simp (disch := omega) only [f_X2_setDot, fj_X2_setDot_26, h1, h2, h3, h4, gI, gR, gRn, sI, sR, gA, sA, gB, gBn, sBn, sB0, cK, bn, Option.bind_some, Option.map_some, nar9, inT, nI_add, nI_mul, nI_sub, nI_div, nI_leT, nI_leF, nI_ltT, nI_ltF, nI_eqT, nI_eqF, nI_neg, nI_cl, lit_nI, nI_nlt0, if_true, if_false, if_pos, if_neg, true_and, and_true, not_false_eq_true, or_self, or_false, false_or, reduceIte, and_self, not_true_eq_false, ne_eq, up2_wA, up2_wB, up2_wL, up2_wI, up2_wR, mK_wI, mN_wI, mR_wI, mA_wI, mB_wI, mL_wI, mZ_wI, mK_wA, mN_wA, mI_wA, mR_wA, mB_wA, mL_wA, mZ_wA, mK_wB, mN_wB, mI_wB, mR_wB, mA_wB, mL_wB, mZ_wB, mK_wR, mN_wR, mI_wR, mA_wR, mB_wR, mL_wR, mZ_wR, mK_wL, mN_wL, mI_wL, mR_wL, mA_wL, mB_wL, mZ_wL, mI_wI, mR_wR, mA_wA, mB_wB, mL_wL, hc, wA_self, wA_again]
    rw [show i + 116 - 100 = i + 16 by omega]
