/-! THE CLASS'S STATES: each method, as a function of the cells -/
def St (M : Mem) (s c : Nat) : Prop := mK M s = 3 ∧ mR M 64 s = some c ∧ mK M c = 9 ∧ mN M c = 132
/-- how many of the first n -/
def cnt (p : Nat → Prop) [DecidablePred p] : Nat → Nat
  | 0 => 0
  | n + 1 => cnt p n + if p n then 1 else 0
theorem cnt_le (p : Nat → Prop) [DecidablePred p] (n : Nat) : cnt p n ≤ n := by
  induction n with
  | zero => exact Nat.le_refl 0
  | succ n ih => unfold cnt; split <;> omega
theorem cnt_t {p : Nat → Prop} [DecidablePred p] {n : Nat} (h : p n) : cnt p (n + 1) = cnt p n + 1 := by show cnt p n + (if p n then 1 else 0) = _; rw [if_pos h]
theorem cnt_f {p : Nat → Prop} [DecidablePred p] {n : Nat} (h : ¬ p n) : cnt p (n + 1) = cnt p n := by show cnt p n + (if p n then 1 else 0) = _; rw [if_neg h]; rfl
theorem cnt_congr {p q : Nat → Prop} [DecidablePred p] [DecidablePred q] {n : Nat} (h : ∀ i, i < n → (p i ↔ q i)) : cnt p n = cnt q n := by
  induction n with
  | zero => rfl
  | succ n ih => 
    have h1 := ih (fun i hi => h i (by omega))
    have h2 := h n (by omega)
    by_cases hp : p n
    · rw [cnt_t hp, cnt_t (h2.mp hp), h1]
    · rw [cnt_f hp, cnt_f (fun hq => hp (h2.mpr hq)), h1]
def absD (a b : Nat → Int32) (j : Nat) (x y : Int32) : Int32 := if b j ≤ a (j % 4) then (if a j = b j then x else if b (j % 4) < a j then x else 0) else y
/-- a state that has absorbed another -/
def absF (a b : Nat → Int32) : Nat → Int32 := fun i => if i < 36 then (if a i < b i then b i else a i) else if i < 100 then absD a b i (a i) (b i) else if i < 116 then absD a b i (a i) (b i) else if i < 132 then absD a b (i - 16) (a i) (b i) else a i
def dotF (x y : Nat → Int32) (i : Nat) : Nat → Int32 := fun p => if p = i then absD x y i (x i) (y i) else if 100 ≤ i ∧ p = i + 16 then absD x y i (x p) (y p) else x p
theorem St.wA {M : Mem} {s c a : Nat} {g : Nat → Int32} (h : St M s c) : St (wA M a g) s c := h
theorem St.wI {M : Mem} {s c a f : Nat} {g : Int32} (h : St M s c) : St (wI M f a g) s c := h
theorem X2_init {M : Mem} {s : Nat} (h : mK M s = 3) (hz : s < mZ M) : f_X2_init s M = some (wR (newA 9 132 M) 64 s (some (mZ M))) := by
  have e : mK (newA 9 132 M) s = 3 := by show va_up (mK M) (mZ M) 9 s = 3; unfold va_up; rw [if_neg (by omega)]; exact h
  simp only [f_X2_init, bnewa, sR_w, e, if_true, if_false, if_pos, if_neg, true_and, and_true, not_false_eq_true, or_self, or_false, false_or, reduceIte, and_self, not_true_eq_false, ne_eq, Option.bind_some]
theorem X2_setDot {M : Mem} {s c i : Nat} {d v : Int32} (h : St M s c) (hi : i < 116) : f_X2_setDot s (nI i) d v M = some (wA M c (if i < 100 then u1 (mA M c) i d else u1 (u1 (mA M c) i d) (i + 16) v)) := by
  obtain ⟨h1, h2, h3, h4⟩ := h
  by_cases hc : i < 100
  · simp (disch := omega) only [f_X2_setDot, fj_X2_setDot_26, h1, h2, h3, h4, gI, gR, gRn, sI_w, sR_w, gA, sA_w, gB, gBn, sBn_w, sB0_w, gL, sL_w, cK, bn, Option.bind_some, Option.map_some, nar9, inT, wA_self, wA_again, wB_self, wB_again, wL_self, wL_again, u1_self, nI_add, nI_mul, nI_sub, nI_div, nI_leT, nI_leF, nI_ltT, nI_ltF, nI_eqT, nI_eqF, nI_neg, nI_cl, lit_nI, nI_nlt0, if_true, if_false, if_pos, if_neg, true_and, and_true, not_false_eq_true, or_self, or_false, false_or, reduceIte, and_self, not_true_eq_false, ne_eq, mK_wI, mN_wI, mR_wI, mA_wI, mB_wI, mL_wI, mZ_wI, mK_wA, mN_wA, mI_wA, mR_wA, mB_wA, mL_wA, mZ_wA, mK_wB, mN_wB, mI_wB, mR_wB, mA_wB, mL_wB, mZ_wB, mK_wR, mN_wR, mI_wR, mA_wR, mB_wR, mL_wR, mZ_wR, mK_wL, mN_wL, mI_wL, mR_wL, mA_wL, mB_wL, mZ_wL, hc]
  · simp (disch := omega) only [f_X2_setDot, fj_X2_setDot_26, h1, h2, h3, h4, gI, gR, gRn, sI_w, sR_w, gA, sA_w, gB, gBn, sBn_w, sB0_w, gL, sL_w, cK, bn, Option.bind_some, Option.map_some, nar9, inT, wA_self, wA_again, wB_self, wB_again, wL_self, wL_again, u1_self, nI_add, nI_mul, nI_sub, nI_div, nI_leT, nI_leF, nI_ltT, nI_ltF, nI_eqT, nI_eqF, nI_neg, nI_cl, lit_nI, nI_nlt0, if_true, if_false, if_pos, if_neg, true_and, and_true, not_false_eq_true, or_self, or_false, false_or, reduceIte, and_self, not_true_eq_false, ne_eq, mK_wI, mN_wI, mR_wI, mA_wI, mB_wI, mL_wI, mZ_wI, mK_wA, mN_wA, mI_wA, mR_wA, mB_wA, mL_wA, mZ_wA, mK_wB, mN_wB, mI_wB, mR_wB, mA_wB, mL_wB, mZ_wB, mK_wR, mN_wR, mI_wR, mA_wR, mB_wR, mL_wR, mZ_wR, mK_wL, mN_wL, mI_wL, mR_wL, mA_wL, mB_wL, mZ_wL, hc, wA_self, wA_again]
    rw [show i + 116 - 100 = i + 16 by omega]
theorem X2_empty {M : Mem} {s c : Nat} (h : St M s c) : f_X2_empty s M = some (wA M c (fun i => if i < 132 then 0 else mA M c i)) := by
  obtain ⟨h1, h2, h3, h4⟩ := h
  unfold f_X2_empty fj_X2_empty_2
  refine loopM_run (st := fun i => (nI i, wA M c (fun j => if j < i then 0 else mA M c j))) (N := 132) ?_ (fun i hi => ?_) ?_ (FUn (by decide))
  · show ((0 : Int32), M) = (nI 0, wA M c (fun j => if j < 0 then 0 else mA M c j))
    rw [show (fun j => if j < 0 then (0 : Int32) else mA M c j) = mA M c from funext (fun j => if_neg (by omega)), wA_id]; rfl
  · simp (disch := omega) only [fc_X2_empty_2, h1, h2, h3, h4, gI, gR, gRn, sI_w, sR_w, gA, sA_w, gB, gBn, sBn_w, sB0_w, gL, sL_w, cK, bn, Option.bind_some, Option.map_some, nar9, inT, wA_self, wA_again, wB_self, wB_again, wL_self, wL_again, u1_self, nI_add, nI_mul, nI_sub, nI_div, nI_leT, nI_leF, nI_ltT, nI_ltF, nI_eqT, nI_eqF, nI_neg, nI_cl, lit_nI, nI_nlt0, if_true, if_false, if_pos, if_neg, true_and, and_true, not_false_eq_true, or_self, or_false, false_or, reduceIte, and_self, not_true_eq_false, ne_eq, mK_wI, mN_wI, mR_wI, mA_wI, mB_wI, mL_wI, mZ_wI, mK_wA, mN_wA, mI_wA, mR_wA, mB_wA, mL_wA, mZ_wA, mK_wB, mN_wB, mI_wB, mR_wB, mA_wB, mL_wB, mZ_wB, mK_wR, mN_wR, mI_wR, mA_wR, mB_wR, mL_wR, mZ_wR, mK_wL, mN_wL, mI_wL, mR_wL, mA_wL, mB_wL, mZ_wL, wA_self, wA_again]
    refine congrArg (fun g => some (Sum.inl (nI (i + 1), wA M c g))) (funext (fun j => ?_))
    unfold u1; dsimp only
    by_cases hj : j = i
    · subst hj; rw [if_pos rfl, if_pos (by omega)]
    · rw [if_neg hj]; by_cases hk : j < i
      · rw [if_pos hk, if_pos (by omega)]
      · rw [if_neg hk, if_neg (by omega)]
  · simp (disch := omega) only [fc_X2_empty_2, nI_add, nI_mul, nI_sub, nI_div, nI_leT, nI_leF, nI_ltT, nI_ltF, nI_eqT, nI_eqF, nI_neg, nI_cl, lit_nI, nI_nlt0, if_true, if_false, if_pos, if_neg, true_and, and_true, not_false_eq_true, or_self, or_false, false_or, reduceIte, and_self, not_true_eq_false, ne_eq, Option.map_some]
theorem cpy0 (x y : Nat → Int32) : va_cpy x y 0 0 132 = fun i => if i < 132 then x i else y i := by
  funext i; unfold va_cpy
  by_cases h : i < 132
  · simp [h]
  · simp [h]
theorem X2_copyFrom {M : Mem} {s c s' c' : Nat} (h : St M s c) (h' : St M s' c') : f_X2_copyFrom s s' M = some (wA M c (fun i => if i < 132 then mA M c' i else mA M c i)) := by
  obtain ⟨h1, h2, h3, h4⟩ := h
  obtain ⟨k1, k2, k3, k4⟩ := h'
  simp (disch := omega) only [f_X2_copyFrom, cpA_w, h1, h2, h3, h4, k1, k2, k3, k4, gI, gR, gRn, sI_w, sR_w, gA, sA_w, gB, gBn, sBn_w, sB0_w, gL, sL_w, cK, bn, Option.bind_some, Option.map_some, nar9, inT, wA_self, wA_again, wB_self, wB_again, wL_self, wL_again, u1_self, nI_add, nI_mul, nI_sub, nI_div, nI_leT, nI_leF, nI_ltT, nI_ltF, nI_eqT, nI_eqF, nI_neg, nI_cl, lit_nI, nI_nlt0, if_true, if_false, if_pos, if_neg, true_and, and_true, not_false_eq_true, or_self, or_false, false_or, reduceIte, and_self, not_true_eq_false, ne_eq]
  simp (disch := omega) only [nI_add, nI_mul, nI_sub, nI_div, nI_leT, nI_leF, nI_ltT, nI_ltF, nI_eqT, nI_eqF, nI_neg, nI_cl, lit_nI, nI_nlt0, if_true, if_false, if_pos, if_neg, true_and, and_true, not_false_eq_true, or_self, or_false, false_or, reduceIte, and_self, not_true_eq_false, ne_eq, Nat.zero_add, Nat.le_refl, cpy0]
/-- the same cells -/
def eqS (a b : Nat → Int32) : Prop := ∀ i, i < 132 → a i = b i
theorem X2_sameAs {M : Mem} {s c s' c' : Nat} (h : St M s c) (h' : St M s' c') [Decidable (eqS (mA M c) (mA M c'))] : f_X2_sameAs s s' M = some (if eqS (mA M c) (mA M c') then 1 else 0, M) := by
  obtain ⟨h1, h2, h3, h4⟩ := h
  obtain ⟨k1, k2, k3, k4⟩ := h'
  have key : ∀ (n i fuel : Nat), i + n = 132 → n < fuel → (∀ j, j < i → mA M c j = mA M c' j) → loopM (fun q : (Int32 × Mem) => fc_X2_sameAs_2 s s' q.1 q.2) fuel (nI i, M) = some (if eqS (mA M c) (mA M c') then 1 else 0, M) := by
    intro n
    induction n with
    | zero =>
      intro i fuel e hf hj
      obtain ⟨f, rfl⟩ : ∃ f, fuel = f + 1 := ⟨fuel - 1, by omega⟩
      unfold loopM
      obtain rfl : i = 132 := by omega
      simp (disch := omega) only [fc_X2_sameAs_2, fj_X2_sameAs_32, nI_add, nI_mul, nI_sub, nI_div, nI_leT, nI_leF, nI_ltT, nI_ltF, nI_eqT, nI_eqF, nI_neg, nI_cl, lit_nI, nI_nlt0, if_true, if_false, if_pos, if_neg, true_and, and_true, not_false_eq_true, or_self, or_false, false_or, reduceIte, and_self, not_true_eq_false, ne_eq, Option.map_some]
      rw [if_pos (show eqS (mA M c) (mA M c') from fun j hj' => hj j hj')]
    | succ n ih =>
      intro i fuel e hf hj
      obtain ⟨f, rfl⟩ : ∃ f, fuel = f + 1 := ⟨fuel - 1, by omega⟩
      unfold loopM
      by_cases q : mA M c i = mA M c' i
      · simp (disch := omega) only [fc_X2_sameAs_2, h1, h2, h3, h4, k1, k2, k3, k4, gI, gR, gRn, sI_w, sR_w, gA, sA_w, gB, gBn, sBn_w, sB0_w, gL, sL_w, cK, bn, Option.bind_some, Option.map_some, nar9, inT, wA_self, wA_again, wB_self, wB_again, wL_self, wL_again, u1_self, nI_add, nI_mul, nI_sub, nI_div, nI_leT, nI_leF, nI_ltT, nI_ltF, nI_eqT, nI_eqF, nI_neg, nI_cl, lit_nI, nI_nlt0, if_true, if_false, if_pos, if_neg, true_and, and_true, not_false_eq_true, or_self, or_false, false_or, reduceIte, and_self, not_true_eq_false, ne_eq, q]
        refine ih (i + 1) f (by omega) (by omega) (fun j hj' => ?_)
        by_cases e : j = i
        · rw [e, q]
        · exact hj j (by omega)
      · simp (disch := omega) only [fc_X2_sameAs_2, fj_X2_sameAs_24, h1, h2, h3, h4, k1, k2, k3, k4, gI, gR, gRn, sI_w, sR_w, gA, sA_w, gB, gBn, sBn_w, sB0_w, gL, sL_w, cK, bn, Option.bind_some, Option.map_some, nar9, inT, wA_self, wA_again, wB_self, wB_again, wL_self, wL_again, u1_self, nI_add, nI_mul, nI_sub, nI_div, nI_leT, nI_leF, nI_ltT, nI_ltF, nI_eqT, nI_eqF, nI_neg, nI_cl, lit_nI, nI_nlt0, if_true, if_false, if_pos, if_neg, true_and, and_true, not_false_eq_true, or_self, or_false, false_or, reduceIte, and_self, not_true_eq_false, ne_eq, q]
        rw [if_neg (fun hh => q (hh i (by omega)))]
  exact key 132 0 FU rfl (FUn (by decide)) (fun j hj => absurd hj (by omega))
theorem dotF_id {x y : Nat → Int32} {i : Nat} (h : absD x y i (x i) (y i) = x i) (h2 : absD x y i (x (i + 16)) (y (i + 16)) = x (i + 16)) : dotF x y i = x := by
  funext p; unfold dotF
  by_cases e : p = i
  · subst e; rw [if_pos rfl, h]
  · rw [if_neg e]
    by_cases e2 : 100 ≤ i ∧ p = i + 16
    · rw [if_pos e2, e2.2, h2]
    · rw [if_neg e2]
theorem dotF_u1 {x y : Nat → Int32} {i : Nat} {d v : Int32} (h : absD x y i (x i) (y i) = d) (h2 : 100 ≤ i → absD x y i (x (i + 16)) (y (i + 16)) = v) : (if i < 100 then u1 x i d else u1 (u1 x i d) (i + 16) v) = dotF x y i := by
  funext p
  unfold dotF
  by_cases hc : i < 100
  · rw [if_pos hc]; unfold u1
    by_cases e : p = i
    · rw [if_pos e, if_pos e, h]
    · rw [if_neg e, if_neg e, if_neg (by omega)]
  · rw [if_neg hc]; unfold u1
    by_cases e : p = i
    · rw [if_neg (by omega), if_pos e, if_pos e, h]
    · by_cases e2 : p = i + 16
      · rw [if_pos e2, if_neg e, if_pos ⟨by omega, e2⟩, e2, h2 (by omega)]
      · rw [if_neg e2, if_neg e, if_neg e, if_neg (by omega)]
theorem nI_mod4 {i : Nat} (h : i < 2147483648) : nI i - nI (i / 4 * 4) = nI (i % 4) := by
  rw [nI_sub (by omega)]; congr 1; omega
theorem mod4 (i : Nat) : i - i / 4 * 4 = i % 4 := by omega
theorem X2_absorbDot {M : Mem} {s c s' c' i : Nat} (h : St M s c) (h' : St M s' c') (hi : i < 116) : f_X2_absorbDot s s' (nI i) M = some (wA M c (dotF (mA M c) (mA M c') i)) := by
  have H := h
  obtain ⟨h1, h2, h3, h4⟩ := h
  obtain ⟨k1, k2, k3, k4⟩ := h'
  have hid : some (wA M c (mA M c)) = some M := by rw [wA_id]
  by_cases q1 : mA M c' i ≤ mA M c (i % 4)
  · by_cases q2 : mA M c i = mA M c' i
    · rw [dotF_id (by unfold absD; rw [if_pos q1, if_pos q2]) (by unfold absD; rw [if_pos q1, if_pos q2]), hid]
      rw [q2.symm] at q1
      simp (disch := omega) only [f_X2_absorbDot, fj_X2_absorbDot_88, h1, h2, h3, h4, k1, k2, k3, k4, gI, gR, gRn, sI_w, sR_w, gA, sA_w, gB, gBn, sBn_w, sB0_w, gL, sL_w, cK, bn, Option.bind_some, Option.map_some, nar9, inT, wA_self, wA_again, wB_self, wB_again, wL_self, wL_again, u1_self, mod4, nI_add, nI_mul, nI_sub, nI_div, nI_leT, nI_leF, nI_ltT, nI_ltF, nI_eqT, nI_eqF, nI_neg, nI_cl, lit_nI, nI_nlt0, if_true, if_false, if_pos, if_neg, true_and, and_true, not_false_eq_true, or_self, or_false, false_or, reduceIte, and_self, not_true_eq_false, ne_eq, q1, q2.symm]
    · by_cases q3 : mA M c' (i % 4) < mA M c i
      · rw [dotF_id (by unfold absD; rw [if_pos q1, if_neg q2, if_pos q3]) (by unfold absD; rw [if_pos q1, if_neg q2, if_pos q3]), hid]
        simp (disch := omega) only [f_X2_absorbDot, fj_X2_absorbDot_88, h1, h2, h3, h4, k1, k2, k3, k4, gI, gR, gRn, sI_w, sR_w, gA, sA_w, gB, gBn, sBn_w, sB0_w, gL, sL_w, cK, bn, Option.bind_some, Option.map_some, nar9, inT, wA_self, wA_again, wB_self, wB_again, wL_self, wL_again, u1_self, mod4, nI_add, nI_mul, nI_sub, nI_div, nI_leT, nI_leF, nI_ltT, nI_ltF, nI_eqT, nI_eqF, nI_neg, nI_cl, lit_nI, nI_nlt0, if_true, if_false, if_pos, if_neg, true_and, and_true, not_false_eq_true, or_self, or_false, false_or, reduceIte, and_self, not_true_eq_false, ne_eq, q1, q2, q3]
      · simp (disch := omega) only [f_X2_absorbDot, fj_X2_absorbDot_88, h1, h2, h3, h4, k1, k2, k3, k4, gI, gR, gRn, sI_w, sR_w, gA, sA_w, gB, gBn, sBn_w, sB0_w, gL, sL_w, cK, bn, Option.bind_some, Option.map_some, nar9, inT, wA_self, wA_again, wB_self, wB_again, wL_self, wL_again, u1_self, mod4, nI_add, nI_mul, nI_sub, nI_div, nI_leT, nI_leF, nI_ltT, nI_ltF, nI_eqT, nI_eqF, nI_neg, nI_cl, lit_nI, nI_nlt0, if_true, if_false, if_pos, if_neg, true_and, and_true, not_false_eq_true, or_self, or_false, false_or, reduceIte, and_self, not_true_eq_false, ne_eq, q1, q2, q3]
        rw [X2_setDot H hi, dotF_u1 (d := nI 0) (by unfold absD; rw [if_pos q1, if_neg q2, if_neg q3]; rfl) (fun _ => by unfold absD; rw [if_pos q1, if_neg q2, if_neg q3]; rfl)]
        rfl
  · by_cases hc : i < 100
    · simp (disch := omega) only [f_X2_absorbDot, fj_X2_absorbDot_88, fj_X2_absorbDot_57, h1, h2, h3, h4, k1, k2, k3, k4, gI, gR, gRn, sI_w, sR_w, gA, sA_w, gB, gBn, sBn_w, sB0_w, gL, sL_w, cK, bn, Option.bind_some, Option.map_some, nar9, inT, wA_self, wA_again, wB_self, wB_again, wL_self, wL_again, u1_self, mod4, nI_add, nI_mul, nI_sub, nI_div, nI_leT, nI_leF, nI_ltT, nI_ltF, nI_eqT, nI_eqF, nI_neg, nI_cl, lit_nI, nI_nlt0, if_true, if_false, if_pos, if_neg, true_and, and_true, not_false_eq_true, or_self, or_false, false_or, reduceIte, and_self, not_true_eq_false, ne_eq, q1]
      rw [X2_setDot H hi, dotF_u1 (by unfold absD; rw [if_neg q1]) (fun h => absurd hc (by omega))]
      rfl
    · simp (disch := omega) only [f_X2_absorbDot, fj_X2_absorbDot_88, fj_X2_absorbDot_57, h1, h2, h3, h4, k1, k2, k3, k4, gI, gR, gRn, sI_w, sR_w, gA, sA_w, gB, gBn, sBn_w, sB0_w, gL, sL_w, cK, bn, Option.bind_some, Option.map_some, nar9, inT, wA_self, wA_again, wB_self, wB_again, wL_self, wL_again, u1_self, mod4, nI_add, nI_mul, nI_sub, nI_div, nI_leT, nI_leF, nI_ltT, nI_ltF, nI_eqT, nI_eqF, nI_neg, nI_cl, lit_nI, nI_nlt0, if_true, if_false, if_pos, if_neg, true_and, and_true, not_false_eq_true, or_self, or_false, false_or, reduceIte, and_self, not_true_eq_false, ne_eq, q1]
      rw [X2_setDot H hi, dotF_u1 (by unfold absD; rw [if_neg q1]) (fun _ => by unfold absD; rw [if_neg q1, show i + 116 - 100 = i + 16 by omega])]
      rfl

theorem absD_congr {a b a' b' : Nat → Int32} {j : Nat} {x y : Int32} (h1 : b j = b' j) (h2 : a (j % 4) = a' (j % 4)) (h3 : a j = a' j) (h4 : b (j % 4) = b' (j % 4)) : absD a b j x y = absD a' b' j x y := by unfold absD; rw [h1, h2, h3, h4]
def absG (x y : Nat → Int32) (i : Nat) : Nat → Int32 := fun p => if (36 ≤ p ∧ p < i) ∨ (116 ≤ p ∧ p < i + 16) then absF x y p else x p
theorem absG_lo {x y : Nat → Int32} {i p : Nat} (h : p < 36) : absG x y i p = x p := if_neg (by omega)
theorem absG_eq {x y : Nat → Int32} {i p : Nat} (h : i ≤ p) (h2 : p < 116 ∨ i + 16 ≤ p) : absG x y i p = x p := if_neg (by omega)
theorem absG_step {x y y' : Nat → Int32} {i : Nat} (h1 : 36 ≤ i) (h2 : i < 116) (k1 : y' i = y i) (k2 : y' (i % 4) = y (i % 4)) (k3 : y' (i + 16) = y (i + 16)) : dotF (absG x y i) y' i = absG x y (i + 1) := by
  have e1 : absG x y i i = x i := absG_eq (Nat.le_refl i) (by omega)
  have e2 : absG x y i (i % 4) = x (i % 4) := absG_lo (by omega)
  have e3 : absG x y i (i + 16) = x (i + 16) := absG_eq (by omega) (by omega)
  have hD : ∀ u v, absD (absG x y i) y' i u v = absD x y i u v := fun u v => absD_congr k1 e2 e1 k2
  funext p
  unfold dotF
  simp only [hD]
  by_cases q : p = i
  · subst q
    rw [if_pos rfl, e1, k1]
    unfold absG
    rw [if_pos (by omega)]
    unfold absF
    rw [if_neg (by omega)]
    by_cases q : p < 100
    · rw [if_pos q]
    · rw [if_neg q, if_pos (by omega)]
  · rw [if_neg q]
    by_cases q2 : 100 ≤ i ∧ p = i + 16
    · obtain ⟨q2, rfl⟩ := q2
      rw [if_pos ⟨q2, rfl⟩, e3, k3]
      unfold absG
      rw [if_pos (by omega)]
      unfold absF
      rw [if_neg (by omega), if_neg (by omega), if_neg (by omega), if_pos (by omega), show i + 16 - 16 = i by omega]
    · rw [if_neg q2]
      unfold absG
      by_cases q3 : (36 ≤ p ∧ p < i) ∨ (116 ≤ p ∧ p < i + 16)
      · rw [if_pos q3, if_pos (by omega)]
      · rw [if_neg q3]
        by_cases q4 : p = i + 16 ∧ 116 ≤ p
        · exact absurd ⟨by omega, q4.1⟩ q2
        · rw [if_neg (by omega)]
def absH (x y : Nat → Int32) (i : Nat) : Nat → Int32 := fun p => if p < i then absF x y p else absG x y 116 p
theorem absH_at {x y : Nat → Int32} {i : Nat} (hi : i < 36) : absH x y i i = x i := by unfold absH; rw [if_neg (by omega), absG_lo hi]
theorem absH_step {x y : Nat → Int32} {i : Nat} (hi : i < 36) : u1 (absH x y i) i (if x i < y i then y i else x i) = absH x y (i + 1) := by
  funext j
  unfold u1 absH
  by_cases q : j = i
  · subst q; rw [if_pos rfl, if_pos (show j < j + 1 by omega)]; unfold absF; rw [if_pos hi]
  · rw [if_neg q]; by_cases q2 : j < i
    · rw [if_pos q2, if_pos (by omega)]
    · rw [if_neg q2, if_neg (by omega)]
theorem absH_end (x y : Nat → Int32) : absH x y 36 = absF x y := by
  funext j
  unfold absH
  by_cases q : j < 36
  · rw [if_pos q]
  · rw [if_neg q]; unfold absG
    by_cases q2 : j < 132
    · rw [if_pos (by omega)]
    · rw [if_neg (by omega)]; unfold absF; rw [if_neg q, if_neg (by omega), if_neg (by omega), if_neg q2]
theorem X2_absorb {M : Mem} {s c s' c' : Nat} (h : St M s c) (h' : St M s' c') : f_X2_absorb s s' M = some (wA M c (absF (mA M c) (mA M c'))) := by
  have H := h
  obtain ⟨h1, h2, h3, h4⟩ := h
  obtain ⟨k1, k2, k3, k4⟩ := h'
  have hy : ∀ (g : Nat → Int32) (p : Nat), g p = mA M c p → mA (wA M c g) c' p = mA M c' p := fun g p hg => by
    rw [mA_wA]; by_cases e : c' = c
    · rw [if_pos e, hg, e]
    · rw [if_neg e]
  have two : fj_X2_absorb_23 s s' (nI 0) (wA M c (absG (mA M c) (mA M c') 116)) = some (wA M c (absF (mA M c) (mA M c'))) := by
    unfold fj_X2_absorb_23
    refine loopM_run (st := fun i => (nI i, wA M c (absH (mA M c) (mA M c') i))) (N := 36) ?_ (fun i hi => ?_) ?_ (FUn (by decide))
    · show _ = (nI 0, wA M c (absH (mA M c) (mA M c') 0))
      rw [show absH (mA M c) (mA M c') 0 = absG (mA M c) (mA M c') 116 from funext (fun p => if_neg (by omega))]
    · have e1 := absH_at (x := mA M c) (y := mA M c') hi
      have e2 := hy _ i e1
      simp (disch := omega) only [fc_X2_absorb_23, h1, h2, h3, h4, k1, k2, k3, k4, e1, e2, absH_step, gI, gR, gRn, sI_w, sR_w, gA, sA_w, gB, gBn, sBn_w, sB0_w, gL, sL_w, cK, bn, Option.bind_some, Option.map_some, nar9, inT, wA_self, wA_again, wB_self, wB_again, wL_self, wL_again, u1_self, nI_add, nI_mul, nI_sub, nI_div, nI_leT, nI_leF, nI_ltT, nI_ltF, nI_eqT, nI_eqF, nI_neg, nI_cl, lit_nI, nI_nlt0, if_true, if_false, if_pos, if_neg, true_and, and_true, not_false_eq_true, or_self, or_false, false_or, reduceIte, and_self, not_true_eq_false, ne_eq, mK_wI, mN_wI, mR_wI, mA_wI, mB_wI, mL_wI, mZ_wI, mK_wA, mN_wA, mI_wA, mR_wA, mB_wA, mL_wA, mZ_wA, mK_wB, mN_wB, mI_wB, mR_wB, mA_wB, mL_wB, mZ_wB, mK_wR, mN_wR, mI_wR, mA_wR, mB_wR, mL_wR, mZ_wR, mK_wL, mN_wL, mI_wL, mR_wL, mA_wL, mB_wL, mZ_wL]
    · simp (disch := omega) only [fc_X2_absorb_23, nI_add, nI_mul, nI_sub, nI_div, nI_leT, nI_leF, nI_ltT, nI_ltF, nI_eqT, nI_eqF, nI_neg, nI_cl, lit_nI, nI_nlt0, if_true, if_false, if_pos, if_neg, true_and, and_true, not_false_eq_true, or_self, or_false, false_or, reduceIte, and_self, not_true_eq_false, ne_eq, Option.map_some, absH_end]
  unfold f_X2_absorb fj_X2_absorb_3
  refine loopM_run (st := fun i => (nI (i + 36), wA M c (absG (mA M c) (mA M c') (i + 36)))) (N := 80) ?_ (fun i hi => ?_) ?_ (FUn (by decide))
  · show ((36 : Int32), M) = (nI 36, wA M c (absG (mA M c) (mA M c') 36))
    rw [show absG (mA M c) (mA M c') 36 = mA M c from funext (fun p => if_neg (by omega)), wA_id]; rfl
  · have e := X2_absorbDot (i := i + 36) (St.wA (a := c) (g := absG (mA M c) (mA M c') (i + 36)) H) (St.wA (a := c) (g := absG (mA M c) (mA M c') (i + 36)) ⟨k1, k2, k3, k4⟩) (by omega)
    rw [wA_self, wA_again, absG_step (y' := mA (wA M c (absG (mA M c) (mA M c') (i + 36))) c') (by omega) (by omega) (hy _ _ (absG_eq (by omega) (by omega))) (hy _ _ (absG_lo (by omega))) (hy _ _ (absG_eq (by omega) (by omega)))] at e
    simp (disch := omega) only [fc_X2_absorb_3, h1, e, gI, gR, gRn, sI_w, sR_w, gA, sA_w, gB, gBn, sBn_w, sB0_w, gL, sL_w, cK, bn, Option.bind_some, Option.map_some, nar9, inT, wA_self, wA_again, wB_self, wB_again, wL_self, wL_again, u1_self, nI_add, nI_mul, nI_sub, nI_div, nI_leT, nI_leF, nI_ltT, nI_ltF, nI_eqT, nI_eqF, nI_neg, nI_cl, lit_nI, nI_nlt0, if_true, if_false, if_pos, if_neg, true_and, and_true, not_false_eq_true, or_self, or_false, false_or, reduceIte, and_self, not_true_eq_false, ne_eq, mK_wI, mN_wI, mR_wI, mA_wI, mB_wI, mL_wI, mZ_wI, mK_wA, mN_wA, mI_wA, mR_wA, mB_wA, mL_wA, mZ_wA, mK_wB, mN_wB, mI_wB, mR_wB, mA_wB, mL_wB, mZ_wB, mK_wR, mN_wR, mI_wR, mA_wR, mB_wR, mL_wR, mZ_wR, mK_wL, mN_wL, mI_wL, mR_wL, mA_wL, mB_wL, mZ_wL]
  · simp (disch := omega) only [fc_X2_absorb_3, fj_X2_absorb_21, nI_add, nI_mul, nI_sub, nI_div, nI_leT, nI_leF, nI_ltT, nI_ltF, nI_eqT, nI_eqF, nI_neg, nI_cl, lit_nI, nI_nlt0, if_true, if_false, if_pos, if_neg, true_and, and_true, not_false_eq_true, or_self, or_false, false_or, reduceIte, and_self, not_true_eq_false, ne_eq, Nat.reduceAdd]
    rw [two]

/-- what a delta holds -/
def newsP (a b : Nat → Int32) (i : Nat) : Prop := if i < 36 then b i < a i else b (i % 4) < a i
theorem X2_newsFor {M : Mem} {s c s' c' : Nat} [DecidablePred (newsP (mA M c) (mA M c'))] (h : St M s c) (h' : St M s' c') : f_X2_newsFor s s' M = some (nI (cnt (newsP (mA M c) (mA M c')) 116), M) := by
  obtain ⟨h1, h2, h3, h4⟩ := h
  obtain ⟨k1, k2, k3, k4⟩ := h'
  have two : fj_X2_newsFor_37 s s' (nI (cnt (newsP (mA M c) (mA M c')) 36)) (nI 36) M = some (nI (cnt (newsP (mA M c) (mA M c')) 116), M) := by
    unfold fj_X2_newsFor_37
    refine loopM_run (st := fun i => (nI (cnt (newsP (mA M c) (mA M c')) (i + 36)), nI (i + 36), M)) (N := 80) rfl (fun i hi => ?_) ?_ (FUn (by decide))
    · by_cases q : mA M c (i + 36) ≤ mA M c' ((i + 36) % 4)
      · have e : ¬ newsP (mA M c) (mA M c') (i + 36) := by unfold newsP; rw [if_neg (by omega)]; exact Int32.not_lt.mpr q
        rw [show i + 1 + 36 = i + 36 + 1 by omega, cnt_f e]
        simp (disch := omega) only [fc_X2_newsFor_37, fj_X2_newsFor_63, h1, h2, h3, h4, k1, k2, k3, k4, mod4, q, gI, gR, gRn, sI_w, sR_w, gA, sA_w, gB, gBn, sBn_w, sB0_w, gL, sL_w, cK, bn, Option.bind_some, Option.map_some, nar9, inT, wA_self, wA_again, wB_self, wB_again, wL_self, wL_again, u1_self, nI_add, nI_mul, nI_sub, nI_div, nI_leT, nI_leF, nI_ltT, nI_ltF, nI_eqT, nI_eqF, nI_neg, nI_cl, lit_nI, nI_nlt0, if_true, if_false, if_pos, if_neg, true_and, and_true, not_false_eq_true, or_self, or_false, false_or, reduceIte, and_self, not_true_eq_false, ne_eq]
      · have e : newsP (mA M c) (mA M c') (i + 36) := by unfold newsP; rw [if_neg (by omega)]; exact Int32.not_le.mp q
        rw [show i + 1 + 36 = i + 36 + 1 by omega, cnt_t e]
        simp (disch := omega) only [fc_X2_newsFor_37, fj_X2_newsFor_63, h1, h2, h3, h4, k1, k2, k3, k4, mod4, q, gI, gR, gRn, sI_w, sR_w, gA, sA_w, gB, gBn, sBn_w, sB0_w, gL, sL_w, cK, bn, Option.bind_some, Option.map_some, nar9, inT, wA_self, wA_again, wB_self, wB_again, wL_self, wL_again, u1_self, nI_add, nI_mul, nI_sub, nI_div, nI_leT, nI_leF, nI_ltT, nI_ltF, nI_eqT, nI_eqF, nI_neg, nI_cl, lit_nI, nI_nlt0, if_true, if_false, if_pos, if_neg, true_and, and_true, not_false_eq_true, or_self, or_false, false_or, reduceIte, and_self, not_true_eq_false, ne_eq]
    · simp (disch := omega) only [fc_X2_newsFor_37, fj_X2_newsFor_69, nI_add, nI_mul, nI_sub, nI_div, nI_leT, nI_leF, nI_ltT, nI_ltF, nI_eqT, nI_eqF, nI_neg, nI_cl, lit_nI, nI_nlt0, if_true, if_false, if_pos, if_neg, true_and, and_true, not_false_eq_true, or_self, or_false, false_or, reduceIte, and_self, not_true_eq_false, ne_eq, Option.map_some, Nat.reduceAdd]
  unfold f_X2_newsFor fj_X2_newsFor_4
  refine loopM_run (st := fun i => (nI (cnt (newsP (mA M c) (mA M c')) i), nI i, M)) (N := 36) rfl (fun i hi => ?_) ?_ (FUn (by decide))
  · by_cases q : mA M c i ≤ mA M c' i
    · have e : ¬ newsP (mA M c) (mA M c') i := by unfold newsP; rw [if_pos (by omega)]; exact Int32.not_lt.mpr q
      rw [cnt_f e]
      simp (disch := omega) only [fc_X2_newsFor_4, fj_X2_newsFor_28, h1, h2, h3, h4, k1, k2, k3, k4, q, gI, gR, gRn, sI_w, sR_w, gA, sA_w, gB, gBn, sBn_w, sB0_w, gL, sL_w, cK, bn, Option.bind_some, Option.map_some, nar9, inT, wA_self, wA_again, wB_self, wB_again, wL_self, wL_again, u1_self, nI_add, nI_mul, nI_sub, nI_div, nI_leT, nI_leF, nI_ltT, nI_ltF, nI_eqT, nI_eqF, nI_neg, nI_cl, lit_nI, nI_nlt0, if_true, if_false, if_pos, if_neg, true_and, and_true, not_false_eq_true, or_self, or_false, false_or, reduceIte, and_self, not_true_eq_false, ne_eq]
    · have e : newsP (mA M c) (mA M c') i := by unfold newsP; rw [if_pos (by omega)]; exact Int32.not_le.mp q
      rw [cnt_t e]
      simp (disch := omega) only [fc_X2_newsFor_4, fj_X2_newsFor_28, h1, h2, h3, h4, k1, k2, k3, k4, q, gI, gR, gRn, sI_w, sR_w, gA, sA_w, gB, gBn, sBn_w, sB0_w, gL, sL_w, cK, bn, Option.bind_some, Option.map_some, nar9, inT, wA_self, wA_again, wB_self, wB_again, wL_self, wL_again, u1_self, nI_add, nI_mul, nI_sub, nI_div, nI_leT, nI_leF, nI_ltT, nI_ltF, nI_eqT, nI_eqF, nI_neg, nI_cl, lit_nI, nI_nlt0, if_true, if_false, if_pos, if_neg, true_and, and_true, not_false_eq_true, or_self, or_false, false_or, reduceIte, and_self, not_true_eq_false, ne_eq]
  · simp (disch := omega) only [fc_X2_newsFor_4, fj_X2_newsFor_34, nI_add, nI_mul, nI_sub, nI_div, nI_leT, nI_leF, nI_ltT, nI_ltF, nI_eqT, nI_eqF, nI_neg, nI_cl, lit_nI, nI_nlt0, if_true, if_false, if_pos, if_neg, true_and, and_true, not_false_eq_true, or_self, or_false, false_or, reduceIte, and_self, not_true_eq_false, ne_eq]
    rw [two]
theorem X2_version {M : Mem} {s c i : Nat} (h : St M s c) (hi : i < 132) : f_X2_version s (nI i) M = some (mA M c i, M) := by
  obtain ⟨h1, h2, h3, h4⟩ := h
  simp (disch := omega) only [f_X2_version, h1, h2, h3, h4, gI, gR, gRn, sI_w, sR_w, gA, sA_w, gB, gBn, sBn_w, sB0_w, gL, sL_w, cK, bn, Option.bind_some, Option.map_some, nar9, inT, wA_self, wA_again, wB_self, wB_again, wL_self, wL_again, u1_self, nI_add, nI_mul, nI_sub, nI_div, nI_leT, nI_leF, nI_ltT, nI_ltF, nI_eqT, nI_eqF, nI_neg, nI_cl, lit_nI, nI_nlt0, if_true, if_false, if_pos, if_neg, true_and, and_true, not_false_eq_true, or_self, or_false, false_or, reduceIte, and_self, not_true_eq_false, ne_eq]
theorem X2_sum {M : Mem} {s c i j k : Nat} (h : St M s c) (hi : i ≤ 20) (hj : j < 4) (hk : k < 4) : f_X2_sum s (nI i) (nI j) (nI k) M = some (mA M c (i + j * 4 + k), M) := by
  obtain ⟨h1, h2, h3, h4⟩ := h
  simp (disch := omega) only [f_X2_sum, h1, h2, h3, h4, gI, gR, gRn, sI_w, sR_w, gA, sA_w, gB, gBn, sBn_w, sB0_w, gL, sL_w, cK, bn, Option.bind_some, Option.map_some, nar9, inT, wA_self, wA_again, wB_self, wB_again, wL_self, wL_again, u1_self, nI_add, nI_mul, nI_sub, nI_div, nI_leT, nI_leF, nI_ltT, nI_ltF, nI_eqT, nI_eqF, nI_neg, nI_cl, lit_nI, nI_nlt0, if_true, if_false, if_pos, if_neg, true_and, and_true, not_false_eq_true, or_self, or_false, false_or, reduceIte, and_self, not_true_eq_false, ne_eq]
theorem X2_addToSum {M : Mem} {s c i j k : Nat} {v : Int32} (h : St M s c) (hi : i ≤ 20) (hj : j < 4) (hk : k < 4) : f_X2_addToSum s (nI i) (nI j) (nI k) v M = some (wA M c (u1 (mA M c) (i + j * 4 + k) (mA M c (i + j * 4 + k) + v))) := by
  obtain ⟨h1, h2, h3, h4⟩ := h
  simp (disch := omega) only [f_X2_addToSum, h1, h2, h3, h4, gI, gR, gRn, sI_w, sR_w, gA, sA_w, gB, gBn, sBn_w, sB0_w, gL, sL_w, cK, bn, Option.bind_some, Option.map_some, nar9, inT, wA_self, wA_again, wB_self, wB_again, wL_self, wL_again, u1_self, nI_add, nI_mul, nI_sub, nI_div, nI_leT, nI_leF, nI_ltT, nI_ltF, nI_eqT, nI_eqF, nI_neg, nI_cl, lit_nI, nI_nlt0, if_true, if_false, if_pos, if_neg, true_and, and_true, not_false_eq_true, or_self, or_false, false_or, reduceIte, and_self, not_true_eq_false, ne_eq]
theorem X2_dotOfTag {M : Mem} {s c i j : Nat} (h : St M s c) (hi : i < 16) (hj : j < 4) : f_X2_dotOfTag s (nI i) (nI j) M = some (mA M c (36 + i * 4 + j), M) := by
  obtain ⟨h1, h2, h3, h4⟩ := h
  simp (disch := omega) only [f_X2_dotOfTag, h1, h2, h3, h4, gI, gR, gRn, sI_w, sR_w, gA, sA_w, gB, gBn, sBn_w, sB0_w, gL, sL_w, cK, bn, Option.bind_some, Option.map_some, nar9, inT, wA_self, wA_again, wB_self, wB_again, wL_self, wL_again, u1_self, nI_add, nI_mul, nI_sub, nI_div, nI_leT, nI_leF, nI_ltT, nI_ltF, nI_eqT, nI_eqF, nI_neg, nI_cl, lit_nI, nI_nlt0, if_true, if_false, if_pos, if_neg, true_and, and_true, not_false_eq_true, or_self, or_false, false_or, reduceIte, and_self, not_true_eq_false, ne_eq]
/-- a sum of four differences -/
def tot (a : Nat → Int32) (j : Nat) : Nat → Int32
  | 0 => 0
  | n + 1 => tot a j n + (a (4 + j * 4 + n) - a (20 + j * 4 + n))
theorem X2_total {M : Mem} {s c j : Nat} (h : St M s c) (hj : j < 4) : f_X2_total s (nI j) M = some (tot (mA M c) j 4, M) := by
  unfold f_X2_total fj_X2_total_4
  refine loopM_run (st := fun i => (tot (mA M c) j i, nI i, M)) (N := 4) rfl (fun i hi => ?_) ?_ (FUn (by decide))
  · simp (disch := first | assumption | omega) only [fc_X2_total_4, X2_sum h, h.1, gI, gR, gRn, sI_w, sR_w, gA, sA_w, gB, gBn, sBn_w, sB0_w, gL, sL_w, cK, bn, Option.bind_some, Option.map_some, nar9, inT, wA_self, wA_again, wB_self, wB_again, wL_self, wL_again, u1_self, nI_add, nI_mul, nI_sub, nI_div, nI_leT, nI_leF, nI_ltT, nI_ltF, nI_eqT, nI_eqF, nI_neg, nI_cl, lit_nI, nI_nlt0, if_true, if_false, if_pos, if_neg, true_and, and_true, not_false_eq_true, or_self, or_false, false_or, reduceIte, and_self, not_true_eq_false, ne_eq]
    rfl
  · simp (disch := omega) only [fc_X2_total_4, fj_X2_total_34, nI_add, nI_mul, nI_sub, nI_div, nI_leT, nI_leF, nI_ltT, nI_ltF, nI_eqT, nI_eqF, nI_neg, nI_cl, lit_nI, nI_nlt0, if_true, if_false, if_pos, if_neg, true_and, and_true, not_false_eq_true, or_self, or_false, false_or, reduceIte, and_self, not_true_eq_false, ne_eq, Option.map_some]
/-- the dots among four places -/
abbrev dts (a : Nat → Int32) (f : Nat) : Nat := cnt (fun j => a (f + j) ≠ 0) 4
theorem X2_dotsFrom {M : Mem} {s c f : Nat} (h : St M s c) (hf : f + 4 ≤ 132) : f_X2_dotsFrom s (nI f) M = some (nI (dts (mA M c) f), M) := by
  obtain ⟨h1, h2, h3, h4⟩ := h
  unfold f_X2_dotsFrom fj_X2_dotsFrom_4
  refine loopM_run (st := fun i => (nI (cnt (fun j => mA M c (f + j) ≠ 0) i), nI i, M)) (N := 4) rfl (fun i hi => ?_) ?_ (FUn (by decide))
  · by_cases q : mA M c (f + i) = 0
    · rw [cnt_f (fun e => e q)]
      simp (disch := omega) only [fc_X2_dotsFrom_4, fj_X2_dotsFrom_23, h1, h2, h3, h4, q, gI, gR, gRn, sI_w, sR_w, gA, sA_w, gB, gBn, sBn_w, sB0_w, gL, sL_w, cK, bn, Option.bind_some, Option.map_some, nar9, inT, wA_self, wA_again, wB_self, wB_again, wL_self, wL_again, u1_self, nI_add, nI_mul, nI_sub, nI_div, nI_leT, nI_leF, nI_ltT, nI_ltF, nI_eqT, nI_eqF, nI_neg, nI_cl, lit_nI, nI_nlt0, if_true, if_false, if_pos, if_neg, true_and, and_true, not_false_eq_true, or_self, or_false, false_or, reduceIte, and_self, not_true_eq_false, ne_eq]
    · rw [cnt_t q]
      simp only [lit_nI] at q
      simp (disch := omega) only [fc_X2_dotsFrom_4, fj_X2_dotsFrom_23, h1, h2, h3, h4, q, gI, gR, gRn, sI_w, sR_w, gA, sA_w, gB, gBn, sBn_w, sB0_w, gL, sL_w, cK, bn, Option.bind_some, Option.map_some, nar9, inT, wA_self, wA_again, wB_self, wB_again, wL_self, wL_again, u1_self, nI_add, nI_mul, nI_sub, nI_div, nI_leT, nI_leF, nI_ltT, nI_ltF, nI_eqT, nI_eqF, nI_neg, nI_cl, lit_nI, nI_nlt0, if_true, if_false, if_pos, if_neg, true_and, and_true, not_false_eq_true, or_self, or_false, false_or, reduceIte, and_self, not_true_eq_false, ne_eq]
  · simp (disch := omega) only [fc_X2_dotsFrom_4, fj_X2_dotsFrom_29, nI_add, nI_mul, nI_sub, nI_div, nI_leT, nI_leF, nI_ltT, nI_ltF, nI_eqT, nI_eqF, nI_neg, nI_cl, lit_nI, nI_nlt0, if_true, if_false, if_pos, if_neg, true_and, and_true, not_false_eq_true, or_self, or_false, false_or, reduceIte, and_self, not_true_eq_false, ne_eq, Option.map_some]; rfl
theorem X2_dotsOfTag {M : Mem} {s c t : Nat} (h : St M s c) (ht : t < 16) : f_X2_dotsOfTag s (nI t) M = some (nI (dts (mA M c) (36 + t * 4)), M) := by
  simp (disch := omega) only [f_X2_dotsOfTag, lit_nI, nI_mul, nI_add, h.1, X2_dotsFrom h, cK, if_true, bn]
theorem X2_entries {M : Mem} {s c t : Nat} (h : St M s c) (ht : t < 4) : f_X2_entries s (nI t) M = some (nI (dts (mA M c) (100 + t * 4)), M) := by
  simp (disch := omega) only [f_X2_entries, lit_nI, nI_mul, nI_add, h.1, X2_dotsFrom h, cK, if_true, bn]
def val (a : Nat → Int32) (r b : Nat) : Int32 := if a (100 + (r * 4 + b)) = 0 then -1 else a (116 + (r * 4 + b))
theorem X2_valueBy {M : Mem} {s c r b : Nat} (h : St M s c) (hr : r < 4) (hb : b < 4) : f_X2_valueBy s (nI r) (nI b) M = some (val (mA M c) r b, M) := by
  obtain ⟨h1, h2, h3, h4⟩ := h
  unfold val
  by_cases q : mA M c (100 + (r * 4 + b)) = 0
  · rw [if_pos q]
    simp (disch := omega) only [f_X2_valueBy, fj_X2_valueBy_31, h1, h2, h3, h4, q, gI, gR, gRn, sI_w, sR_w, gA, sA_w, gB, gBn, sBn_w, sB0_w, gL, sL_w, cK, bn, Option.bind_some, Option.map_some, nar9, inT, wA_self, wA_again, wB_self, wB_again, wL_self, wL_again, u1_self, nI_add, nI_mul, nI_sub, nI_div, nI_leT, nI_leF, nI_ltT, nI_ltF, nI_eqT, nI_eqF, nI_neg, nI_cl, lit_nI, nI_nlt0, if_true, if_false, if_pos, if_neg, true_and, and_true, not_false_eq_true, or_self, or_false, false_or, reduceIte, and_self, not_true_eq_false, ne_eq]
  · rw [if_neg q]
    simp only [lit_nI] at q
    simp (disch := omega) only [f_X2_valueBy, fj_X2_valueBy_31, h1, h2, h3, h4, q, gI, gR, gRn, sI_w, sR_w, gA, sA_w, gB, gBn, sBn_w, sB0_w, gL, sL_w, cK, bn, Option.bind_some, Option.map_some, nar9, inT, wA_self, wA_again, wB_self, wB_again, wL_self, wL_again, u1_self, nI_add, nI_mul, nI_sub, nI_div, nI_leT, nI_leF, nI_ltT, nI_ltF, nI_eqT, nI_eqF, nI_neg, nI_cl, lit_nI, nI_nlt0, if_true, if_false, if_pos, if_neg, true_and, and_true, not_false_eq_true, or_self, or_false, false_or, reduceIte, and_self, not_true_eq_false, ne_eq]
abbrev tagP (a : Nat → Int32) (t : Nat) : Prop := 0 < dts a (36 + t * 4)
theorem dts_lt (a : Nat → Int32) (f : Nat) : dts a f < 2147483648 := Nat.lt_of_le_of_lt (cnt_le _ 4) (by decide)
theorem X2_presentTags {M : Mem} {s c : Nat} (h : St M s c) : f_X2_presentTags s M = some (nI (cnt (tagP (mA M c)) 16), M) := by
  unfold f_X2_presentTags fj_X2_presentTags_4
  refine loopM_run (st := fun i => (nI (cnt (tagP (mA M c)) i), nI i, M)) (N := 16) rfl (fun i hi => ?_) ?_ (FUn (by decide))
  · have hl := dts_lt (mA M c) (36 + i * 4)
    by_cases q : tagP (mA M c) i
    · rw [cnt_t q]
      simp (disch := omega) only [fc_X2_presentTags_4, fj_X2_presentTags_21, X2_dotsOfTag h, h.1, gI, gR, gRn, sI_w, sR_w, gA, sA_w, gB, gBn, sBn_w, sB0_w, gL, sL_w, cK, bn, Option.bind_some, Option.map_some, nar9, inT, wA_self, wA_again, wB_self, wB_again, wL_self, wL_again, u1_self, nI_add, nI_mul, nI_sub, nI_div, nI_leT, nI_leF, nI_ltT, nI_ltF, nI_eqT, nI_eqF, nI_neg, nI_cl, lit_nI, nI_nlt0, if_true, if_false, if_pos, if_neg, true_and, and_true, not_false_eq_true, or_self, or_false, false_or, reduceIte, and_self, not_true_eq_false, ne_eq]
    · rw [cnt_f q]
      simp (disch := omega) only [fc_X2_presentTags_4, fj_X2_presentTags_21, X2_dotsOfTag h, h.1, gI, gR, gRn, sI_w, sR_w, gA, sA_w, gB, gBn, sBn_w, sB0_w, gL, sL_w, cK, bn, Option.bind_some, Option.map_some, nar9, inT, wA_self, wA_again, wB_self, wB_again, wL_self, wL_again, u1_self, nI_add, nI_mul, nI_sub, nI_div, nI_leT, nI_leF, nI_ltT, nI_ltF, nI_eqT, nI_eqF, nI_neg, nI_cl, lit_nI, nI_nlt0, if_true, if_false, if_pos, if_neg, true_and, and_true, not_false_eq_true, or_self, or_false, false_or, reduceIte, and_self, not_true_eq_false, ne_eq]
  · simp (disch := omega) only [fc_X2_presentTags_4, fj_X2_presentTags_27, nI_add, nI_mul, nI_sub, nI_div, nI_leT, nI_leF, nI_ltT, nI_ltF, nI_eqT, nI_eqF, nI_neg, nI_cl, lit_nI, nI_nlt0, if_true, if_false, if_pos, if_neg, true_and, and_true, not_false_eq_true, or_self, or_false, false_or, reduceIte, and_self, not_true_eq_false, ne_eq, Option.map_some]

/-- the present tag of a rank -/
def rankP (a : Nat → Int32) (r : Int32) (t : Nat) : Prop := tagP a t ∧ nI (cnt (tagP a) t) = r
theorem X2_presentTag {M : Mem} {s c : Nat} {r : Int32} [DecidablePred (rankP (mA M c) r)] (h : St M s c) : f_X2_presentTag s r M = some ((firstF (rankP (mA M c) r) 0 16).elim (-1) nI, M) := by
  unfold f_X2_presentTag fj_X2_presentTag_4
  refine Eq.trans (loopM_find (st := fun i => (nI (cnt (tagP (mA M c)) i), nI i, M)) (k := 0) (N := 16) (rankP (mA M c) r) (hit := fun i => some (nI i, M)) (miss := some (-1, M)) rfl (fun i _ hi q => ?_) (fun i _ hi q => ?_) ?_ (by omega) (FUn (by decide))) ?_
  · have hl := dts_lt (mA M c) (36 + i * 4)
    by_cases q1 : tagP (mA M c) i
    · have q2 : ¬ nI (cnt (tagP (mA M c)) i) = r := fun e => q ⟨q1, e⟩
      rw [cnt_t q1]
      simp (disch := omega) only [fc_X2_presentTag_4, fj_X2_presentTag_28, X2_dotsOfTag h, h.1, gI, gR, gRn, sI_w, sR_w, gA, sA_w, gB, gBn, sBn_w, sB0_w, gL, sL_w, cK, bn, Option.bind_some, Option.map_some, nar9, inT, wA_self, wA_again, wB_self, wB_again, wL_self, wL_again, u1_self, nI_add, nI_mul, nI_sub, nI_div, nI_leT, nI_leF, nI_ltT, nI_ltF, nI_eqT, nI_eqF, nI_neg, nI_cl, lit_nI, nI_nlt0, if_true, if_false, if_pos, if_neg, true_and, and_true, not_false_eq_true, or_self, or_false, false_or, reduceIte, and_self, not_true_eq_false, ne_eq, q2]
    · rw [cnt_f q1]
      simp (disch := omega) only [fc_X2_presentTag_4, fj_X2_presentTag_28, X2_dotsOfTag h, h.1, gI, gR, gRn, sI_w, sR_w, gA, sA_w, gB, gBn, sBn_w, sB0_w, gL, sL_w, cK, bn, Option.bind_some, Option.map_some, nar9, inT, wA_self, wA_again, wB_self, wB_again, wL_self, wL_again, u1_self, nI_add, nI_mul, nI_sub, nI_div, nI_leT, nI_leF, nI_ltT, nI_ltF, nI_eqT, nI_eqF, nI_neg, nI_cl, lit_nI, nI_nlt0, if_true, if_false, if_pos, if_neg, true_and, and_true, not_false_eq_true, or_self, or_false, false_or, reduceIte, and_self, not_true_eq_false, ne_eq]
  · have hl := dts_lt (mA M c) (36 + i * 4)
    obtain ⟨q1, q2⟩ := q
    simp (disch := omega) only [fc_X2_presentTag_4, fj_X2_presentTag_23, X2_dotsOfTag h, h.1, gI, gR, gRn, sI_w, sR_w, gA, sA_w, gB, gBn, sBn_w, sB0_w, gL, sL_w, cK, bn, Option.bind_some, Option.map_some, nar9, inT, wA_self, wA_again, wB_self, wB_again, wL_self, wL_again, u1_self, nI_add, nI_mul, nI_sub, nI_div, nI_leT, nI_leF, nI_ltT, nI_ltF, nI_eqT, nI_eqF, nI_neg, nI_cl, lit_nI, nI_nlt0, if_true, if_false, if_pos, if_neg, true_and, and_true, not_false_eq_true, or_self, or_false, false_or, reduceIte, and_self, not_true_eq_false, ne_eq, q2]
  · simp (disch := omega) only [fc_X2_presentTag_4, fj_X2_presentTag_34, nI_add, nI_mul, nI_sub, nI_div, nI_leT, nI_leF, nI_ltT, nI_ltF, nI_eqT, nI_eqF, nI_neg, nI_cl, lit_nI, nI_nlt0, if_true, if_false, if_pos, if_neg, true_and, and_true, not_false_eq_true, or_self, or_false, false_or, reduceIte, and_self, not_true_eq_false, ne_eq, Option.map_some]
  · cases firstF (rankP (mA M c) r) 0 16 <;> rfl
abbrev missP (a b : Nat → Int32) (t : Nat) : Prop := tagP a t ∧ dts b (36 + t * 4) = 0
theorem X2_tagsMissingIn {M : Mem} {s c s' c' : Nat} (h : St M s c) (h' : St M s' c') : f_X2_tagsMissingIn s s' M = some (nI (cnt (missP (mA M c) (mA M c')) 16), M) := by
  unfold f_X2_tagsMissingIn fj_X2_tagsMissingIn_4
  refine loopM_run (st := fun i => (nI (cnt (missP (mA M c) (mA M c')) i), nI i, M)) (N := 16) rfl (fun i hi => ?_) ?_ (FUn (by decide))
  · have hl := dts_lt (mA M c) (36 + i * 4)
    have hl' := dts_lt (mA M c') (36 + i * 4)
    by_cases q : tagP (mA M c) i
    · by_cases q2 : dts (mA M c') (36 + i * 4) = 0
      · rw [cnt_t ⟨q, q2⟩]
        simp (disch := omega) only [fc_X2_tagsMissingIn_4, fj_X2_tagsMissingIn_29, X2_dotsOfTag h, X2_dotsOfTag h', h.1, h'.1, gI, gR, gRn, sI_w, sR_w, gA, sA_w, gB, gBn, sBn_w, sB0_w, gL, sL_w, cK, bn, Option.bind_some, Option.map_some, nar9, inT, wA_self, wA_again, wB_self, wB_again, wL_self, wL_again, u1_self, nI_add, nI_mul, nI_sub, nI_div, nI_leT, nI_leF, nI_ltT, nI_ltF, nI_eqT, nI_eqF, nI_neg, nI_cl, lit_nI, nI_nlt0, if_true, if_false, if_pos, if_neg, true_and, and_true, not_false_eq_true, or_self, or_false, false_or, reduceIte, and_self, not_true_eq_false, ne_eq]
      · rw [cnt_f (fun e => q2 e.2)]
        simp (disch := omega) only [fc_X2_tagsMissingIn_4, fj_X2_tagsMissingIn_29, X2_dotsOfTag h, X2_dotsOfTag h', h.1, h'.1, gI, gR, gRn, sI_w, sR_w, gA, sA_w, gB, gBn, sBn_w, sB0_w, gL, sL_w, cK, bn, Option.bind_some, Option.map_some, nar9, inT, wA_self, wA_again, wB_self, wB_again, wL_self, wL_again, u1_self, nI_add, nI_mul, nI_sub, nI_div, nI_leT, nI_leF, nI_ltT, nI_ltF, nI_eqT, nI_eqF, nI_neg, nI_cl, lit_nI, nI_nlt0, if_true, if_false, if_pos, if_neg, true_and, and_true, not_false_eq_true, or_self, or_false, false_or, reduceIte, and_self, not_true_eq_false, ne_eq]
    · rw [cnt_f (fun e => q e.1)]
      simp (disch := omega) only [fc_X2_tagsMissingIn_4, fj_X2_tagsMissingIn_29, X2_dotsOfTag h, X2_dotsOfTag h', h.1, h'.1, gI, gR, gRn, sI_w, sR_w, gA, sA_w, gB, gBn, sBn_w, sB0_w, gL, sL_w, cK, bn, Option.bind_some, Option.map_some, nar9, inT, wA_self, wA_again, wB_self, wB_again, wL_self, wL_again, u1_self, nI_add, nI_mul, nI_sub, nI_div, nI_leT, nI_leF, nI_ltT, nI_ltF, nI_eqT, nI_eqF, nI_neg, nI_cl, lit_nI, nI_nlt0, if_true, if_false, if_pos, if_neg, true_and, and_true, not_false_eq_true, or_self, or_false, false_or, reduceIte, and_self, not_true_eq_false, ne_eq]
  · simp (disch := omega) only [fc_X2_tagsMissingIn_4, fj_X2_tagsMissingIn_35, nI_add, nI_mul, nI_sub, nI_div, nI_leT, nI_leF, nI_ltT, nI_ltF, nI_eqT, nI_eqF, nI_neg, nI_cl, lit_nI, nI_nlt0, if_true, if_false, if_pos, if_neg, true_and, and_true, not_false_eq_true, or_self, or_false, false_or, reduceIte, and_self, not_true_eq_false, ne_eq, Option.map_some]
abbrev confP (a : Nat → Int32) (t : Nat) : Prop := 1 < dts a (100 + t * 4)
theorem X2_registersInConflict {M : Mem} {s c : Nat} (h : St M s c) : f_X2_registersInConflict s M = some (nI (cnt (confP (mA M c)) 4), M) := by
  unfold f_X2_registersInConflict fj_X2_registersInConflict_4
  refine loopM_run (st := fun i => (nI (cnt (confP (mA M c)) i), nI i, M)) (N := 4) rfl (fun i hi => ?_) ?_ (FUn (by decide))
  · have hl := dts_lt (mA M c) (100 + i * 4)
    by_cases q : confP (mA M c) i
    · rw [cnt_t q]
      simp (disch := omega) only [fc_X2_registersInConflict_4, fj_X2_registersInConflict_21, X2_entries h, h.1, gI, gR, gRn, sI_w, sR_w, gA, sA_w, gB, gBn, sBn_w, sB0_w, gL, sL_w, cK, bn, Option.bind_some, Option.map_some, nar9, inT, wA_self, wA_again, wB_self, wB_again, wL_self, wL_again, u1_self, nI_add, nI_mul, nI_sub, nI_div, nI_leT, nI_leF, nI_ltT, nI_ltF, nI_eqT, nI_eqF, nI_neg, nI_cl, lit_nI, nI_nlt0, if_true, if_false, if_pos, if_neg, true_and, and_true, not_false_eq_true, or_self, or_false, false_or, reduceIte, and_self, not_true_eq_false, ne_eq]
    · rw [cnt_f q]
      simp (disch := omega) only [fc_X2_registersInConflict_4, fj_X2_registersInConflict_21, X2_entries h, h.1, gI, gR, gRn, sI_w, sR_w, gA, sA_w, gB, gBn, sBn_w, sB0_w, gL, sL_w, cK, bn, Option.bind_some, Option.map_some, nar9, inT, wA_self, wA_again, wB_self, wB_again, wL_self, wL_again, u1_self, nI_add, nI_mul, nI_sub, nI_div, nI_leT, nI_leF, nI_ltT, nI_ltF, nI_eqT, nI_eqF, nI_neg, nI_cl, lit_nI, nI_nlt0, if_true, if_false, if_pos, if_neg, true_and, and_true, not_false_eq_true, or_self, or_false, false_or, reduceIte, and_self, not_true_eq_false, ne_eq]
  · simp (disch := omega) only [fc_X2_registersInConflict_4, fj_X2_registersInConflict_27, nI_add, nI_mul, nI_sub, nI_div, nI_leT, nI_leF, nI_ltT, nI_ltF, nI_eqT, nI_eqF, nI_neg, nI_cl, lit_nI, nI_nlt0, if_true, if_false, if_pos, if_neg, true_and, and_true, not_false_eq_true, or_self, or_false, false_or, reduceIte, and_self, not_true_eq_false, ne_eq, Option.map_some]
/-- a new dot as the only one among four places; the first n of them written -/
def newN (x : Nat → Int32) (f r : Nat) (v : Int32) (n : Nat) : Nat → Int32 := fun p => if p = r then x r + 1 else if f ≤ p ∧ p < f + n then (if p = f + r then x r + 1 else 0) else if 100 ≤ f ∧ f + 16 ≤ p ∧ p < f + 16 + n then (if p = f + 16 + r then v else 0) else x p
theorem newN_r {x : Nat → Int32} {f r n : Nat} {v : Int32} : newN x f r v n r = x r + 1 := if_pos rfl
theorem newN_step {x : Nat → Int32} {f r i : Nat} {v d w : Int32} (hf : 36 ≤ f ∧ f + 4 ≤ 116 ∧ (f + 4 ≤ 100 ∨ 100 ≤ f)) (hr : r < 4) (hi : i < 4) (h1 : d = if i = r then x r + 1 else 0) (h2 : w = if i = r then v else 0) : (if f + i < 100 then u1 (newN x f r v i) (f + i) d else u1 (u1 (newN x f r v i) (f + i) d) (f + i + 16) w) = newN x f r v (i + 1) := by
  subst h1 h2
  funext p
  by_cases hc : f + i < 100
  · rw [if_pos hc]; unfold u1 newN
    by_cases e : p = f + i
    · subst e
      rw [if_pos rfl, if_neg (show ¬ f + i = r by omega), if_pos (show f ≤ f + i ∧ f + i < f + (i + 1) by omega)]
      by_cases e : i = r
      · rw [if_pos e, if_pos (by omega)]
      · rw [if_neg e, if_neg (by omega)]
    · rw [if_neg e]
      by_cases e2 : p = r
      · rw [if_pos e2, if_pos e2]
      · rw [if_neg e2, if_neg e2]
        by_cases e3 : f ≤ p ∧ p < f + i
        · rw [if_pos e3, if_pos (show f ≤ p ∧ p < f + (i + 1) by omega)]
        · rw [if_neg e3, if_neg (show ¬ (f ≤ p ∧ p < f + (i + 1)) by omega), if_neg (show ¬ (100 ≤ f ∧ f + 16 ≤ p ∧ p < f + 16 + i) by omega), if_neg (show ¬ (100 ≤ f ∧ f + 16 ≤ p ∧ p < f + 16 + (i + 1)) by omega)]
  · rw [if_neg hc]; unfold u1 newN
    by_cases e : p = f + i + 16
    · subst e
      rw [if_pos rfl, if_neg (show ¬ f + i + 16 = r by omega), if_neg (show ¬ (f ≤ f + i + 16 ∧ f + i + 16 < f + (i + 1)) by omega), if_pos (show 100 ≤ f ∧ f + 16 ≤ f + i + 16 ∧ f + i + 16 < f + 16 + (i + 1) by omega)]
      by_cases e : i = r
      · rw [if_pos e, if_pos (by omega)]
      · rw [if_neg e, if_neg (by omega)]
    · rw [if_neg e]
      by_cases e1 : p = f + i
      · subst e1
        rw [if_pos rfl, if_neg (show ¬ f + i = r by omega), if_pos (show f ≤ f + i ∧ f + i < f + (i + 1) by omega)]
        by_cases e : i = r
        · rw [if_pos e, if_pos (by omega)]
        · rw [if_neg e, if_neg (by omega)]
      · rw [if_neg e1]
        by_cases e2 : p = r
        · rw [if_pos e2, if_pos e2]
        · rw [if_neg e2, if_neg e2]
          by_cases e3 : f ≤ p ∧ p < f + i
          · rw [if_pos e3, if_pos (show f ≤ p ∧ p < f + (i + 1) by omega)]
          · rw [if_neg e3, if_neg (show ¬ (f ≤ p ∧ p < f + (i + 1)) by omega)]
            by_cases e4 : 100 ≤ f ∧ f + 16 ≤ p ∧ p < f + 16 + i
            · rw [if_pos e4, if_pos (show 100 ≤ f ∧ f + 16 ≤ p ∧ p < f + 16 + (i + 1) by omega)]
            · rw [if_neg e4, if_neg (show ¬ (100 ≤ f ∧ f + 16 ≤ p ∧ p < f + 16 + (i + 1)) by omega)]
theorem newN_0 {x : Nat → Int32} {f r : Nat} {v : Int32} : newN x f r v 0 = u1 x r (x r + 1) := by
  funext p; unfold newN u1
  by_cases e : p = r
  · rw [if_pos e, if_pos e]
  · rw [if_neg e, if_neg e, if_neg (by omega), if_neg (by omega)]
theorem X2_putNewDot {M : Mem} {s c f r : Nat} {v : Int32} (h : St M s c) (hf : 36 ≤ f ∧ f + 4 ≤ 116 ∧ (f + 4 ≤ 100 ∨ 100 ≤ f)) (hr : r < 4) : f_X2_putNewDot s (nI f) (nI r) v M = some (wA M c (newN (mA M c) f r v 4)) := by
  have H := h
  obtain ⟨h1, h2, h3, h4⟩ := h
  have lp : fj_X2_putNewDot_13 s (nI f) (nI r) v (nI 0) (wA M c (newN (mA M c) f r v 0)) = some (wA M c (newN (mA M c) f r v 4)) := by
    unfold fj_X2_putNewDot_13
    refine loopM_run (st := fun i => (nI i, wA M c (newN (mA M c) f r v i))) (N := 4) rfl (fun i hi => ?_) ?_ (FUn (by decide))
    · have e := fun d w => X2_setDot (i := f + i) (d := d) (v := w) (St.wA (a := c) (g := newN (mA M c) f r v i) H) (by omega)
      simp only [wA_self, wA_again] at e
      by_cases q : i = r
      · subst q
        rw [← newN_step (d := mA M c i + 1) (w := v) hf hr hi (by rw [if_pos rfl]) (by rw [if_pos rfl])]
        simp (disch := omega) only [fc_X2_putNewDot_13, fj_X2_putNewDot_30, fj_X2_putNewDot_52, fj_X2_putNewDot_62, h1, h2, h3, h4, e, newN_r, gI, gR, gRn, sI_w, sR_w, gA, sA_w, gB, gBn, sBn_w, sB0_w, gL, sL_w, cK, bn, Option.bind_some, Option.map_some, nar9, inT, wA_self, wA_again, wB_self, wB_again, wL_self, wL_again, u1_self, nI_add, nI_mul, nI_sub, nI_div, nI_leT, nI_leF, nI_ltT, nI_ltF, nI_eqT, nI_eqF, nI_neg, nI_cl, lit_nI, nI_nlt0, if_true, if_false, if_pos, if_neg, true_and, and_true, not_false_eq_true, or_self, or_false, false_or, reduceIte, and_self, not_true_eq_false, ne_eq, mK_wI, mN_wI, mR_wI, mA_wI, mB_wI, mL_wI, mZ_wI, mK_wA, mN_wA, mI_wA, mR_wA, mB_wA, mL_wA, mZ_wA, mK_wB, mN_wB, mI_wB, mR_wB, mA_wB, mL_wB, mZ_wB, mK_wR, mN_wR, mI_wR, mA_wR, mB_wR, mL_wR, mZ_wR, mK_wL, mN_wL, mI_wL, mR_wL, mA_wL, mB_wL, mZ_wL]
      · rw [← newN_step (d := 0) (w := 0) hf hr hi (by rw [if_neg q]) (by rw [if_neg q])]
        simp (disch := omega) only [fc_X2_putNewDot_13, fj_X2_putNewDot_30, fj_X2_putNewDot_52, fj_X2_putNewDot_62, h1, h2, h3, h4, e, gI, gR, gRn, sI_w, sR_w, gA, sA_w, gB, gBn, sBn_w, sB0_w, gL, sL_w, cK, bn, Option.bind_some, Option.map_some, nar9, inT, wA_self, wA_again, wB_self, wB_again, wL_self, wL_again, u1_self, nI_add, nI_mul, nI_sub, nI_div, nI_leT, nI_leF, nI_ltT, nI_ltF, nI_eqT, nI_eqF, nI_neg, nI_cl, lit_nI, nI_nlt0, if_true, if_false, if_pos, if_neg, true_and, and_true, not_false_eq_true, or_self, or_false, false_or, reduceIte, and_self, not_true_eq_false, ne_eq, mK_wI, mN_wI, mR_wI, mA_wI, mB_wI, mL_wI, mZ_wI, mK_wA, mN_wA, mI_wA, mR_wA, mB_wA, mL_wA, mZ_wA, mK_wB, mN_wB, mI_wB, mR_wB, mA_wB, mL_wB, mZ_wB, mK_wR, mN_wR, mI_wR, mA_wR, mB_wR, mL_wR, mZ_wR, mK_wL, mN_wL, mI_wL, mR_wL, mA_wL, mB_wL, mZ_wL]
    · simp (disch := omega) only [fc_X2_putNewDot_13, nI_add, nI_mul, nI_sub, nI_div, nI_leT, nI_leF, nI_ltT, nI_ltF, nI_eqT, nI_eqF, nI_neg, nI_cl, lit_nI, nI_nlt0, if_true, if_false, if_pos, if_neg, true_and, and_true, not_false_eq_true, or_self, or_false, false_or, reduceIte, and_self, not_true_eq_false, ne_eq, Option.map_some]
  rw [newN_0] at lp
  simp (disch := omega) only [f_X2_putNewDot, h1, h2, h3, h4, gI, gR, gRn, sI_w, sR_w, gA, sA_w, gB, gBn, sBn_w, sB0_w, gL, sL_w, cK, bn, Option.bind_some, Option.map_some, nar9, inT, wA_self, wA_again, wB_self, wB_again, wL_self, wL_again, u1_self, nI_add, nI_mul, nI_sub, nI_div, nI_leT, nI_leF, nI_ltT, nI_ltF, nI_eqT, nI_eqF, nI_neg, nI_cl, lit_nI, nI_nlt0, if_true, if_false, if_pos, if_neg, true_and, and_true, not_false_eq_true, or_self, or_false, false_or, reduceIte, and_self, not_true_eq_false, ne_eq, mK_wI, mN_wI, mR_wI, mA_wI, mB_wI, mL_wI, mZ_wI, mK_wA, mN_wA, mI_wA, mR_wA, mB_wA, mL_wA, mZ_wA, mK_wB, mN_wB, mI_wB, mR_wB, mA_wB, mL_wB, mZ_wB, mK_wR, mN_wR, mI_wR, mA_wR, mB_wR, mL_wR, mZ_wR, mK_wL, mN_wL, mI_wL, mR_wL, mA_wL, mB_wL, mZ_wL]
  exact lp
theorem X2_putTag {M : Mem} {s c r t : Nat} (h : St M s c) (hr : r < 4) (ht : t < 16) : f_X2_putTag s (nI r) (nI t) M = some (wA M c (newN (mA M c) (36 + t * 4) r 0 4)) := by
  unfold f_X2_putTag
  rw [show (36 + nI t * 4 : Int32) = nI (36 + t * 4) by rw [lit_nI, lit_nI, nI_mul, nI_add], X2_putNewDot h (by omega) hr]
  simp only [cK, h.1, if_true, Option.bind_some]
theorem X2_putEntry {M : Mem} {s c r t : Nat} {v : Int32} (h : St M s c) (hr : r < 4) (ht : t < 4) : f_X2_putEntry s (nI r) (nI t) v M = some (wA M c (newN (mA M c) (100 + t * 4) r v 4)) := by
  unfold f_X2_putEntry
  rw [show (100 + nI t * 4 : Int32) = nI (100 + t * 4) by rw [lit_nI, lit_nI, nI_mul, nI_add], X2_putNewDot h (by omega) hr]
  simp only [cK, h.1, if_true, Option.bind_some]
def zap (x : Nat → Int32) (f n : Nat) : Nat → Int32 := fun p => if f ≤ p ∧ p < f + n then 0 else x p
theorem zap_step {x : Nat → Int32} {f i : Nat} : u1 (zap x f i) (f + i) (nI 0) = zap x f (i + 1) := by
  funext p; unfold u1 zap
  by_cases e : p = f + i
  · rw [if_pos e, if_pos (by omega)]; rfl
  · rw [if_neg e]; by_cases e2 : f ≤ p ∧ p < f + i
    · rw [if_pos e2, if_pos (by omega)]
    · rw [if_neg e2, if_neg (by omega)]
theorem zap_0 {x : Nat → Int32} {f : Nat} : zap x f 0 = x := funext fun p => if_neg (by omega)
theorem X2_clearTag {M : Mem} {s c t : Nat} (h : St M s c) (ht : t < 16) : f_X2_clearTag s (nI t) M = some (wA M c (zap (mA M c) (36 + t * 4) 4)) := by
  unfold f_X2_clearTag fj_X2_clearTag_2
  refine loopM_run (st := fun i => (nI i, wA M c (zap (mA M c) (36 + t * 4) i))) (N := 4) ?_ (fun i hi => ?_) ?_ (FUn (by decide))
  · show _ = (nI 0, wA M c (zap (mA M c) (36 + t * 4) 0))
    rw [zap_0, wA_id]; rfl
  · have e := X2_setDot (i := 36 + t * 4 + i) (d := nI 0) (v := nI 0) (St.wA (a := c) (g := zap (mA M c) (36 + t * 4) i) h) (by omega)
    rw [wA_self, wA_again, if_pos (by omega), zap_step (x := mA M c)] at e
    simp (disch := omega) only [fc_X2_clearTag_2, h.1, e, gI, gR, gRn, sI_w, sR_w, gA, sA_w, gB, gBn, sBn_w, sB0_w, gL, sL_w, cK, bn, Option.bind_some, Option.map_some, nar9, inT, wA_self, wA_again, wB_self, wB_again, wL_self, wL_again, u1_self, nI_add, nI_mul, nI_sub, nI_div, nI_leT, nI_leF, nI_ltT, nI_ltF, nI_eqT, nI_eqF, nI_neg, nI_cl, lit_nI, nI_nlt0, if_true, if_false, if_pos, if_neg, true_and, and_true, not_false_eq_true, or_self, or_false, false_or, reduceIte, and_self, not_true_eq_false, ne_eq, mK_wI, mN_wI, mR_wI, mA_wI, mB_wI, mL_wI, mZ_wI, mK_wA, mN_wA, mI_wA, mR_wA, mB_wA, mL_wA, mZ_wA, mK_wB, mN_wB, mI_wB, mR_wB, mA_wB, mL_wB, mZ_wB, mK_wR, mN_wR, mI_wR, mA_wR, mB_wR, mL_wR, mZ_wR, mK_wL, mN_wL, mI_wL, mR_wL, mA_wL, mB_wL, mZ_wL]
  · simp (disch := omega) only [fc_X2_clearTag_2, nI_add, nI_mul, nI_sub, nI_div, nI_leT, nI_leF, nI_ltT, nI_ltF, nI_eqT, nI_eqF, nI_neg, nI_cl, lit_nI, nI_nlt0, if_true, if_false, if_pos, if_neg, true_and, and_true, not_false_eq_true, or_self, or_false, false_or, reduceIte, and_self, not_true_eq_false, ne_eq, Option.map_some]
