/-! THE REFERENCE'S ROWS: each of its helpers, as a function of what lies in 'now' -/
def Rn (M : Mem) (m w : Nat) : Prop := mK M m = 6 ∧ mR M 162 m = some w ∧ mK M w = 9 ∧ mN M w = 1594
def bs (t : Nat) : Nat := 10 + 132 * t
theorem bs_eq (t : Nat) : bs t = 10 + 132 * t := rfl
def row (g : Nat → Int32) (t : Nat) : Nat → Int32 := fun i => g (bs t + i)
def put (g : Nat → Int32) (t : Nat) (a : Nat → Int32) : Nat → Int32 := fun q => if bs t ≤ q ∧ q < bs t + 132 then a (q - bs t) else g q
theorem put_at {g : Nat → Int32} {t i : Nat} {a : Nat → Int32} (h : i < 132) : put g t a (bs t + i) = a i := by unfold put; rw [if_pos (by omega), show bs t + i - bs t = i by omega]
theorem put_ne {g : Nat → Int32} {t s i : Nat} {a : Nat → Int32} (h : i < 132) (hn : s ≠ t) : put g t a (bs s + i) = g (bs s + i) := by unfold put; rw [if_neg (by simp only [bs_eq]; omega)]
theorem put_lo {g : Nat → Int32} {t q : Nat} {a : Nat → Int32} (h : q < 10) : put g t a q = g q := by unfold put; rw [if_neg (by simp only [bs_eq]; omega)]
theorem u1_put {g : Nat → Int32} {t i : Nat} {a : Nat → Int32} {v : Int32} (h : i < 132) : u1 (put g t a) (bs t + i) v = put g t (u1 a i v) := by
  funext q; unfold u1 put
  by_cases e : q = bs t + i
  · rw [if_pos e, if_pos (by omega)]; dsimp only; rw [if_pos (by omega)]
  · rw [if_neg e]
    by_cases e2 : bs t ≤ q ∧ q < bs t + 132
    · rw [if_pos e2, if_pos e2]; dsimp only; rw [if_neg (by omega)]
    · rw [if_neg e2, if_neg e2]
theorem put_row (g : Nat → Int32) (t : Nat) : put g t (row g t) = g := by
  funext q; unfold put row
  by_cases e2 : bs t ≤ q ∧ q < bs t + 132
  · rw [if_pos e2, show bs t + (q - bs t) = q by omega]
  · rw [if_neg e2]
theorem put_put (g : Nat → Int32) (t : Nat) (a b : Nat → Int32) : put (put g t a) t b = put g t b := by
  funext q; unfold put
  by_cases e2 : bs t ≤ q ∧ q < bs t + 132
  · rw [if_pos e2, if_pos e2]
  · rw [if_neg e2, if_neg e2, if_neg e2]
theorem put_congr {g : Nat → Int32} {t : Nat} {a b : Nat → Int32} (h : ∀ i, i < 132 → a i = b i) : put g t a = put g t b := by
  funext q; unfold put
  by_cases e2 : bs t ≤ q ∧ q < bs t + 132
  · rw [if_pos e2, if_pos e2, h _ (by omega)]
  · rw [if_neg e2, if_neg e2]
theorem row_put {g : Nat → Int32} {t i : Nat} {a : Nat → Int32} (h : i < 132) : row (put g t a) t i = a i := put_at h
theorem row_put_ne {g : Nat → Int32} {t s i : Nat} {a : Nat → Int32} (h : i < 132) (hn : s ≠ t) : row (put g t a) s i = row g s i := put_ne h hn
theorem X5_s {M : Mem} {t : Nat} : f_X5_s (nI t) M = some (nI (bs t), M) := by simp only [f_X5_s, lit_nI, nI_mul, nI_add, bs_eq]
theorem X5_version {M : Mem} {t i : Nat} : f_X5_version (nI t) (nI i) M = some (nI (bs t + i), M) := by simp only [f_X5_version, X5_s, bn, lit_nI, nI_add, Nat.add_zero]
theorem X5_more {M : Mem} {t i j : Nat} : f_X5_more (nI t) (nI i) (nI j) M = some (nI (bs t + (4 + (4 * i + j))), M) := by simp only [f_X5_more, X5_s, bn, lit_nI, nI_add, nI_mul, Nat.add_assoc]
theorem X5_less {M : Mem} {t i j : Nat} : f_X5_less (nI t) (nI i) (nI j) M = some (nI (bs t + (20 + (4 * i + j))), M) := by simp only [f_X5_less, X5_s, bn, lit_nI, nI_add, nI_mul, Nat.add_assoc]
theorem X5_tag {M : Mem} {t i j : Nat} : f_X5_tag (nI t) (nI i) (nI j) M = some (nI (bs t + (36 + (4 * i + j))), M) := by simp only [f_X5_tag, X5_s, bn, lit_nI, nI_add, nI_mul, Nat.add_assoc]
theorem X5_dot {M : Mem} {t i j : Nat} : f_X5_dot (nI t) (nI i) (nI j) M = some (nI (bs t + (100 + (4 * i + j))), M) := by simp only [f_X5_dot, X5_s, bn, lit_nI, nI_add, nI_mul, Nat.add_assoc]
theorem X5_noted {M : Mem} {t i j : Nat} : f_X5_noted (nI t) (nI i) (nI j) M = some (nI (bs t + (116 + (4 * i + j))), M) := by simp only [f_X5_noted, X5_s, bn, lit_nI, nI_add, nI_mul, Nat.add_assoc]
theorem bs_le {t : Nat} (h : t < 12) : bs t ≤ 1462 := by rw [bs_eq]; omega
section RN
variable {M : Mem} {m w : Nat} {g : Nat → Int32} {t : Nat}
abbrev lve (a : Nat → Int32) (f : Nat) : Nat := cnt (fun j => 0 < a (f + j)) 4
theorem lve_lt (a : Nat → Int32) (f : Nat) : lve a f < 2147483648 := Nat.lt_of_le_of_lt (cnt_le _ 4) (by decide)
theorem X5_live (hR : Rn M m w) (ht : t < 12) {i : Nat} (hi : i < 16) : f_X5_live m (nI t) (nI i) (wA M w g) = some (nI (lve (row g t) (36 + 4 * i)), wA M w g) := by
  obtain ⟨h1, h2, h3, h4⟩ := hR
  have hb := bs_le ht
  unfold f_X5_live fj_X5_live_5
  refine loopM_run (st := fun k => (nI (cnt (fun j => 0 < row g t (36 + 4 * i + j)) k), nI k, wA M w g)) (N := 4) rfl (fun k hk => ?_) ?_ (FUn (by decide))
  · have e : row g t (36 + 4 * i + k) = g (bs t + (36 + (4 * i + k))) := by unfold row; rw [Nat.add_assoc]
    by_cases q : row g t (36 + 4 * i + k) ≤ 0
    · rw [cnt_f (Int32.not_lt.mpr q)]
      rw [e] at q
      simp only [lit_nI] at q
      simp (disch := omega) only [fc_X5_live_5, fj_X5_live_32, X5_tag, h1, h2, h3, h4, q, gI, gR, gRn, sI_w, sR_w, gA, sA_w, gB, gBn, sBn_w, sB0_w, gL, sL_w, cK, bn, Option.bind_some, Option.map_some, nar9, inT, wA_self, wA_again, wB_self, wB_again, wL_self, wL_again, u1_self, nI_add, nI_mul, nI_sub, nI_div, nI_leT, nI_leF, nI_ltT, nI_ltF, nI_eqT, nI_eqF, nI_neg, nI_cl, lit_nI, nI_nlt0, if_true, if_false, if_pos, if_neg, true_and, and_true, not_false_eq_true, or_self, or_false, false_or, reduceIte, and_self, not_true_eq_false, ne_eq, mK_wI, mN_wI, mR_wI, mA_wI, mB_wI, mL_wI, mZ_wI, mK_wA, mN_wA, mI_wA, mR_wA, mB_wA, mL_wA, mZ_wA, mK_wB, mN_wB, mI_wB, mR_wB, mA_wB, mL_wB, mZ_wB, mK_wR, mN_wR, mI_wR, mA_wR, mB_wR, mL_wR, mZ_wR, mK_wL, mN_wL, mI_wL, mR_wL, mA_wL, mB_wL, mZ_wL, Nat.add_zero]
    · rw [cnt_t (Int32.not_le.mp q)]
      rw [e] at q
      simp only [lit_nI] at q
      simp (disch := omega) only [fc_X5_live_5, fj_X5_live_32, X5_tag, h1, h2, h3, h4, q, gI, gR, gRn, sI_w, sR_w, gA, sA_w, gB, gBn, sBn_w, sB0_w, gL, sL_w, cK, bn, Option.bind_some, Option.map_some, nar9, inT, wA_self, wA_again, wB_self, wB_again, wL_self, wL_again, u1_self, nI_add, nI_mul, nI_sub, nI_div, nI_leT, nI_leF, nI_ltT, nI_ltF, nI_eqT, nI_eqF, nI_neg, nI_cl, lit_nI, nI_nlt0, if_true, if_false, if_pos, if_neg, true_and, and_true, not_false_eq_true, or_self, or_false, false_or, reduceIte, and_self, not_true_eq_false, ne_eq, mK_wI, mN_wI, mR_wI, mA_wI, mB_wI, mL_wI, mZ_wI, mK_wA, mN_wA, mI_wA, mR_wA, mB_wA, mL_wA, mZ_wA, mK_wB, mN_wB, mI_wB, mR_wB, mA_wB, mL_wB, mZ_wB, mK_wR, mN_wR, mI_wR, mA_wR, mB_wR, mL_wR, mZ_wR, mK_wL, mN_wL, mI_wL, mR_wL, mA_wL, mB_wL, mZ_wL]
  · simp (disch := omega) only [fc_X5_live_5, fj_X5_live_40, nI_add, nI_mul, nI_sub, nI_div, nI_leT, nI_leF, nI_ltT, nI_ltF, nI_eqT, nI_eqF, nI_neg, nI_cl, lit_nI, nI_nlt0, if_true, if_false, if_pos, if_neg, true_and, and_true, not_false_eq_true, or_self, or_false, false_or, reduceIte, and_self, not_true_eq_false, ne_eq, Option.map_some]; rfl
theorem X5_entries (hR : Rn M m w) (ht : t < 12) {i : Nat} (hi : i < 4) : f_X5_entries m (nI t) (nI i) (wA M w g) = some (nI (lve (row g t) (100 + 4 * i)), wA M w g) := by
  obtain ⟨h1, h2, h3, h4⟩ := hR
  have hb := bs_le ht
  unfold f_X5_entries fj_X5_entries_5
  refine loopM_run (st := fun k => (nI (cnt (fun j => 0 < row g t (100 + 4 * i + j)) k), nI k, wA M w g)) (N := 4) rfl (fun k hk => ?_) ?_ (FUn (by decide))
  · have e : row g t (100 + 4 * i + k) = g (bs t + (100 + (4 * i + k))) := by unfold row; rw [Nat.add_assoc]
    by_cases q : row g t (100 + 4 * i + k) ≤ 0
    · rw [cnt_f (Int32.not_lt.mpr q)]
      rw [e] at q
      simp only [lit_nI] at q
      simp (disch := omega) only [fc_X5_entries_5, fj_X5_entries_32, X5_dot, h1, h2, h3, h4, q, gI, gR, gRn, sI_w, sR_w, gA, sA_w, gB, gBn, sBn_w, sB0_w, gL, sL_w, cK, bn, Option.bind_some, Option.map_some, nar9, inT, wA_self, wA_again, wB_self, wB_again, wL_self, wL_again, u1_self, nI_add, nI_mul, nI_sub, nI_div, nI_leT, nI_leF, nI_ltT, nI_ltF, nI_eqT, nI_eqF, nI_neg, nI_cl, lit_nI, nI_nlt0, if_true, if_false, if_pos, if_neg, true_and, and_true, not_false_eq_true, or_self, or_false, false_or, reduceIte, and_self, not_true_eq_false, ne_eq, mK_wI, mN_wI, mR_wI, mA_wI, mB_wI, mL_wI, mZ_wI, mK_wA, mN_wA, mI_wA, mR_wA, mB_wA, mL_wA, mZ_wA, mK_wB, mN_wB, mI_wB, mR_wB, mA_wB, mL_wB, mZ_wB, mK_wR, mN_wR, mI_wR, mA_wR, mB_wR, mL_wR, mZ_wR, mK_wL, mN_wL, mI_wL, mR_wL, mA_wL, mB_wL, mZ_wL, Nat.add_zero]
    · rw [cnt_t (Int32.not_le.mp q)]
      rw [e] at q
      simp only [lit_nI] at q
      simp (disch := omega) only [fc_X5_entries_5, fj_X5_entries_32, X5_dot, h1, h2, h3, h4, q, gI, gR, gRn, sI_w, sR_w, gA, sA_w, gB, gBn, sBn_w, sB0_w, gL, sL_w, cK, bn, Option.bind_some, Option.map_some, nar9, inT, wA_self, wA_again, wB_self, wB_again, wL_self, wL_again, u1_self, nI_add, nI_mul, nI_sub, nI_div, nI_leT, nI_leF, nI_ltT, nI_ltF, nI_eqT, nI_eqF, nI_neg, nI_cl, lit_nI, nI_nlt0, if_true, if_false, if_pos, if_neg, true_and, and_true, not_false_eq_true, or_self, or_false, false_or, reduceIte, and_self, not_true_eq_false, ne_eq, mK_wI, mN_wI, mR_wI, mA_wI, mB_wI, mL_wI, mZ_wI, mK_wA, mN_wA, mI_wA, mR_wA, mB_wA, mL_wA, mZ_wA, mK_wB, mN_wB, mI_wB, mR_wB, mA_wB, mL_wB, mZ_wB, mK_wR, mN_wR, mI_wR, mA_wR, mB_wR, mL_wR, mZ_wR, mK_wL, mN_wL, mI_wL, mR_wL, mA_wL, mB_wL, mZ_wL]
  · simp (disch := omega) only [fc_X5_entries_5, fj_X5_entries_40, nI_add, nI_mul, nI_sub, nI_div, nI_leT, nI_leF, nI_ltT, nI_ltF, nI_eqT, nI_eqF, nI_neg, nI_cl, lit_nI, nI_nlt0, if_true, if_false, if_pos, if_neg, true_and, and_true, not_false_eq_true, or_self, or_false, false_or, reduceIte, and_self, not_true_eq_false, ne_eq, Option.map_some]; rfl
theorem X5_removes (hR : Rn M m w) (ht : t < 12) {i : Nat} (hi : i < 16) : f_X5_removes m (nI t) (nI i) (wA M w g) = some (nI (lve (row g t) (36 + 4 * i)), wA M w (put g t (zap (row g t) (36 + 4 * i) 4))) := by
  have H := hR
  obtain ⟨h1, h2, h3, h4⟩ := hR
  have hb := bs_le ht
  have lp : fj_X5_removes_10 m (nI t) (nI i) (nI (lve (row g t) (36 + 4 * i))) (nI 0) (wA M w g) = some (nI (lve (row g t) (36 + 4 * i)), wA M w (put g t (zap (row g t) (36 + 4 * i) 4))) := by
    unfold fj_X5_removes_10
    refine loopM_run (st := fun k => (nI k, wA M w (put g t (zap (row g t) (36 + 4 * i) k)))) (N := 4) ?_ (fun k hk => ?_) ?_ (FUn (by decide))
    · show _ = (nI 0, wA M w (put g t (zap (row g t) (36 + 4 * i) 0)))
      rw [zap_0, put_row]
    · rw [← zap_step, ← u1_put (by omega), Nat.add_assoc 36]
      simp (disch := omega) only [fc_X5_removes_10, X5_tag, h1, h2, h3, h4, gI, gR, gRn, sI_w, sR_w, gA, sA_w, gB, gBn, sBn_w, sB0_w, gL, sL_w, cK, bn, Option.bind_some, Option.map_some, nar9, inT, wA_self, wA_again, wB_self, wB_again, wL_self, wL_again, u1_self, nI_add, nI_mul, nI_sub, nI_div, nI_leT, nI_leF, nI_ltT, nI_ltF, nI_eqT, nI_eqF, nI_neg, nI_cl, lit_nI, nI_nlt0, if_true, if_false, if_pos, if_neg, true_and, and_true, not_false_eq_true, or_self, or_false, false_or, reduceIte, and_self, not_true_eq_false, ne_eq, mK_wI, mN_wI, mR_wI, mA_wI, mB_wI, mL_wI, mZ_wI, mK_wA, mN_wA, mI_wA, mR_wA, mB_wA, mL_wA, mZ_wA, mK_wB, mN_wB, mI_wB, mR_wB, mA_wB, mL_wB, mZ_wB, mK_wR, mN_wR, mI_wR, mA_wR, mB_wR, mL_wR, mZ_wR, mK_wL, mN_wL, mI_wL, mR_wL, mA_wL, mB_wL, mZ_wL]
    · simp (disch := omega) only [fc_X5_removes_10, fj_X5_removes_35, nI_add, nI_mul, nI_sub, nI_div, nI_leT, nI_leF, nI_ltT, nI_ltF, nI_eqT, nI_eqF, nI_neg, nI_cl, lit_nI, nI_nlt0, if_true, if_false, if_pos, if_neg, true_and, and_true, not_false_eq_true, or_self, or_false, false_or, reduceIte, and_self, not_true_eq_false, ne_eq, Option.map_some]
  unfold f_X5_removes
  rw [X5_live H ht hi]
  simp only [gI, gR, gRn, sI_w, sR_w, gA, sA_w, gB, gBn, sBn_w, sB0_w, gL, sL_w, cK, bn, Option.bind_some, Option.map_some, nar9, inT, wA_self, wA_again, wB_self, wB_again, wL_self, wL_again, u1_self, mK_wI, mN_wI, mR_wI, mA_wI, mB_wI, mL_wI, mZ_wI, mK_wA, mN_wA, mI_wA, mR_wA, mB_wA, mL_wA, mZ_wA, mK_wB, mN_wB, mI_wB, mR_wB, mA_wB, mL_wB, mZ_wB, mK_wR, mN_wR, mI_wR, mA_wR, mB_wR, mL_wR, mZ_wR, mK_wL, mN_wL, mI_wL, mR_wL, mA_wL, mB_wL, mZ_wL, h1, if_true, if_false, if_pos, if_neg, true_and, and_true, not_false_eq_true, or_self, or_false, false_or, reduceIte, and_self, not_true_eq_false, ne_eq]
  exact lp
theorem X5_creates {a : Nat → Int32} (hR : Rn M m w) (ht : t < 4) : f_X5_creates m (nI t) (wA M w (put g t a)) = some (a t + 1, wA M w (put g t (u1 a t (a t + 1)))) := by
  obtain ⟨h1, h2, h3, h4⟩ := hR
  have hb := bs_le (show t < 12 by omega)
  simp (disch := omega) only [f_X5_creates, X5_version, h1, h2, h3, h4, gI, gR, gRn, sI_w, sR_w, gA, sA_w, gB, gBn, sBn_w, sB0_w, gL, sL_w, cK, bn, Option.bind_some, Option.map_some, nar9, inT, wA_self, wA_again, wB_self, wB_again, wL_self, wL_again, u1_self, nI_add, nI_mul, nI_sub, nI_div, nI_leT, nI_leF, nI_ltT, nI_ltF, nI_eqT, nI_eqF, nI_neg, nI_cl, lit_nI, nI_nlt0, if_true, if_false, if_pos, if_neg, true_and, and_true, not_false_eq_true, or_self, or_false, false_or, reduceIte, and_self, not_true_eq_false, ne_eq, mK_wI, mN_wI, mR_wI, mA_wI, mB_wI, mL_wI, mZ_wI, mK_wA, mN_wA, mI_wA, mR_wA, mB_wA, mL_wA, mZ_wA, mK_wB, mN_wB, mI_wB, mR_wB, mA_wB, mL_wB, mZ_wB, mK_wR, mN_wR, mI_wR, mA_wR, mB_wR, mL_wR, mZ_wR, mK_wL, mN_wL, mI_wL, mR_wL, mA_wL, mB_wL, mZ_wL, put_at, u1_put]
theorem adds_row {x : Nat → Int32} {f r : Nat} (hf : 36 ≤ f ∧ f + 4 ≤ 100) (hr : r < 4) : u1 (u1 (zap x f 4) r (zap x f 4 r + 1)) (f + r) (zap x f 4 r + 1) = newN x f r 0 4 := by
  have e0 : zap x f 4 r = x r := if_neg (by omega)
  rw [e0]
  funext p; unfold u1 newN zap
  by_cases e : p = f + r
  · rw [if_pos e, if_neg (by omega), if_pos (by omega), if_pos e]
  · rw [if_neg e]
    by_cases e2 : p = r
    · rw [if_pos e2, if_pos e2]
    · rw [if_neg e2, if_neg e2]
      by_cases e3 : f ≤ p ∧ p < f + 4
      · rw [if_pos e3, if_pos e3, if_neg e]
      · rw [if_neg e3, if_neg e3, if_neg (by omega)]
theorem X5_adds (hR : Rn M m w) (ht : t < 4) {i : Nat} (hi : i < 16) : f_X5_adds m (nI t) (nI i) (wA M w g) = some (row g t t + 1, wA M w (put g t (newN (row g t) (36 + 4 * i) t 0 4))) := by
  have H := hR
  obtain ⟨h1, h2, h3, h4⟩ := hR
  have hb := bs_le (show t < 12 by omega)
  have e0 : zap (row g t) (36 + 4 * i) 4 t = row g t t := if_neg (by omega)
  rw [← adds_row (by omega) ht]
  simp (disch := first | assumption | omega) only [f_X5_adds, X5_removes H, X5_creates H, X5_tag, h1, h2, h3, h4, gI, gR, gRn, sI_w, sR_w, gA, sA_w, gB, gBn, sBn_w, sB0_w, gL, sL_w, cK, bn, Option.bind_some, Option.map_some, nar9, inT, wA_self, wA_again, wB_self, wB_again, wL_self, wL_again, u1_self, nI_add, nI_mul, nI_sub, nI_div, nI_leT, nI_leF, nI_ltT, nI_ltF, nI_eqT, nI_eqF, nI_neg, nI_cl, lit_nI, nI_nlt0, if_true, if_false, if_pos, if_neg, true_and, and_true, not_false_eq_true, or_self, or_false, false_or, reduceIte, and_self, not_true_eq_false, ne_eq, mK_wI, mN_wI, mR_wI, mA_wI, mB_wI, mL_wI, mZ_wI, mK_wA, mN_wA, mI_wA, mR_wA, mB_wA, mL_wA, mZ_wA, mK_wB, mN_wB, mI_wB, mR_wB, mA_wB, mL_wB, mZ_wB, mK_wR, mN_wR, mI_wR, mA_wR, mB_wR, mL_wR, mZ_wR, mK_wL, mN_wL, mI_wL, mR_wL, mA_wL, mB_wL, mZ_wL, put_at, u1_put, e0, Nat.add_assoc]
theorem writes_row {x : Nat → Int32} {f r : Nat} {v : Int32} (hf : 100 ≤ f ∧ f + 4 ≤ 116) (hr : r < 4) : u1 (u1 (u1 (zap (zap x f 4) (f + 16) 4) r (x r + 1)) (f + r) (x r + 1)) (f + 16 + r) v = newN x f r v 4 := by
  funext p; unfold u1 newN zap
  by_cases e : p = f + 16 + r
  · rw [if_pos e, if_neg (by omega), if_neg (by omega), if_pos (by omega), if_pos e]
  · rw [if_neg e]
    by_cases e1 : p = f + r
    · rw [if_pos e1, if_neg (by omega), if_pos (by omega), if_pos e1]
    · rw [if_neg e1]
      by_cases e2 : p = r
      · rw [if_pos e2, if_pos e2]
      · rw [if_neg e2, if_neg e2]
        by_cases e3 : f ≤ p ∧ p < f + 4
        · rw [if_neg (by omega), if_pos e3, if_pos e3, if_neg e1]
        · rw [if_neg e3, if_neg e3]
          by_cases e4 : f + 16 ≤ p ∧ p < f + 16 + 4
          · rw [if_pos e4, if_pos (by omega), if_neg e]
          · rw [if_neg e4, if_neg (by omega)]
theorem zap2_step {x : Nat → Int32} {f k : Nat} (hk : k < 4) : u1 (u1 (zap (zap x f k) (f + 16) k) (f + k) (nI 0)) (f + 16 + k) (nI 0) = zap (zap x f (k + 1)) (f + 16) (k + 1) := by
  funext p; unfold u1 zap
  by_cases e : p = f + 16 + k
  · rw [if_pos e, if_pos (by omega)]; rfl
  · rw [if_neg e]
    by_cases e1 : p = f + k
    · rw [if_pos e1, if_neg (by omega), if_pos (by omega)]; rfl
    · rw [if_neg e1]
      by_cases e4 : f + 16 ≤ p ∧ p < f + 16 + k
      · rw [if_pos e4, if_pos (by omega)]
      · rw [if_neg e4]
        by_cases e3 : f ≤ p ∧ p < f + k
        · rw [if_pos e3, if_neg (by omega), if_pos (by omega)]
        · rw [if_neg e3, if_neg (by omega), if_neg (by omega)]
theorem X5_writesValue (hR : Rn M m w) (ht : t < 4) {i : Nat} (hi : i < 4) {v : Int32} : f_X5_writesValue m (nI t) (nI i) v (wA M w g) = some (nI (lve (row g t) (100 + 4 * i)), wA M w (put g t (newN (row g t) (100 + 4 * i) t v 4))) := by
  have H := hR
  obtain ⟨h1, h2, h3, h4⟩ := hR
  have hb := bs_le (show t < 12 by omega)
  have e0 : zap (zap (row g t) (100 + 4 * i) 4) (100 + 4 * i + 16) 4 t = row g t t := by unfold zap; rw [if_neg (by omega), if_neg (by omega)]
  have lp : fj_X5_writesValue_11 m (nI t) (nI i) v (nI (lve (row g t) (100 + 4 * i))) (nI 0) (wA M w g) = some (nI (lve (row g t) (100 + 4 * i)), wA M w (put g t (newN (row g t) (100 + 4 * i) t v 4))) := by
    unfold fj_X5_writesValue_11
    refine loopM_run (st := fun k => (nI k, wA M w (put g t (zap (zap (row g t) (100 + 4 * i) k) (100 + 4 * i + 16) k)))) (N := 4) ?_ (fun k hk => ?_) ?_ (FUn (by decide))
    · show _ = (nI 0, wA M w (put g t (zap (zap (row g t) (100 + 4 * i) 0) (100 + 4 * i + 16) 0)))
      rw [zap_0, zap_0, put_row]
    · rw [← zap2_step hk, ← u1_put (by omega), ← u1_put (by omega), show 100 + 4 * i + k = 100 + (4 * i + k) by omega, show 100 + 4 * i + 16 + k = 116 + (4 * i + k) by omega]
      simp (disch := omega) only [fc_X5_writesValue_11, X5_dot, X5_noted, h1, h2, h3, h4, gI, gR, gRn, sI_w, sR_w, gA, sA_w, gB, gBn, sBn_w, sB0_w, gL, sL_w, cK, bn, Option.bind_some, Option.map_some, nar9, inT, wA_self, wA_again, wB_self, wB_again, wL_self, wL_again, u1_self, nI_add, nI_mul, nI_sub, nI_div, nI_leT, nI_leF, nI_ltT, nI_ltF, nI_eqT, nI_eqF, nI_neg, nI_cl, lit_nI, nI_nlt0, if_true, if_false, if_pos, if_neg, true_and, and_true, not_false_eq_true, or_self, or_false, false_or, reduceIte, and_self, not_true_eq_false, ne_eq, mK_wI, mN_wI, mR_wI, mA_wI, mB_wI, mL_wI, mZ_wI, mK_wA, mN_wA, mI_wA, mR_wA, mB_wA, mL_wA, mZ_wA, mK_wB, mN_wB, mI_wB, mR_wB, mA_wB, mL_wB, mZ_wB, mK_wR, mN_wR, mI_wR, mA_wR, mB_wR, mL_wR, mZ_wR, mK_wL, mN_wL, mI_wL, mR_wL, mA_wL, mB_wL, mZ_wL]
    · rw [← writes_row (by omega) ht, ← u1_put (by omega), ← u1_put (by omega), show 100 + 4 * i + t = 100 + (4 * i + t) by omega, show 100 + 4 * i + 16 + t = 116 + (4 * i + t) by omega, ← e0]
      simp (disch := omega) only [fc_X5_writesValue_11, fj_X5_writesValue_49, X5_dot, X5_noted, X5_creates H, h1, h2, h3, h4, gI, gR, gRn, sI_w, sR_w, gA, sA_w, gB, gBn, sBn_w, sB0_w, gL, sL_w, cK, bn, Option.bind_some, Option.map_some, nar9, inT, wA_self, wA_again, wB_self, wB_again, wL_self, wL_again, u1_self, nI_add, nI_mul, nI_sub, nI_div, nI_leT, nI_leF, nI_ltT, nI_ltF, nI_eqT, nI_eqF, nI_neg, nI_cl, lit_nI, nI_nlt0, if_true, if_false, if_pos, if_neg, true_and, and_true, not_false_eq_true, or_self, or_false, false_or, reduceIte, and_self, not_true_eq_false, ne_eq, mK_wI, mN_wI, mR_wI, mA_wI, mB_wI, mL_wI, mZ_wI, mK_wA, mN_wA, mI_wA, mR_wA, mB_wA, mL_wA, mZ_wA, mK_wB, mN_wB, mI_wB, mR_wB, mA_wB, mL_wB, mZ_wB, mK_wR, mN_wR, mI_wR, mA_wR, mB_wR, mL_wR, mZ_wR, mK_wL, mN_wL, mI_wL, mR_wL, mA_wL, mB_wL, mZ_wL]
  unfold f_X5_writesValue
  rw [X5_entries H (by omega) hi]
  simp only [gI, gR, gRn, sI_w, sR_w, gA, sA_w, gB, gBn, sBn_w, sB0_w, gL, sL_w, cK, bn, Option.bind_some, Option.map_some, nar9, inT, wA_self, wA_again, wB_self, wB_again, wL_self, wL_again, u1_self, mK_wI, mN_wI, mR_wI, mA_wI, mB_wI, mL_wI, mZ_wI, mK_wA, mN_wA, mI_wA, mR_wA, mB_wA, mL_wA, mZ_wA, mK_wB, mN_wB, mI_wB, mR_wB, mA_wB, mL_wB, mZ_wB, mK_wR, mN_wR, mI_wR, mA_wR, mB_wR, mL_wR, mZ_wR, mK_wL, mN_wL, mI_wL, mR_wL, mA_wL, mB_wL, mZ_wL, h1, if_true, if_false, if_pos, if_neg, true_and, and_true, not_false_eq_true, or_self, or_false, false_or, reduceIte, and_self, not_true_eq_false, ne_eq]
  exact lp
theorem X5_worth (hR : Rn M m w) (ht : t < 12) {i : Nat} (hi : i < 4) : f_X5_worth m (nI t) (nI i) (wA M w g) = some (tot (row g t) i 4, wA M w g) := by
  obtain ⟨h1, h2, h3, h4⟩ := hR
  have hb := bs_le ht
  unfold f_X5_worth fj_X5_worth_5
  refine loopM_run (st := fun k => (tot (row g t) i k, nI k, wA M w g)) (N := 4) rfl (fun k hk => ?_) ?_ (FUn (by decide))
  · have e1 : g (bs t + (4 + (4 * i + k))) = row g t (4 + i * 4 + k) := by unfold row; congr 1; omega
    have e2 : g (bs t + (20 + (4 * i + k))) = row g t (20 + i * 4 + k) := by unfold row; congr 1; omega
    simp (disch := omega) only [fc_X5_worth_5, X5_more, X5_less, h1, h2, h3, h4, gI, gR, gRn, sI_w, sR_w, gA, sA_w, gB, gBn, sBn_w, sB0_w, gL, sL_w, cK, bn, Option.bind_some, Option.map_some, nar9, inT, wA_self, wA_again, wB_self, wB_again, wL_self, wL_again, u1_self, nI_add, nI_mul, nI_sub, nI_div, nI_leT, nI_leF, nI_ltT, nI_ltF, nI_eqT, nI_eqF, nI_neg, nI_cl, lit_nI, nI_nlt0, if_true, if_false, if_pos, if_neg, true_and, and_true, not_false_eq_true, or_self, or_false, false_or, reduceIte, and_self, not_true_eq_false, ne_eq, mK_wI, mN_wI, mR_wI, mA_wI, mB_wI, mL_wI, mZ_wI, mK_wA, mN_wA, mI_wA, mR_wA, mB_wA, mL_wA, mZ_wA, mK_wB, mN_wB, mI_wB, mR_wB, mA_wB, mL_wB, mZ_wB, mK_wR, mN_wR, mI_wR, mA_wR, mB_wR, mL_wR, mZ_wR, mK_wL, mN_wL, mI_wL, mR_wL, mA_wL, mB_wL, mZ_wL, e1, e2]
    rfl
  · simp (disch := omega) only [fc_X5_worth_5, fj_X5_worth_45, nI_add, nI_mul, nI_sub, nI_div, nI_leT, nI_leF, nI_ltT, nI_ltF, nI_eqT, nI_eqF, nI_neg, nI_cl, lit_nI, nI_nlt0, if_true, if_false, if_pos, if_neg, true_and, and_true, not_false_eq_true, or_self, or_false, false_or, reduceIte, and_self, not_true_eq_false, ne_eq, Option.map_some]
abbrev tagE (a : Nat → Int32) (i : Nat) : Prop := 0 < lve a (36 + 4 * i)
theorem X5_tagsIn (hR : Rn M m w) (ht : t < 12) : f_X5_tagsIn m (nI t) (wA M w g) = some (nI (cnt (tagE (row g t)) 16), wA M w g) := by
  unfold f_X5_tagsIn fj_X5_tagsIn_4
  refine loopM_run (st := fun i => (nI (cnt (tagE (row g t)) i), nI i, wA M w g)) (N := 16) rfl (fun i hi => ?_) ?_ (FUn (by decide))
  · have hl := lve_lt (row g t) (36 + 4 * i)
    by_cases q : tagE (row g t) i
    · rw [cnt_t q]
      simp (disch := first | assumption | omega) only [fc_X5_tagsIn_4, fj_X5_tagsIn_25, X5_live hR ht hi, hR.1, gI, gR, gRn, sI_w, sR_w, gA, sA_w, gB, gBn, sBn_w, sB0_w, gL, sL_w, cK, bn, Option.bind_some, Option.map_some, nar9, inT, wA_self, wA_again, wB_self, wB_again, wL_self, wL_again, u1_self, nI_add, nI_mul, nI_sub, nI_div, nI_leT, nI_leF, nI_ltT, nI_ltF, nI_eqT, nI_eqF, nI_neg, nI_cl, lit_nI, nI_nlt0, if_true, if_false, if_pos, if_neg, true_and, and_true, not_false_eq_true, or_self, or_false, false_or, reduceIte, and_self, not_true_eq_false, ne_eq, mK_wI, mN_wI, mR_wI, mA_wI, mB_wI, mL_wI, mZ_wI, mK_wA, mN_wA, mI_wA, mR_wA, mB_wA, mL_wA, mZ_wA, mK_wB, mN_wB, mI_wB, mR_wB, mA_wB, mL_wB, mZ_wB, mK_wR, mN_wR, mI_wR, mA_wR, mB_wR, mL_wR, mZ_wR, mK_wL, mN_wL, mI_wL, mR_wL, mA_wL, mB_wL, mZ_wL]
    · rw [cnt_f q]
      simp (disch := first | assumption | omega) only [fc_X5_tagsIn_4, fj_X5_tagsIn_25, X5_live hR ht hi, hR.1, gI, gR, gRn, sI_w, sR_w, gA, sA_w, gB, gBn, sBn_w, sB0_w, gL, sL_w, cK, bn, Option.bind_some, Option.map_some, nar9, inT, wA_self, wA_again, wB_self, wB_again, wL_self, wL_again, u1_self, nI_add, nI_mul, nI_sub, nI_div, nI_leT, nI_leF, nI_ltT, nI_ltF, nI_eqT, nI_eqF, nI_neg, nI_cl, lit_nI, nI_nlt0, if_true, if_false, if_pos, if_neg, true_and, and_true, not_false_eq_true, or_self, or_false, false_or, reduceIte, and_self, not_true_eq_false, ne_eq, mK_wI, mN_wI, mR_wI, mA_wI, mB_wI, mL_wI, mZ_wI, mK_wA, mN_wA, mI_wA, mR_wA, mB_wA, mL_wA, mZ_wA, mK_wB, mN_wB, mI_wB, mR_wB, mA_wB, mL_wB, mZ_wB, mK_wR, mN_wR, mI_wR, mA_wR, mB_wR, mL_wR, mZ_wR, mK_wL, mN_wL, mI_wL, mR_wL, mA_wL, mB_wL, mZ_wL, Nat.add_zero]
  · simp (disch := omega) only [fc_X5_tagsIn_4, fj_X5_tagsIn_33, nI_add, nI_mul, nI_sub, nI_div, nI_leT, nI_leF, nI_ltT, nI_ltF, nI_eqT, nI_eqF, nI_neg, nI_cl, lit_nI, nI_nlt0, if_true, if_false, if_pos, if_neg, true_and, and_true, not_false_eq_true, or_self, or_false, false_or, reduceIte, and_self, not_true_eq_false, ne_eq, Option.map_some]
abbrev confE (a : Nat → Int32) (i : Nat) : Prop := 1 < lve a (100 + 4 * i)
theorem X5_conflictsIn (hR : Rn M m w) (ht : t < 12) : f_X5_conflictsIn m (nI t) (wA M w g) = some (nI (cnt (confE (row g t)) 4), wA M w g) := by
  unfold f_X5_conflictsIn fj_X5_conflictsIn_4
  refine loopM_run (st := fun i => (nI (cnt (confE (row g t)) i), nI i, wA M w g)) (N := 4) rfl (fun i hi => ?_) ?_ (FUn (by decide))
  · have hl := lve_lt (row g t) (100 + 4 * i)
    by_cases q : confE (row g t) i
    · rw [cnt_t q]
      simp (disch := first | assumption | omega) only [fc_X5_conflictsIn_4, fj_X5_conflictsIn_25, X5_entries hR ht hi, hR.1, gI, gR, gRn, sI_w, sR_w, gA, sA_w, gB, gBn, sBn_w, sB0_w, gL, sL_w, cK, bn, Option.bind_some, Option.map_some, nar9, inT, wA_self, wA_again, wB_self, wB_again, wL_self, wL_again, u1_self, nI_add, nI_mul, nI_sub, nI_div, nI_leT, nI_leF, nI_ltT, nI_ltF, nI_eqT, nI_eqF, nI_neg, nI_cl, lit_nI, nI_nlt0, if_true, if_false, if_pos, if_neg, true_and, and_true, not_false_eq_true, or_self, or_false, false_or, reduceIte, and_self, not_true_eq_false, ne_eq, mK_wI, mN_wI, mR_wI, mA_wI, mB_wI, mL_wI, mZ_wI, mK_wA, mN_wA, mI_wA, mR_wA, mB_wA, mL_wA, mZ_wA, mK_wB, mN_wB, mI_wB, mR_wB, mA_wB, mL_wB, mZ_wB, mK_wR, mN_wR, mI_wR, mA_wR, mB_wR, mL_wR, mZ_wR, mK_wL, mN_wL, mI_wL, mR_wL, mA_wL, mB_wL, mZ_wL]
    · rw [cnt_f q]
      simp (disch := first | assumption | omega) only [fc_X5_conflictsIn_4, fj_X5_conflictsIn_25, X5_entries hR ht hi, hR.1, gI, gR, gRn, sI_w, sR_w, gA, sA_w, gB, gBn, sBn_w, sB0_w, gL, sL_w, cK, bn, Option.bind_some, Option.map_some, nar9, inT, wA_self, wA_again, wB_self, wB_again, wL_self, wL_again, u1_self, nI_add, nI_mul, nI_sub, nI_div, nI_leT, nI_leF, nI_ltT, nI_ltF, nI_eqT, nI_eqF, nI_neg, nI_cl, lit_nI, nI_nlt0, if_true, if_false, if_pos, if_neg, true_and, and_true, not_false_eq_true, or_self, or_false, false_or, reduceIte, and_self, not_true_eq_false, ne_eq, mK_wI, mN_wI, mR_wI, mA_wI, mB_wI, mL_wI, mZ_wI, mK_wA, mN_wA, mI_wA, mR_wA, mB_wA, mL_wA, mZ_wA, mK_wB, mN_wB, mI_wB, mR_wB, mA_wB, mL_wB, mZ_wB, mK_wR, mN_wR, mI_wR, mA_wR, mB_wR, mL_wR, mZ_wR, mK_wL, mN_wL, mI_wL, mR_wL, mA_wL, mB_wL, mZ_wL, Nat.add_zero]
  · simp (disch := omega) only [fc_X5_conflictsIn_4, fj_X5_conflictsIn_33, nI_add, nI_mul, nI_sub, nI_div, nI_leT, nI_leF, nI_ltT, nI_ltF, nI_eqT, nI_eqF, nI_neg, nI_cl, lit_nI, nI_nlt0, if_true, if_false, if_pos, if_neg, true_and, and_true, not_false_eq_true, or_self, or_false, false_or, reduceIte, and_self, not_true_eq_false, ne_eq, Option.map_some]
theorem X5_copies (hR : Rn M m w) (ht : t < 12) {u : Nat} (hu : u < 12) : f_X5_copies m (nI t) (nI u) (wA M w g) = some (wA M w (put g t (row g u))) := by
  obtain ⟨h1, h2, h3, h4⟩ := hR
  have hb := bs_le ht
  have hb' := bs_le hu
  unfold f_X5_copies fj_X5_copies_2
  refine loopM_run (st := fun k => (nI k, wA M w (put g t (fun i => if i < k then row g u i else row g t i)))) (N := 132) ?_ (fun k hk => ?_) ?_ (FUn (by decide))
  · show _ = (nI 0, wA M w (put g t (fun i => if i < 0 then row g u i else row g t i)))
    rw [show (fun i => if i < 0 then row g u i else row g t i) = row g t from funext fun i => if_neg (by omega), put_row]; rfl
  · have e : put g t (fun i => if i < k then row g u i else row g t i) (bs u + k) = row g u k := by
      by_cases q : u = t
      · subst q; rw [put_at hk, if_neg (by omega)]
      · rw [put_ne hk q]; rfl
    have e2 : u1 (fun i => if i < k then row g u i else row g t i) k (row g u k) = (fun i => if i < k + 1 then row g u i else row g t i) := by
      funext j; unfold u1; dsimp only
      by_cases q : j = k
      · rw [if_pos q, if_pos (by omega), q]
      · rw [if_neg q]; by_cases q2 : j < k
        · rw [if_pos q2, if_pos (by omega)]
        · rw [if_neg q2, if_neg (by omega)]
    simp (disch := omega) only [fc_X5_copies_2, X5_s, h1, h2, h3, h4, gI, gR, gRn, sI_w, sR_w, gA, sA_w, gB, gBn, sBn_w, sB0_w, gL, sL_w, cK, bn, Option.bind_some, Option.map_some, nar9, inT, wA_self, wA_again, wB_self, wB_again, wL_self, wL_again, u1_self, nI_add, nI_mul, nI_sub, nI_div, nI_leT, nI_leF, nI_ltT, nI_ltF, nI_eqT, nI_eqF, nI_neg, nI_cl, lit_nI, nI_nlt0, if_true, if_false, if_pos, if_neg, true_and, and_true, not_false_eq_true, or_self, or_false, false_or, reduceIte, and_self, not_true_eq_false, ne_eq, mK_wI, mN_wI, mR_wI, mA_wI, mB_wI, mL_wI, mZ_wI, mK_wA, mN_wA, mI_wA, mR_wA, mB_wA, mL_wA, mZ_wA, mK_wB, mN_wB, mI_wB, mR_wB, mA_wB, mL_wB, mZ_wB, mK_wR, mN_wR, mI_wR, mA_wR, mB_wR, mL_wR, mZ_wR, mK_wL, mN_wL, mI_wL, mR_wL, mA_wL, mB_wL, mZ_wL, e, u1_put, e2]
  · simp (disch := omega) only [fc_X5_copies_2, nI_add, nI_mul, nI_sub, nI_div, nI_leT, nI_leF, nI_ltT, nI_ltF, nI_eqT, nI_eqF, nI_neg, nI_cl, lit_nI, nI_nlt0, if_true, if_false, if_pos, if_neg, true_and, and_true, not_false_eq_true, or_self, or_false, false_or, reduceIte, and_self, not_true_eq_false, ne_eq, Option.map_some]
    rw [put_congr (b := row g u) (fun i hi => if_pos hi)]
theorem X5_areAlike (hR : Rn M m w) (ht : t < 12) {u : Nat} (hu : u < 12) [Decidable (eqS (row g t) (row g u))] : f_X5_areAlike m (nI t) (nI u) (wA M w g) = some (if eqS (row g t) (row g u) then 1 else 0, wA M w g) := by
  obtain ⟨h1, h2, h3, h4⟩ := hR
  have hb := bs_le ht
  have hb' := bs_le hu
  unfold f_X5_areAlike fj_X5_areAlike_2
  refine Eq.trans (loopM_find (st := fun k => (nI k, wA M w g)) (k := 0) (N := 132) (fun i => ¬ row g t i = row g u i) (hit := fun _ => some (0, wA M w g)) (miss := some (1, wA M w g)) rfl (fun i _ hi q => ?_) (fun i _ hi q => ?_) ?_ (by omega) (FUn (by decide))) ?_
  · have q' : g (bs t + i) = g (bs u + i) := Classical.not_not.mp q
    simp (disch := omega) only [fc_X5_areAlike_2, X5_s, h1, h2, h3, h4, gI, gR, gRn, sI_w, sR_w, gA, sA_w, gB, gBn, sBn_w, sB0_w, gL, sL_w, cK, bn, Option.bind_some, Option.map_some, nar9, inT, wA_self, wA_again, wB_self, wB_again, wL_self, wL_again, u1_self, nI_add, nI_mul, nI_sub, nI_div, nI_leT, nI_leF, nI_ltT, nI_ltF, nI_eqT, nI_eqF, nI_neg, nI_cl, lit_nI, nI_nlt0, if_true, if_false, if_pos, if_neg, true_and, and_true, not_false_eq_true, or_self, or_false, false_or, reduceIte, and_self, not_true_eq_false, ne_eq, mK_wI, mN_wI, mR_wI, mA_wI, mB_wI, mL_wI, mZ_wI, mK_wA, mN_wA, mI_wA, mR_wA, mB_wA, mL_wA, mZ_wA, mK_wB, mN_wB, mI_wB, mR_wB, mA_wB, mL_wB, mZ_wB, mK_wR, mN_wR, mI_wR, mA_wR, mB_wR, mL_wR, mZ_wR, mK_wL, mN_wL, mI_wL, mR_wL, mA_wL, mB_wL, mZ_wL, q']
  · have q' : ¬ g (bs t + i) = g (bs u + i) := q
    simp (disch := omega) only [fc_X5_areAlike_2, fj_X5_areAlike_34, X5_s, h1, h2, h3, h4, gI, gR, gRn, sI_w, sR_w, gA, sA_w, gB, gBn, sBn_w, sB0_w, gL, sL_w, cK, bn, Option.bind_some, Option.map_some, nar9, inT, wA_self, wA_again, wB_self, wB_again, wL_self, wL_again, u1_self, nI_add, nI_mul, nI_sub, nI_div, nI_leT, nI_leF, nI_ltT, nI_ltF, nI_eqT, nI_eqF, nI_neg, nI_cl, lit_nI, nI_nlt0, if_true, if_false, if_pos, if_neg, true_and, and_true, not_false_eq_true, or_self, or_false, false_or, reduceIte, and_self, not_true_eq_false, ne_eq, mK_wI, mN_wI, mR_wI, mA_wI, mB_wI, mL_wI, mZ_wI, mK_wA, mN_wA, mI_wA, mR_wA, mB_wA, mL_wA, mZ_wA, mK_wB, mN_wB, mI_wB, mR_wB, mA_wB, mL_wB, mZ_wB, mK_wR, mN_wR, mI_wR, mA_wR, mB_wR, mL_wR, mZ_wR, mK_wL, mN_wL, mI_wL, mR_wL, mA_wL, mB_wL, mZ_wL, q']
  · simp (disch := omega) only [fc_X5_areAlike_2, fj_X5_areAlike_42, nI_add, nI_mul, nI_sub, nI_div, nI_leT, nI_leF, nI_ltT, nI_ltF, nI_eqT, nI_eqF, nI_neg, nI_cl, lit_nI, nI_nlt0, if_true, if_false, if_pos, if_neg, true_and, and_true, not_false_eq_true, or_self, or_false, false_or, reduceIte, and_self, not_true_eq_false, ne_eq, Option.map_some]
  · have key : ∀ (n i : Nat), i + n = 132 → (∀ j, j < i → row g t j = row g u j) → (firstF (fun i => ¬ row g t i = row g u i) i n).elim (some ((1 : Int32), wA M w g)) (fun _ => some (0, wA M w g)) = some (if eqS (row g t) (row g u) then 1 else 0, wA M w g) := by
      intro n
      induction n with
      | zero =>
        intro i e hj
        rw [if_pos (show eqS (row g t) (row g u) from fun j hj' => hj j (by omega))]; rfl
      | succ n ih =>
        intro i e hj
        unfold firstF
        by_cases q : row g t i = row g u i
        · rw [if_neg (fun h => h q)]
          refine ih (i + 1) (by omega) (fun j hj' => ?_)
          by_cases e : j = i
          · rw [e, q]
          · exact hj j (by omega)
        · rw [if_pos q, if_neg (fun hh => q (hh i (by omega)))]; rfl
    exact key 132 0 rfl (fun j hj => absurd hj (by omega))
end RN
