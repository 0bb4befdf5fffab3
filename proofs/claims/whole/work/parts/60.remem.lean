/-! THE REFERENCE REMEMBERS -/
theorem wA_comm {M : Mem} {a b : Nat} {f g : Nat → Int32} (h : a ≠ b) : wA (wA M a f) b g = wA (wA M b g) a f := by
  have e : va_up (va_up (mA M) a f) b g = va_up (va_up (mA M) b g) a f := by
    funext c; unfold va_up
    by_cases q : c = b
    · rw [if_pos q, if_neg (by omega), if_pos q]
    · rw [if_neg q, if_neg q]
  show ((mK M, mN M, mI M, mR M, va_up (va_up (mA M) a f) b g, mB M, mL M, mZ M) : Mem) = (mK M, mN M, mI M, mR M, va_up (va_up (mA M) b g) a f, mB M, mL M, mZ M)
  rw [e]
theorem mA_ne {M : Mem} {a b : Nat} {g : Nat → Int32} (h : b ≠ a) : mA (wA M a g) b = mA M b := by rw [mA_wA, if_neg h]
def cpO (o : Nat → Int32) (k : Nat) (g : Nat → Int32) (n : Nat) : Nat → Int32 := fun q => if 1330 * k ≤ q ∧ q < 1330 * k + n then g (q - 1330 * k) else o q
theorem cpO_0 (o : Nat → Int32) (k : Nat) (g : Nat → Int32) : cpO o k g 0 = o := funext fun q => if_neg (by omega)
theorem cpO_step (o : Nat → Int32) (k : Nat) (g : Nat → Int32) (n : Nat) : u1 (cpO o k g n) (k * 1330 + n) (g n) = cpO o k g (n + 1) := by
  funext q; unfold u1 cpO
  by_cases c : q = k * 1330 + n
  · rw [if_pos c, if_pos (by omega)]; exact congrArg g (by omega)
  · rw [if_neg c]; by_cases c2 : 1330 * k ≤ q ∧ q < 1330 * k + n
    · rw [if_pos c2, if_pos (by omega)]
    · rw [if_neg c2, if_neg (by omega)]
def shO (o : Nat → Int32) (n : Nat) : Nat → Int32 := fun q => if q < n then o (q + 1330) else o q
theorem shO_0 (o : Nat → Int32) : shO o 0 = o := funext fun q => if_neg (by omega)
theorem shO_at (o : Nat → Int32) (n : Nat) : shO o n (n + 1330) = o (n + 1330) := if_neg (by omega)
theorem shO_step (o : Nat → Int32) (n : Nat) : u1 (shO o n) n (o (n + 1330)) = shO o (n + 1) := by
  funext q; unfold u1 shO
  by_cases c : q = n
  · rw [if_pos c, if_pos (by omega), c]
  · rw [if_neg c]; by_cases c2 : q < n
    · rw [if_pos c2, if_pos (by omega)]
    · rw [if_neg c2, if_neg (by omega)]
section RE
variable {M : Mem} {m w ol : Nat} {g : Nat → Int32}
theorem rem52 (hR : Rn M m w) (ho : mR M 164 m = some ol) (hk : mK M ol = 9) (hn : mN M ol = 13300) (hne : ol ≠ w) {k : Nat} (hh : k < 10) (e : mI M 165 m = nI k) : fj_X5_remembers_52 m (wA M w g) = some (wA (wI (wA M ol (cpO (mA M ol) k g 1330)) 165 m (nI (k + 1))) w g) := by
  obtain ⟨h1, h2, h3, h4⟩ := hR
  unfold fj_X5_remembers_52 fj_X5_remembers_54
  refine loopM_run (st := fun n => (nI n, wA (wA M ol (cpO (mA M ol) k g n)) w g)) (N := 1330) ?_ (fun n hn' => ?_) ?_ (FUn (by decide))
  · show _ = (nI 0, wA (wA M ol (cpO (mA M ol) k g 0)) w g)
    rw [cpO_0, wA_id]; rfl
  · have c1 : mA (wA (wA M ol (cpO (mA M ol) k g n)) w g) ol = cpO (mA M ol) k g n := by rw [mA_ne hne, wA_self]
    have c2 : wA (wA (wA M ol (cpO (mA M ol) k g n)) w g) ol (cpO (mA M ol) k g (n + 1)) = wA (wA M ol (cpO (mA M ol) k g (n + 1))) w g := by rw [wA_comm (Ne.symm hne), wA_again]
    simp (disch := omega) only [fc_X5_remembers_54, h1, h2, h3, h4, ho, hk, hn, e, gI, gR, gRn, sI_w, sR_w, gA, sA_w, gB, gBn, sBn_w, sB0_w, gL, sL_w, cK, bn, Option.bind_some, Option.map_some, nar9, inT, wA_self, wA_again, wB_self, wB_again, wL_self, wL_again, u1_self, nI_add, nI_mul, nI_sub, nI_div, nI_leT, nI_leF, nI_ltT, nI_ltF, nI_eqT, nI_eqF, nI_neg, nI_cl, lit_nI, nI_nlt0, if_true, if_false, if_pos, if_neg, true_and, and_true, not_false_eq_true, or_self, or_false, false_or, reduceIte, and_self, not_true_eq_false, ne_eq, mK_wI, mN_wI, mR_wI, mA_wI, mB_wI, mL_wI, mZ_wI, mK_wA, mN_wA, mI_wA, mR_wA, mB_wA, mL_wA, mZ_wA, mK_wB, mN_wB, mI_wB, mR_wB, mA_wB, mL_wB, mZ_wB, mK_wR, mN_wR, mI_wR, mA_wR, mB_wR, mL_wR, mZ_wR, mK_wL, mN_wL, mI_wL, mR_wL, mA_wL, mB_wL, mZ_wL, c1, cpO_step, c2]
  · simp (disch := omega) only [fc_X5_remembers_54, fj_X5_remembers_88, h1, h2, h3, h4, ho, hk, hn, e, gI, gR, gRn, sI_w, sR_w, gA, sA_w, gB, gBn, sBn_w, sB0_w, gL, sL_w, cK, bn, Option.bind_some, Option.map_some, nar9, inT, wA_self, wA_again, wB_self, wB_again, wL_self, wL_again, u1_self, nI_add, nI_mul, nI_sub, nI_div, nI_leT, nI_leF, nI_ltT, nI_ltF, nI_eqT, nI_eqF, nI_neg, nI_cl, lit_nI, nI_nlt0, if_true, if_false, if_pos, if_neg, true_and, and_true, not_false_eq_true, or_self, or_false, false_or, reduceIte, and_self, not_true_eq_false, ne_eq, mK_wI, mN_wI, mR_wI, mA_wI, mB_wI, mL_wI, mZ_wI, mK_wA, mN_wA, mI_wA, mR_wA, mB_wA, mL_wA, mZ_wA, mK_wB, mN_wB, mI_wB, mR_wB, mA_wB, mL_wB, mZ_wB, mK_wR, mN_wR, mI_wR, mA_wR, mB_wR, mL_wR, mZ_wR, mK_wL, mN_wL, mI_wL, mR_wL, mA_wL, mB_wL, mZ_wL]
    rfl
theorem X5_remembers (hR : Rn M m w) (ho : mR M 164 m = some ol) (hk : mK M ol = 9) (hn : mN M ol = 13300) (hne : ol ≠ w) {h : Nat} (hh : h ≤ 10) (e : mI M 165 m = nI h) : ∃ o' : Nat → Int32, f_X5_remembers m (wA M w g) = some (wA (wI (wA M ol o') 165 m (nI (remH h))) w g) ∧ ∀ q, q < 13300 → o' q = remO (mA M ol) h g q := by
  have H := hR
  obtain ⟨h1, h2, h3, h4⟩ := hR
  by_cases c : h = 10
  · subst c
    refine ⟨cpO (shO (mA M ol) 11970) 9 g 1330, ?_, fun q hq => ?_⟩
    · have lp : fj_X5_remembers_13 m (nI 1330) (wA M w g) = some (wA (wI (wA M ol (cpO (shO (mA M ol) 11970) 9 g 1330)) 165 m (nI 10)) w g) := by
        unfold fj_X5_remembers_13
        refine loopM_run (st := fun n => (nI (n + 1330), wA (wA M ol (shO (mA M ol) n)) w g)) (N := 11970) ?_ (fun n hn' => ?_) ?_ (FUn (by decide))
        · show _ = (nI (0 + 1330), wA (wA M ol (shO (mA M ol) 0)) w g)
          rw [shO_0, wA_id]
        · have c1 : mA (wA (wA M ol (shO (mA M ol) n)) w g) ol = shO (mA M ol) n := by rw [mA_ne hne, wA_self]
          have c2 : wA (wA (wA M ol (shO (mA M ol) n)) w g) ol (shO (mA M ol) (n + 1)) = wA (wA M ol (shO (mA M ol) (n + 1))) w g := by rw [wA_comm (Ne.symm hne), wA_again]
          have c3 : nI (n + 1330) - nI 1330 = nI n := by rw [nI_sub (by omega), Nat.add_sub_cancel]
          simp (disch := omega) only [fc_X5_remembers_13, h1, h2, h3, h4, ho, hk, hn, e, gI, gR, gRn, sI_w, sR_w, gA, sA_w, gB, gBn, sBn_w, sB0_w, gL, sL_w, cK, bn, Option.bind_some, Option.map_some, nar9, inT, wA_self, wA_again, wB_self, wB_again, wL_self, wL_again, u1_self, c3, nI_add, nI_mul, nI_sub, nI_div, nI_leT, nI_leF, nI_ltT, nI_ltF, nI_eqT, nI_eqF, nI_neg, nI_cl, lit_nI, nI_nlt0, if_true, if_false, if_pos, if_neg, true_and, and_true, not_false_eq_true, or_self, or_false, false_or, reduceIte, and_self, not_true_eq_false, ne_eq, mK_wI, mN_wI, mR_wI, mA_wI, mB_wI, mL_wI, mZ_wI, mK_wA, mN_wA, mI_wA, mR_wA, mB_wA, mL_wA, mZ_wA, mK_wB, mN_wB, mI_wB, mR_wB, mA_wB, mL_wB, mZ_wB, mK_wR, mN_wR, mI_wR, mA_wR, mB_wR, mL_wR, mZ_wR, mK_wL, mN_wL, mI_wL, mR_wL, mA_wL, mB_wL, mZ_wL, c1, shO_at, shO_step, c2]
        · have r := rem52 (M := wI (wA M ol (shO (mA M ol) 11970)) 165 m (nI 9)) (g := g) (ol := ol) (m := m) (w := w) ⟨h1, h2, h3, h4⟩ ho hk hn hne (k := 9) (by omega) (by rw [mI_wI, if_pos ⟨rfl, rfl⟩])
          have e9 : nI 10 - nI 1 = nI 9 := nI_sub (by omega)
          have em : wI (wA (wA M ol (shO (mA M ol) 11970)) w g) 165 m (nI 9) = wA (wI (wA M ol (shO (mA M ol) 11970)) 165 m (nI 9)) w g := rfl
          have ea : mA (wI (wA M ol (shO (mA M ol) 11970)) 165 m (nI 9)) ol = shO (mA M ol) 11970 := wA_self _ _ _
          rw [ea] at r
          have eb : wI (wA (wI (wA M ol (shO (mA M ol) 11970)) 165 m (nI 9)) ol (cpO (shO (mA M ol) 11970) 9 g 1330)) 165 m (nI (9 + 1)) = wI (wA M ol (cpO (shO (mA M ol) 11970) 9 g 1330)) 165 m (nI 10) := by
            rw [show wA (wI (wA M ol (shO (mA M ol) 11970)) 165 m (nI 9)) ol (cpO (shO (mA M ol) 11970) 9 g 1330) = wI (wA (wA M ol (shO (mA M ol) 11970)) ol (cpO (shO (mA M ol) 11970) 9 g 1330)) 165 m (nI 9) from rfl, wA_again]
            exact wI_again _ _ _ _ _
          rw [eb] at r
          simp (disch := omega) only [fc_X5_remembers_13, fj_X5_remembers_42, h1, h2, h3, h4, e, e9, gI, gR, gRn, sI_w, sR_w, gA, sA_w, gB, gBn, sBn_w, sB0_w, gL, sL_w, cK, bn, Option.bind_some, Option.map_some, nar9, inT, wA_self, wA_again, wB_self, wB_again, wL_self, wL_again, u1_self, nI_add, nI_mul, nI_sub, nI_div, nI_leT, nI_leF, nI_ltT, nI_ltF, nI_eqT, nI_eqF, nI_neg, nI_cl, lit_nI, nI_nlt0, if_true, if_false, if_pos, if_neg, true_and, and_true, not_false_eq_true, or_self, or_false, false_or, reduceIte, and_self, not_true_eq_false, ne_eq, mK_wI, mN_wI, mR_wI, mA_wI, mB_wI, mL_wI, mZ_wI, mK_wA, mN_wA, mI_wA, mR_wA, mB_wA, mL_wA, mZ_wA, mK_wB, mN_wB, mI_wB, mR_wB, mA_wB, mL_wB, mZ_wB, mK_wR, mN_wR, mI_wR, mA_wR, mB_wR, mL_wR, mZ_wR, mK_wL, mN_wL, mI_wL, mR_wL, mA_wL, mB_wL, mZ_wL, em]
          show Option.map Sum.inr (fj_X5_remembers_52 m _) = _
          rw [r]; rfl
      simp (disch := omega) only [f_X5_remembers, h1, e, gI, gR, gRn, sI_w, sR_w, gA, sA_w, gB, gBn, sBn_w, sB0_w, gL, sL_w, cK, bn, Option.bind_some, Option.map_some, nar9, inT, wA_self, wA_again, wB_self, wB_again, wL_self, wL_again, u1_self, nI_add, nI_mul, nI_sub, nI_div, nI_leT, nI_leF, nI_ltT, nI_ltF, nI_eqT, nI_eqF, nI_neg, nI_cl, lit_nI, nI_nlt0, if_true, if_false, if_pos, if_neg, true_and, and_true, not_false_eq_true, or_self, or_false, false_or, reduceIte, and_self, not_true_eq_false, ne_eq, mK_wI, mN_wI, mR_wI, mA_wI, mB_wI, mL_wI, mZ_wI, mK_wA, mN_wA, mI_wA, mR_wA, mB_wA, mL_wA, mZ_wA, mK_wB, mN_wB, mI_wB, mR_wB, mA_wB, mL_wB, mZ_wB, mK_wR, mN_wR, mI_wR, mA_wR, mB_wR, mL_wR, mZ_wR, mK_wL, mN_wL, mI_wL, mR_wL, mA_wL, mB_wL, mZ_wL]
      exact lp
    · unfold cpO shO remO
      rw [if_pos rfl]
      by_cases c : q < 11970
      · rw [if_neg (by omega), if_pos c, if_pos c]
      · rw [if_pos (by omega), if_neg c]
  · refine ⟨cpO (mA M ol) h g 1330, ?_, fun q hq => ?_⟩
    · have r := rem52 (g := g) H ho hk hn hne (k := h) (by omega) e
      have : remH h = h + 1 := if_neg c
      rw [this]
      simp (disch := omega) only [f_X5_remembers, h1, e, gI, gR, gRn, sI_w, sR_w, gA, sA_w, gB, gBn, sBn_w, sB0_w, gL, sL_w, cK, bn, Option.bind_some, Option.map_some, nar9, inT, wA_self, wA_again, wB_self, wB_again, wL_self, wL_again, u1_self, nI_add, nI_mul, nI_sub, nI_div, nI_leT, nI_leF, nI_ltT, nI_ltF, nI_eqT, nI_eqF, nI_neg, nI_cl, lit_nI, nI_nlt0, if_true, if_false, if_pos, if_neg, true_and, and_true, not_false_eq_true, or_self, or_false, false_or, reduceIte, and_self, not_true_eq_false, ne_eq, mK_wI, mN_wI, mR_wI, mA_wI, mB_wI, mL_wI, mZ_wI, mK_wA, mN_wA, mI_wA, mR_wA, mB_wA, mL_wA, mZ_wA, mK_wB, mN_wB, mI_wB, mR_wB, mA_wB, mL_wB, mZ_wB, mK_wR, mN_wR, mI_wR, mA_wR, mB_wR, mL_wR, mZ_wR, mK_wL, mN_wL, mI_wL, mR_wL, mA_wL, mB_wL, mZ_wL]
      exact r
    · unfold cpO remO; rw [if_neg c]
end RE
