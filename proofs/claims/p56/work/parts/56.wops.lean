/-! THE CLASS'S WORLDS: copy, reset, messages, a new one -/
section WO
variable {M : Mem} {w : Nat} {p : Nat → Nat}
theorem W100 (h : WS M w p) : gRn 4 100 w M = some (w + 1) := by unfold gRn; rw [if_pos h.1.1, h.1.2.1]
theorem W101 (h : WS M w p) : gRn 4 101 w M = some (w + 2) := by unfold gRn; rw [if_pos h.1.1, h.1.2.2.1]
theorem W102 (h : WS M w p) : gRn 4 102 w M = some (w + 3) := by unfold gRn; rw [if_pos h.1.1, h.1.2.2.2]
theorem WI (h : WS M w p) {f : Nat} : gI 4 f w M = some (mI M f w) := by unfold gI; rw [if_pos h.1.1]
theorem WsI (h : WS M w p) {f : Nat} {v : Int32} : sI 4 f w v M = some (wI M f w v) := by rw [sI_w, if_pos h.1.1]
theorem WB1 (h : WS M w p) {i : Nat} (hi : i < 4) : gBn 10 (w + 1) (nI i) M = some (sto w p i) := by
  unfold gBn sto
  rw [if_pos ⟨h.2.1.1, by rw [h.2.1.2.1, inT hi (by omega)]; exact not_false⟩, nI_cl (by omega), h.2.2.1 i hi, if_pos hi]
theorem WB2 (h : WS M w p) {i : Nat} (hi : i < 6) : gBn 10 (w + 2) (nI i) M = some (sto w p (4 + i)) := by
  unfold gBn sto
  rw [if_pos ⟨h.2.1.2.2.1, by rw [h.2.1.2.2.2.1, inT hi (by omega)]; exact not_false⟩, nI_cl (by omega), (h.2.2.2.1 i hi).1, if_neg (by omega), show 4 + i - 4 = i by omega]
theorem WA3 (h : WS M w p) {i : Nat} (hi : i < 6) : gA 9 (w + 3) (nI i) M = some (mA M (w + 3) i) := by
  unfold gA
  rw [if_pos ⟨h.2.1.2.2.2.2.1, by rw [h.2.1.2.2.2.2.2, inT hi (by omega)]; exact not_false⟩, nI_cl (by omega)]
theorem WsA3 (h : WS M w p) {i : Nat} (hi : i < 6) {v : Int32} : sA 9 (w + 3) (nI i) v M = some (wA M (w + 3) (u1 (mA M (w + 3)) i v)) := by
  rw [sA_w, if_pos ⟨h.2.1.2.2.2.2.1, by rw [h.2.1.2.2.2.2.2, inT hi (by omega)]; exact not_false⟩, nI_cl (by omega), nar9]
theorem WK (h : WS M w p) {t : Nat} (ht : t < 10) : mK M (sto w p t) = 3 := (h.row ht).1
theorem WS.wA {a : Nat} {g : Nat → Int32} (h : WS M w p) : WS (Jvm.Pilot.COfflineNotesLaw_law_r8929_57547b.wA M a g) w p := h
theorem WS.wI {f a : Nat} {g : Int32} (h : WS M w p) : WS (Jvm.Pilot.COfflineNotesLaw_law_r8929_57547b.wI M f a g) w p := h
def inW (w a : Nat) : Prop := w ≤ a ∧ a < w + 24
theorem clo_in (h : WS M w p) {t : Nat} (ht : t < 10) : inW w (clo w p t) := by have := sto_lt h ht; unfold inW clo; omega
theorem Fr.at {P : Nat → Prop} {M M' : Mem} (h : Fr P M M') {a : Nat} (ha : a < mZ M) (hn : ¬ P a) : (∀ f, mI M' f a = mI M f a) ∧ mA M' a = mA M a ∧ mB M' a = mB M a ∧ mL M' a = mL M a := (h.2 a ha).2 hn
/-- only int data of a world changes: its shape stays -/
def FrW (w : Nat) (M M' : Mem) : Prop := Fr (inW w) M M' ∧ mB M' (w + 1) = mB M (w + 1) ∧ mB M' (w + 2) = mB M (w + 2) ∧ mZ M' = mZ M
theorem FrW.ws {w : Nat} {M M' : Mem} {p : Nat → Nat} (h : FrW w M M') (hw : WS M w p) (hz : w + 24 ≤ mZ M) : WS M' w p := hw.fr hz h.1 ⟨h.2.1, h.2.2.1⟩
theorem FrW.wA {w : Nat} {M M' : Mem} {a : Nat} {g : Nat → Int32} (h : FrW w M M') (ha : inW w a) : FrW w M (Jvm.Pilot.COfflineNotesLaw_law_r8929_57547b.wA M' a g) := ⟨h.1.tr (Fr.wA ha), h.2⟩
theorem FrW.wI {w : Nat} {M M' : Mem} {f a : Nat} {g : Int32} (h : FrW w M M') (ha : inW w a) : FrW w M (Jvm.Pilot.COfflineNotesLaw_law_r8929_57547b.wI M' f a g) := ⟨h.1.tr (Fr.wI ha), h.2⟩
theorem FrW.refl {w : Nat} {M : Mem} : FrW w M M := ⟨Fr.refl M, rfl, rfl, rfl⟩
theorem X3_copyFrom {w' : Nat} {p' : Nat → Nat} {g : Nat → Int32} (h : WS M w p) (hr : RelP M w' p' g) (gap : w + 24 ≤ w' ∨ w' + 24 ≤ w) (hz : w + 24 ≤ mZ M) (hz' : w' + 24 ≤ mZ M) : ∃ M', f_X3_copyFrom w w' M = some M' ∧ FrW w M M' ∧ RelP M' w p g := by
  obtain ⟨h', ⟨a1, a2, a3, a4⟩, r3, r4⟩ := hr
  have two : ∀ M1, FrW w M M1 → (mI M1 96 w = g 0 ∧ mI M1 97 w = g 1 ∧ mI M1 98 w = g 2 ∧ mI M1 99 w = g 3) → (∀ t, t < 4 → ∀ q, q < 132 → mA M1 (clo w p t) q = mA M (clo w' p' t) q) → ∃ M', fj_X3_copyFrom_60 w w' M1 = some M' ∧ (FrW w M M' ∧ RelP M' w p g) := by
    intro M1 f1 i1 c1
    unfold fj_X3_copyFrom_60 fj_X3_copyFrom_62
    refine loopM_inv (N := 6) (P := fun k s => s.1 = nI k ∧ FrW w M s.2 ∧ (mI s.2 96 w = g 0 ∧ mI s.2 97 w = g 1 ∧ mI s.2 98 w = g 2 ∧ mI s.2 99 w = g 3) ∧ (∀ t, t < 4 + k → ∀ q, q < 132 → mA s.2 (clo w p t) q = mA M (clo w' p' t) q) ∧ (∀ j, j < k → mA s.2 (w + 3) j = mA M (w' + 3) j)) ⟨rfl, f1, i1, c1, fun j hj => absurd hj (by omega)⟩ (fun k s hk hp => ?_) (fun s hp => ?_) (FUn (by decide))
    · obtain ⟨k0, M2⟩ := s
      obtain ⟨e0, f2, i2, c2, s2⟩ := hp
      dsimp only at e0 f2 i2 c2 s2 ⊢
      subst e0
      have w2 := f2.ws h hz
      have w2' : WS M2 w' p' := h'.fr hz' f2.1 ⟨(f2.1.at (by omega) (by unfold inW; omega)).2.2.1, (f2.1.at (by omega) (by unfold inW; omega)).2.2.1⟩
      have ht : 4 + k < 10 := by omega
      have l1 := sto_lt h ht
      have l1' := sto_lt h' ht
      have ec := X2_copyFrom (w2.row ht) (w2'.row ht)
      have ek := WK w2 ht
      refine ⟨(nI (k + 1), wA (wA M2 (clo w p (4 + k)) (fun i => if i < 132 then mA M2 (clo w' p' (4 + k)) i else mA M2 (clo w p (4 + k)) i)) (w + 3) (u1 (mA M2 (w + 3)) k (mA M2 (w' + 3) k))), ?_, rfl, (f2.wA (clo_in h ht)).wA (by unfold inW; omega), i2, fun t ht2 q hq => ?_, fun j hj => ?_⟩
      · have w3 := WS.wA (a := clo w p (4 + k)) (g := fun i => if i < 132 then mA M2 (clo w' p' (4 + k)) i else mA M2 (clo w p (4 + k)) i) w2
        have w3' := WS.wA (a := clo w p (4 + k)) (g := fun i => if i < 132 then mA M2 (clo w' p' (4 + k)) i else mA M2 (clo w p (4 + k)) i) w2'
        have e3 : mA (wA M2 (clo w p (4 + k)) (fun i => if i < 132 then mA M2 (clo w' p' (4 + k)) i else mA M2 (clo w p (4 + k)) i)) (w + 3) = mA M2 (w + 3) := by rw [mA_wA, if_neg (by unfold clo; omega)]
        have e4 : mA (wA M2 (clo w p (4 + k)) (fun i => if i < 132 then mA M2 (clo w' p' (4 + k)) i else mA M2 (clo w p (4 + k)) i)) (w' + 3) = mA M2 (w' + 3) := by rw [mA_wA, if_neg (by unfold clo; omega)]
        simp (disch := omega) only [fc_X3_copyFrom_62, W101 w2, W101 w2', WB2 w2, WB2 w2', W102 w3, W102 w3', WA3 w3', WsA3 w3, ec, ek, e3, e4, cK, bn, Option.bind_some, Option.map_some, nI_add, nI_mul, nI_sub, nI_div, nI_leT, nI_leF, nI_ltT, nI_ltF, nI_eqT, nI_eqF, nI_neg, nI_cl, lit_nI, nI_nlt0, if_true, if_false, if_pos, if_neg, true_and, and_true, not_false_eq_true, or_self, or_false, false_or, reduceIte, and_self, not_true_eq_false, ne_eq]
      · rw [mA_wA, if_neg (by have := sto_lt h (show t < 10 by omega); unfold clo; omega)]
        by_cases q1 : t = 4 + k
        · subst q1; rw [wA_self, if_pos hq]
          rw [(f2.1.at (show clo w' p' (4 + k) < mZ M by unfold clo; omega) (by unfold inW clo; omega)).2.1]
        · rw [mA_wA, if_neg (fun e => q1 (sto_inj h (by omega) ht (by unfold clo at e; omega)))]
          exact c2 t (by omega) q hq
      · rw [wA_self]
        have e5 : mA M2 (w' + 3) = mA M (w' + 3) := (f2.1.at (by omega) (by unfold inW; omega)).2.1
        by_cases q1 : j = k
        · subst q1; rw [u1_self, e5]
        · rw [u1_ne _ _ q1]; exact s2 j (by omega)
    · obtain ⟨k0, M2⟩ := s
      obtain ⟨e0, f2, i2, c2, s2⟩ := hp
      dsimp only at e0 f2 i2 c2 s2 ⊢
      subst e0
      refine ⟨M2, ?_, f2, f2.ws h hz, i2, fun t ht hv i hi => ?_, fun j hj hv => ?_⟩
      · simp (disch := omega) only [fc_X3_copyFrom_62, nI_add, nI_mul, nI_sub, nI_div, nI_leT, nI_leF, nI_ltT, nI_ltF, nI_eqT, nI_eqF, nI_neg, nI_cl, lit_nI, nI_nlt0, if_true, if_false, if_pos, if_neg, true_and, and_true, not_false_eq_true, or_self, or_false, false_or, reduceIte, and_self, not_true_eq_false, ne_eq]
      · rw [c2 t (by omega) i hi]; exact r3 t ht hv i hi
      · rw [s2 j (by omega)]; exact r4 j hj hv
  have one : ∀ M1, FrW w M M1 → (mI M1 96 w = g 0 ∧ mI M1 97 w = g 1 ∧ mI M1 98 w = g 2 ∧ mI M1 99 w = g 3) → ∃ M', fj_X3_copyFrom_34 w w' (nI 0) M1 = some M' ∧ (FrW w M M' ∧ RelP M' w p g) := by
    intro M1 f1 i1
    unfold fj_X3_copyFrom_34
    refine loopM_inv (N := 4) (P := fun k s => s.1 = nI k ∧ FrW w M s.2 ∧ (mI s.2 96 w = g 0 ∧ mI s.2 97 w = g 1 ∧ mI s.2 98 w = g 2 ∧ mI s.2 99 w = g 3) ∧ (∀ t, t < k → ∀ q, q < 132 → mA s.2 (clo w p t) q = mA M (clo w' p' t) q)) ⟨rfl, f1, i1, fun j hj => absurd hj (by omega)⟩ (fun k s hk hp => ?_) (fun s hp => ?_) (FUn (by decide))
    · obtain ⟨k0, M2⟩ := s
      obtain ⟨e0, f2, i2, c2⟩ := hp
      dsimp only at e0 f2 i2 c2 ⊢
      subst e0
      have w2 := f2.ws h hz
      have w2' : WS M2 w' p' := h'.fr hz' f2.1 ⟨(f2.1.at (by omega) (by unfold inW; omega)).2.2.1, (f2.1.at (by omega) (by unfold inW; omega)).2.2.1⟩
      have ht : k < 10 := by omega
      have l1 := sto_lt h ht
      have l1' := sto_lt h' ht
      have ec := X2_copyFrom (w2.row ht) (w2'.row ht)
      have ek := WK w2 ht
      refine ⟨(nI (k + 1), wA M2 (clo w p k) (fun i => if i < 132 then mA M2 (clo w' p' k) i else mA M2 (clo w p k) i)), ?_, rfl, f2.wA (clo_in h ht), i2, fun t ht2 q hq => ?_⟩
      · simp (disch := omega) only [fc_X3_copyFrom_34, W100 w2, W100 w2', WB1 w2, WB1 w2', ec, ek, cK, bn, Option.bind_some, Option.map_some, nI_add, nI_mul, nI_sub, nI_div, nI_leT, nI_leF, nI_ltT, nI_ltF, nI_eqT, nI_eqF, nI_neg, nI_cl, lit_nI, nI_nlt0, if_true, if_false, if_pos, if_neg, true_and, and_true, not_false_eq_true, or_self, or_false, false_or, reduceIte, and_self, not_true_eq_false, ne_eq]
      · by_cases q1 : t = k
        · subst q1; dsimp only; rw [wA_self, if_pos hq]
          rw [(f2.1.at (show clo w' p' t < mZ M by unfold clo; omega) (by unfold inW clo; omega)).2.1]
        · dsimp only; rw [mA_wA, if_neg (fun e => q1 (sto_inj h (by omega) ht (by unfold clo at e; omega)))]
          exact c2 t (by omega) q hq
    · obtain ⟨k0, M2⟩ := s
      obtain ⟨e0, f2, i2, c2⟩ := hp
      dsimp only at e0 f2 i2 c2 ⊢
      subst e0
      obtain ⟨M', e1, e2⟩ := two M2 f2 i2 c2
      exact ⟨M', by simp (disch := omega) only [fc_X3_copyFrom_34, nI_add, nI_mul, nI_sub, nI_div, nI_leT, nI_leF, nI_ltT, nI_ltF, nI_eqT, nI_eqF, nI_neg, nI_cl, lit_nI, nI_nlt0, if_true, if_false, if_pos, if_neg, true_and, and_true, not_false_eq_true, or_self, or_false, false_or, reduceIte, and_self, not_true_eq_false, ne_eq, e1, Option.map_some], e2⟩
  have hw : w' ≠ w := by omega
  have fin := one (wI (wI (wI (wI M 96 w (g 0)) 97 w (g 1)) 98 w (g 2)) 99 w (g 3)) ((((FrW.refl.wI (by unfold inW; omega)).wI (by unfold inW; omega)).wI (by unfold inW; omega)).wI (by unfold inW; omega)) ⟨by simp [mI_wI], by simp [mI_wI], by simp [mI_wI], by simp [mI_wI]⟩
  obtain ⟨M', e1, e2⟩ := fin
  refine ⟨M', ?_, e2⟩
  unfold f_X3_copyFrom
  simp only [cK, bn, Option.bind_some, Option.map_some, WI h', WI (WS.wI h'), WI (WS.wI (WS.wI h')), WI (WS.wI (WS.wI (WS.wI h'))), WsI h, WsI (WS.wI h), WsI (WS.wI (WS.wI h)), WsI (WS.wI (WS.wI (WS.wI h))), if_true, if_false, if_pos, if_neg, true_and, and_true, not_false_eq_true, or_self, or_false, false_or, reduceIte, and_self, not_true_eq_false, ne_eq, mK_wI, mN_wI, mR_wI, mA_wI, mB_wI, mL_wI, mZ_wI, mK_wA, mN_wA, mI_wA, mR_wA, mB_wA, mL_wA, mZ_wA, mK_wB, mN_wB, mI_wB, mR_wB, mA_wB, mL_wB, mZ_wB, mK_wR, mN_wR, mI_wR, mA_wR, mB_wR, mL_wR, mZ_wR, mK_wL, mN_wL, mI_wL, mR_wL, mA_wL, mB_wL, mZ_wL, a1, a2, a3, a4, mI_wI, hw, and_false]
  exact e1
theorem X3_reset {a b c : Int32} (h : WS M w p) (hz : w + 24 ≤ mZ M) : ∃ M', f_X3_reset w a b c M = some M' ∧ FrW w M M' ∧ ∀ g : Nat → Int32, g 0 = a → g 1 = b → g 2 = c → g 3 = 0 → (∀ t, t < 4 → ∀ i, i < 132 → row g t i = 0) → RelP M' w p g := by
  have one : ∀ M1, FrW w M M1 → (mI M1 96 w = a ∧ mI M1 97 w = b ∧ mI M1 98 w = c ∧ mI M1 99 w = 0) → ∃ M', fj_X3_reset_23 w 0 M1 = some M' ∧ (FrW w M M' ∧ ∀ g : Nat → Int32, g 0 = a → g 1 = b → g 2 = c → g 3 = 0 → (∀ t, t < 4 → ∀ i, i < 132 → row g t i = 0) → RelP M' w p g) := by
    intro M1 f1 i1
    unfold fj_X3_reset_23
    refine loopM_inv (N := 4) (P := fun k s => s.1 = nI k ∧ FrW w M s.2 ∧ (mI s.2 96 w = a ∧ mI s.2 97 w = b ∧ mI s.2 98 w = c ∧ mI s.2 99 w = 0) ∧ (∀ t, t < k → ∀ q, q < 132 → mA s.2 (clo w p t) q = 0)) ⟨rfl, f1, i1, fun j hj => absurd hj (by omega)⟩ (fun k s hk hp => ?_) (fun s hp => ?_) (FUn (by decide))
    · obtain ⟨k0, M2⟩ := s
      obtain ⟨e0, f2, i2, c2⟩ := hp
      dsimp only at e0 f2 i2 c2 ⊢
      subst e0
      have w2 := f2.ws h hz
      have ht : k < 10 := by omega
      have ec := X2_empty (w2.row ht)
      have ek := WK w2 ht
      refine ⟨(nI (k + 1), wA M2 (clo w p k) (fun i => if i < 132 then 0 else mA M2 (clo w p k) i)), ?_, rfl, f2.wA (clo_in h ht), i2, fun t ht2 q hq => ?_⟩
      · simp (disch := omega) only [fc_X3_reset_23, W100 w2, WB1 w2, ec, ek, cK, bn, Option.bind_some, Option.map_some, nI_add, nI_mul, nI_sub, nI_div, nI_leT, nI_leF, nI_ltT, nI_ltF, nI_eqT, nI_eqF, nI_neg, nI_cl, lit_nI, nI_nlt0, if_true, if_false, if_pos, if_neg, true_and, and_true, not_false_eq_true, or_self, or_false, false_or, reduceIte, and_self, not_true_eq_false, ne_eq]
      · by_cases q1 : t = k
        · subst q1; dsimp only; rw [wA_self, if_pos hq]
        · dsimp only; rw [mA_wA, if_neg (fun e => q1 (sto_inj h (by omega) ht (by unfold clo at e; omega)))]
          exact c2 t (by omega) q hq
    · obtain ⟨k0, M2⟩ := s
      obtain ⟨e0, f2, i2, c2⟩ := hp
      dsimp only at e0 f2 i2 c2 ⊢
      subst e0
      refine ⟨M2, by simp (disch := omega) only [fc_X3_reset_23, nI_add, nI_mul, nI_sub, nI_div, nI_leT, nI_leF, nI_ltT, nI_ltF, nI_eqT, nI_eqF, nI_neg, nI_cl, lit_nI, nI_nlt0, if_true, if_false, if_pos, if_neg, true_and, and_true, not_false_eq_true, or_self, or_false, false_or, reduceIte, and_self, not_true_eq_false, ne_eq], f2, fun g g0 g1 g2 g3 gr => ⟨f2.ws h hz, ⟨i2.1.trans g0.symm, i2.2.1.trans g1.symm, i2.2.2.1.trans g2.symm, i2.2.2.2.trans g3.symm⟩, fun t ht hv i hi => ?_, fun j hj hv => ?_⟩⟩
      · have hm : mcn g = 0 := by unfold mcn; rw [g3]; rfl
        rw [c2 t (by omega) i hi, gr t (by omega) i hi]
      · have hm : mcn g = 0 := by unfold mcn; rw [g3]; rfl
        omega
  obtain ⟨M', e1, e2⟩ := one (wI (wI (wI (wI M 96 w a) 97 w b) 98 w c) 99 w 0) ((((FrW.refl.wI (by unfold inW; omega)).wI (by unfold inW; omega)).wI (by unfold inW; omega)).wI (by unfold inW; omega)) ⟨by simp [mI_wI], by simp [mI_wI], by simp [mI_wI], by simp [mI_wI]⟩
  refine ⟨M', ?_, e2⟩
  unfold f_X3_reset
  simp only [cK, bn, Option.bind_some, Option.map_some, WsI h, WsI (WS.wI h), WsI (WS.wI (WS.wI h)), WsI (WS.wI (WS.wI (WS.wI h)))]
  exact e1
/-- a message more: what the reference makes of it -/
def sendG (g : Nat → Int32) (r : Nat) : Nat → Int32 := u1 (put (u1 g (4 + mcn g) (nI r)) (4 + mcn g) (row g r)) 3 (nI (mcn g + 1))
theorem row_u1 {g : Nat → Int32} {q : Nat} {v : Int32} (hq : q < 10) (t : Nat) : row (u1 g q v) t = row g t := funext fun i => u1_ne g v (by rw [bs_eq]; omega)
theorem X3_addMessage {g : Nat → Int32} {r : Nat} (h : RelP M w p g) (hz : w + 24 ≤ mZ M) (hr : r < 4) (hm : mcn g < 6) (hg : g 3 = nI (mcn g)) : ∃ M', f_X3_addMessage w (nI r) M = some M' ∧ FrW w M M' ∧ RelP M' w p (sendG g r) := by
  obtain ⟨hw, ⟨a1, a2, a3, a4⟩, h3, h4⟩ := h
  have ht : 4 + mcn g < 10 := by omega
  have ec := X2_copyFrom (hw.row ht) (hw.row (show r < 10 by omega))
  have ek := WK hw ht
  have l1 := sto_lt hw ht
  have w1 := WS.wA (a := clo w p (4 + mcn g)) (g := fun i => if i < 132 then mA M (clo w p r) i else mA M (clo w p (4 + mcn g)) i) hw
  have w2 := WS.wA (a := w + 3) (g := u1 (mA M (w + 3)) (mcn g) (nI r)) w1
  have a4' := a4.trans hg
  have e3 : mA (wA M (clo w p (4 + mcn g)) (fun i => if i < 132 then mA M (clo w p r) i else mA M (clo w p (4 + mcn g)) i)) (w + 3) = mA M (w + 3) := by rw [mA_wA, if_neg (by unfold clo; omega)]
  refine ⟨wI (wA (wA M (clo w p (4 + mcn g)) (fun i => if i < 132 then mA M (clo w p r) i else mA M (clo w p (4 + mcn g)) i)) (w + 3) (u1 (mA M (w + 3)) (mcn g) (nI r))) 99 w (nI (mcn g + 1)), ?_, ((FrW.refl.wA (clo_in hw ht)).wA (by unfold inW; omega)).wI (by unfold inW; omega), hw, ⟨?_, ?_, ?_, ?_⟩, fun t htt hv i hi => ?_, fun j hj hv => ?_⟩
  · simp (disch := omega) only [f_X3_addMessage, fj_X3_addMessage_47, WI hw, WI w1, WI w2, W101 hw, W100 hw, WB2 hw, WB1 hw, W102 w1, WsA3 w1, WsI w2, ec, ek, a4', e3, cK, bn, Option.bind_some, Option.map_some, nI_add, nI_mul, nI_sub, nI_div, nI_leT, nI_leF, nI_ltT, nI_ltF, nI_eqT, nI_eqF, nI_neg, nI_cl, lit_nI, nI_nlt0, if_true, if_false, if_pos, if_neg, true_and, and_true, not_false_eq_true, or_self, or_false, false_or, reduceIte, and_self, not_true_eq_false, ne_eq, mK_wI, mN_wI, mR_wI, mA_wI, mB_wI, mL_wI, mZ_wI, mK_wA, mN_wA, mI_wA, mR_wA, mB_wA, mL_wA, mZ_wA, mK_wB, mN_wB, mI_wB, mR_wB, mA_wB, mL_wB, mZ_wB, mK_wR, mN_wR, mI_wR, mA_wR, mB_wR, mL_wR, mZ_wR, mK_wL, mN_wL, mI_wL, mR_wL, mA_wL, mB_wL, mZ_wL]
  · simp (disch := omega) [sendG, mI_wI, mI_wA, u1_ne, put_lo, a1]
  · simp (disch := omega) [sendG, mI_wI, mI_wA, u1_ne, put_lo, a2]
  · simp (disch := omega) [sendG, mI_wI, mI_wA, u1_ne, put_lo, a3]
  · simp (disch := omega) [sendG, mI_wI, u1_self]
  · have hm' : mcn (sendG g r) = mcn g + 1 := by unfold mcn sendG; rw [u1_self]; exact nI_cl (by unfold mcn at hm ⊢; omega)
    rw [hm'] at hv
    show mA (wA (wA M (clo w p (4 + mcn g)) (fun i => if i < 132 then mA M (clo w p r) i else mA M (clo w p (4 + mcn g)) i)) (w + 3) (u1 (mA M (w + 3)) (mcn g) (nI r))) (clo w p t) i = _
    have lt := sto_lt hw htt
    rw [mA_wA, if_neg (by unfold clo; omega)]
    unfold sendG
    rw [row_u1 (by omega)]
    by_cases q : t = 4 + mcn g
    · subst q; rw [wA_self, if_pos hi, row_put hi]; exact h3 r (by omega) (by omega) i hi
    · rw [mA_wA, if_neg (fun e => q (sto_inj hw htt ht (by unfold clo at e; omega))), row_put_ne hi q, row_u1 (by omega)]
      exact h3 t htt (by omega) i hi
  · have hm' : mcn (sendG g r) = mcn g + 1 := by unfold mcn sendG; rw [u1_self]; exact nI_cl (by unfold mcn at hm ⊢; omega)
    rw [hm'] at hv
    show mA (wA (wA M (clo w p (4 + mcn g)) (fun i => if i < 132 then mA M (clo w p r) i else mA M (clo w p (4 + mcn g)) i)) (w + 3) (u1 (mA M (w + 3)) (mcn g) (nI r))) (w + 3) j = _
    have hR : sendG g r (4 + j) = u1 g (4 + mcn g) (nI r) (4 + j) := by unfold sendG; rw [u1_ne _ _ (show 4 + j ≠ 3 by omega), put_lo (by omega)]
    rw [wA_self, hR]
    by_cases q : j = mcn g
    · subst q; rw [u1_self, u1_self]
    · rw [u1_ne _ _ q, u1_ne _ _ (by omega)]; exact h4 j hj (by omega)
def shf {α : Type} (f : Nat → α) (i n : Nat) : Nat → α := fun j => if i ≤ j ∧ j < i + n then f (j + 1) else f j
theorem shf_0 {α : Type} (f : Nat → α) (i : Nat) : shf f i 0 = f := funext fun j => if_neg (by omega)
theorem shf_n {α : Type} (f : Nat → α) (i n : Nat) : shf f i n (i + n + 1) = f (i + n + 1) := if_neg (by omega)
theorem shf_step {α : Type} (f : Nat → α) (i n : Nat) : u1 (shf f i n) (i + n) (f (i + n + 1)) = shf f i (n + 1) := by
  funext j; unfold u1 shf
  by_cases q : j = i + n
  · rw [if_pos q, if_pos (by omega), q]
  · rw [if_neg q]; by_cases q2 : i ≤ j ∧ j < i + n
    · rw [if_pos q2, if_pos (by omega)]
    · rw [if_neg q2, if_neg (by omega)]
theorem wB_wA (M : Mem) (a b : Nat) (g : Nat → Int32) (f : Nat → Option Nat) : wB (Jvm.Pilot.COfflineNotesLaw_law_r8929_57547b.wA M a g) b f = Jvm.Pilot.COfflineNotesLaw_law_r8929_57547b.wA (wB M b f) a g := rfl
def dropL (g : Nat → Int32) (i : Nat) : Nat → Nat → Int32
  | 0 => g
  | n + 1 => put (u1 (dropL g i n) (4 + (i + n)) (dropL g i n (4 + (i + n + 1)))) (4 + (i + n)) (row (dropL g i n) (4 + (i + n + 1)))
/-- a message less: what the reference makes of it -/
def dropG (g : Nat → Int32) (i : Nat) : Nat → Int32 := dropL (u1 g 3 (nI (mcn g - 1))) i (mcn g - 1 - i)
theorem dropL_lo (g : Nat → Int32) (i : Nat) (n q : Nat) (hq : q < 4) : dropL g i n q = g q := by
  induction n with
  | zero => rfl
  | succ n ih => unfold dropL; rw [put_lo (by omega), u1_ne _ _ (by omega), ih]
theorem dropL_s (g : Nat → Int32) (i : Nat) (n j : Nat) (hn : i + n ≤ 5) (hj : j < 6) : dropL g i n (4 + j) = if i ≤ j ∧ j < i + n then g (4 + (j + 1)) else g (4 + j) := by
  induction n generalizing j with
  | zero => rw [if_neg (by omega)]; rfl
  | succ n ih =>
    unfold dropL
    rw [put_lo (by omega)]
    by_cases q : j = i + n
    · subst q; rw [u1_self, ih _ (by omega) (by omega), if_neg (by omega), if_pos (by omega)]
    · rw [u1_ne _ _ (by omega), ih j (by omega) hj]
      by_cases q2 : i ≤ j ∧ j < i + n
      · rw [if_pos q2, if_pos (by omega)]
      · rw [if_neg q2, if_neg (by omega)]
theorem dropL_r (g : Nat → Int32) (i : Nat) (n t q : Nat) (hn : i + n ≤ 5) (hq : q < 132) : row (dropL g i n) t q = if 4 + i ≤ t ∧ t < 4 + i + n then row g (t + 1) q else row g t q := by
  induction n generalizing t with
  | zero => rw [if_neg (by omega)]; rfl
  | succ n ih =>
    unfold dropL
    by_cases e : t = 4 + (i + n)
    · subst e; rw [row_put hq, ih _ (by omega), if_neg (by omega), if_pos (by omega)]; rfl
    · rw [row_put_ne hq e, row_u1 (by omega), ih _ (by omega)]
      by_cases q2 : 4 + i ≤ t ∧ t < 4 + i + n
      · rw [if_pos q2, if_pos (by omega)]
      · rw [if_neg q2, if_neg (by omega)]
theorem X3_removeMessage {g : Nat → Int32} {i : Nat} (h : RelP M w p g) (hz : w + 24 ≤ mZ M) (hi : i < mcn g) (hm : mcn g ≤ 6) (hg : g 3 = nI (mcn g)) : ∃ M' p', f_X3_removeMessage w (nI i) M = some M' ∧ Fr (inW w) M M' ∧ RelP M' w p' (dropG g i) := by
  obtain ⟨hw, ⟨a1, a2, a3, a4⟩, h3, h4⟩ := h
  obtain ⟨⟨k1, k2, k3, k4⟩, ⟨b1, b2, b3, b4, b5, b6⟩, c, d, e, f⟩ := id hw
  have dk : ∀ j, j < 6 → mK M (w + 12 + 2 * p j) = 3 := fun j hj => by
    have := (e (4 + p j) (by have := (d j hj).2; omega)).1
    rwa [show w + 4 + 2 * (4 + p j) = w + 12 + 2 * p j by omega] at this
  have a4' := a4.trans hg
  have i6 : i < 6 := by omega
  let fin := wI (Jvm.Pilot.COfflineNotesLaw_law_r8929_57547b.wA (wB M (w + 2) (u1 (shf (mB M (w + 2)) i (5 - i)) 5 (some (w + 12 + 2 * p i)))) (w + 3) (shf (mA M (w + 3)) i (5 - i))) 99 w (nI (mcn g - 1))
  have lp : fj_X3_removeMessage_9 w (w + 12 + 2 * p i) (nI i) M = some fin := by
    unfold fj_X3_removeMessage_9
    refine loopM_run (st := fun n => (nI (i + n), wA (wB M (w + 2) (shf (mB M (w + 2)) i n)) (w + 3) (shf (mA M (w + 3)) i n))) (N := 5 - i) ?_ (fun n hn => ?_) ?_ (FUn (by omega))
    · show _ = (nI i, wA (wB M (w + 2) (shf (mB M (w + 2)) i 0)) (w + 3) (shf (mA M (w + 3)) i 0))
      rw [shf_0, shf_0, wB_id, wA_id]
    · have q1 : mB M (w + 2) (i + n + 1) = some (w + 12 + 2 * p (i + n + 1)) := (d _ (by omega)).1
      have q2 := dk (i + n + 1) (by omega)
      have s1 := shf_step (mB M (w + 2)) i n
      have s2 := shf_step (mA M (w + 3)) i n
      rw [q1] at s1
      simp (disch := omega) only [fc_X3_removeMessage_9, k1, k3, k4, b3, b4, b5, b6, q1, q2, s1, s2, shf_n, gI, gR, gRn, sI_w, sR_w, gA, sA_w, gB, gBn, sBn_w, sB0_w, gL, sL_w, cK, bn, Option.bind_some, Option.map_some, nar9, inT, wA_self, wA_again, wB_self, wB_again, wL_self, wL_again, u1_self, nI_add, nI_mul, nI_sub, nI_div, nI_leT, nI_leF, nI_ltT, nI_ltF, nI_eqT, nI_eqF, nI_neg, nI_cl, lit_nI, nI_nlt0, if_true, if_false, if_pos, if_neg, true_and, and_true, not_false_eq_true, or_self, or_false, false_or, reduceIte, and_self, not_true_eq_false, ne_eq, mK_wI, mN_wI, mR_wI, mA_wI, mB_wI, mL_wI, mZ_wI, mK_wA, mN_wA, mI_wA, mR_wA, mB_wA, mL_wA, mZ_wA, mK_wB, mN_wB, mI_wB, mR_wB, mA_wB, mL_wB, mZ_wB, mK_wR, mN_wR, mI_wR, mA_wR, mB_wR, mL_wR, mZ_wR, mK_wL, mN_wL, mI_wL, mR_wL, mA_wL, mB_wL, mZ_wL, wB_wA]
      rfl
    · have a5 : i + (5 - i) = 5 := by omega
      have q2 := dk i i6
      simp (disch := omega) only [fc_X3_removeMessage_9, fj_X3_removeMessage_48, k1, k3, k4, b3, b4, b5, b6, a4', a5, q2, gI, gR, gRn, sI_w, sR_w, gA, sA_w, gB, gBn, sBn_w, sB0_w, gL, sL_w, cK, bn, Option.bind_some, Option.map_some, nar9, inT, wA_self, wA_again, wB_self, wB_again, wL_self, wL_again, u1_self, nI_add, nI_mul, nI_sub, nI_div, nI_leT, nI_leF, nI_ltT, nI_ltF, nI_eqT, nI_eqF, nI_neg, nI_cl, lit_nI, nI_nlt0, if_true, if_false, if_pos, if_neg, true_and, and_true, not_false_eq_true, or_self, or_false, false_or, reduceIte, and_self, not_true_eq_false, ne_eq, mK_wI, mN_wI, mR_wI, mA_wI, mB_wI, mL_wI, mZ_wI, mK_wA, mN_wA, mI_wA, mR_wA, mB_wA, mL_wA, mZ_wA, mK_wB, mN_wB, mI_wB, mR_wB, mA_wB, mL_wB, mZ_wB, mK_wR, mN_wR, mI_wR, mA_wR, mB_wR, mL_wR, mZ_wR, mK_wL, mN_wL, mI_wL, mR_wL, mA_wL, mB_wL, mZ_wL, wB_wA]
      rfl
  have hd : mcn (dropG g i) = mcn g - 1 := by unfold mcn dropG; rw [dropL_lo _ _ _ _ (by omega), u1_self]; exact nI_cl (by unfold mcn at hm ⊢; omega)
  refine ⟨fin, fun j => if j < i then p j else if j < 5 then p (j + 1) else p i, ?_, ?_, ?_, ⟨?_, ?_, ?_, ?_⟩, ?_, ?_⟩
  · have q1 : mB M (w + 2) i = some (w + 12 + 2 * p i) := (d i i6).1
    simp (disch := omega) only [f_X3_removeMessage, k1, k3, b3, b4, q1, lp, gI, gR, gRn, sI_w, sR_w, gA, sA_w, gB, gBn, sBn_w, sB0_w, gL, sL_w, cK, bn, Option.bind_some, Option.map_some, nar9, inT, wA_self, wA_again, wB_self, wB_again, wL_self, wL_again, u1_self, nI_add, nI_mul, nI_sub, nI_div, nI_leT, nI_leF, nI_ltT, nI_ltF, nI_eqT, nI_eqF, nI_neg, nI_cl, lit_nI, nI_nlt0, if_true, if_false, if_pos, if_neg, true_and, and_true, not_false_eq_true, or_self, or_false, false_or, reduceIte, and_self, not_true_eq_false, ne_eq]
  · exact (((Fr.refl M).tr (Fr.wB (by unfold inW; omega))).tr (Fr.wA (by unfold inW; omega))).tr (Fr.wI (by unfold inW; omega))
  · refine ⟨⟨k1, k2, k3, k4⟩, ⟨b1, b2, b3, b4, b5, b6⟩, fun j hj => ?_, fun j hj => ?_, fun j hj => e j hj, fun j l hj hl ej => ?_⟩
    · show mB (wB M (w + 2) _) (w + 1) j = _
      rw [mB_wB, if_neg (by omega)]; exact c j hj
    · show mB (wB M (w + 2) (u1 (shf (mB M (w + 2)) i (5 - i)) 5 (some (w + 12 + 2 * p i)))) (w + 2) j = _ ∧ _
      rw [wB_self]
      dsimp only
      by_cases q : j < i
      · rw [if_pos q, u1_ne _ _ (by omega)]; unfold shf; rw [if_neg (by omega)]; exact d j hj
      · rw [if_neg q]
        by_cases q2 : j < 5
        · rw [if_pos q2, u1_ne _ _ (by omega)]; unfold shf; rw [if_pos (by omega)]; exact d (j + 1) (by omega)
        · rw [if_neg q2, show j = 5 by omega, u1_self]; exact ⟨rfl, (d i i6).2⟩
    · dsimp only at ej
      by_cases q : j < i <;> by_cases q' : l < i
      · rw [if_pos q, if_pos q'] at ej; exact f j l hj hl ej
      · rw [if_pos q, if_neg q'] at ej
        by_cases q2 : l < 5
        · rw [if_pos q2] at ej; have := f j (l + 1) hj (by omega) ej; omega
        · rw [if_neg q2] at ej; have := f j i hj i6 ej; omega
      · rw [if_neg q, if_pos q'] at ej
        by_cases q2 : j < 5
        · rw [if_pos q2] at ej; have := f (j + 1) l (by omega) hl ej; omega
        · rw [if_neg q2] at ej; have := f i l i6 hl ej; omega
      · rw [if_neg q, if_neg q'] at ej
        by_cases q2 : j < 5 <;> by_cases q3 : l < 5
        · rw [if_pos q2, if_pos q3] at ej; have := f (j + 1) (l + 1) (by omega) (by omega) ej; omega
        · rw [if_pos q2, if_neg q3] at ej; have := f (j + 1) i (by omega) i6 ej; omega
        · rw [if_neg q2, if_pos q3] at ej; have := f i (l + 1) i6 (by omega) ej; omega
        · omega
  · show mI (wI M 99 w (nI (mcn g - 1))) 96 w = dropL (u1 g 3 (nI (mcn g - 1))) i (mcn g - 1 - i) 0
    rw [dropL_lo _ _ _ _ (by omega), u1_ne _ _ (by omega), mI_wI, if_neg (by omega)]; exact a1
  · show mI (wI M 99 w (nI (mcn g - 1))) 97 w = dropL (u1 g 3 (nI (mcn g - 1))) i (mcn g - 1 - i) 1
    rw [dropL_lo _ _ _ _ (by omega), u1_ne _ _ (by omega), mI_wI, if_neg (by omega)]; exact a2
  · show mI (wI M 99 w (nI (mcn g - 1))) 98 w = dropL (u1 g 3 (nI (mcn g - 1))) i (mcn g - 1 - i) 2
    rw [dropL_lo _ _ _ _ (by omega), u1_ne _ _ (by omega), mI_wI, if_neg (by omega)]; exact a3
  · show mI (wI M 99 w (nI (mcn g - 1))) 99 w = dropL (u1 g 3 (nI (mcn g - 1))) i (mcn g - 1 - i) 3
    rw [dropL_lo _ _ _ _ (by omega), u1_self, mI_wI, if_pos ⟨rfl, rfl⟩]
  · intro t ht hv q hq
    rw [hd] at hv
    unfold dropG
    rw [dropL_r _ _ _ _ _ (by omega) hq, row_u1 (by omega), row_u1 (by omega)]
    have key : ∀ u, u < 10 → u < 4 + mcn g → mA fin (clo w p u) q = row g u q := fun u hu hv => by
      have lu := sto_lt hw hu
      show mA (wA M (w + 3) _) (clo w p u) q = _
      rw [mA_wA, if_neg (by unfold clo; omega)]; exact h3 u hu hv q hq
    by_cases q1 : 4 + i ≤ t ∧ t < 4 + i + (mcn g - 1 - i)
    · rw [if_pos q1, ← key (t + 1) (by omega) (by omega)]
      congr 1
      unfold clo sto
      rw [if_neg (by omega), if_neg (by omega)]; dsimp only
      rw [if_neg (by omega), if_pos (by omega), show t + 1 - 4 = t - 4 + 1 by omega]
    · rw [if_neg q1, ← key t ht (by omega)]
      congr 1
      unfold clo sto
      by_cases q2 : t < 4
      · rw [if_pos q2, if_pos q2]
      · rw [if_neg q2, if_neg q2]; dsimp only; rw [if_pos (by omega)]
  · intro j hj hv
    rw [hd] at hv
    unfold dropG
    rw [dropL_s _ _ _ _ (by omega) hj, u1_ne _ _ (by omega), u1_ne _ _ (by omega)]
    show mA (wA M (w + 3) (shf (mA M (w + 3)) i (5 - i))) (w + 3) j = _
    rw [wA_self]; unfold shf
    by_cases q1 : i ≤ j ∧ j < i + (mcn g - 1 - i)
    · rw [if_pos q1, if_pos (by omega)]; exact h4 (j + 1) (by omega) (by omega)
    · rw [if_neg q1, if_neg (by omega)]; exact h4 j hj (by omega)
end WO
