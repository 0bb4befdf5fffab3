/-! PURE: rows that keep their bounds; the class's merge is the reference's -/
def WFr (k : Nat) (a : Nat → Int32) : Prop :=
  (∀ i, i < 4 → 0 ≤ (a i).toInt ∧ (a i).toInt ≤ k) ∧ (∀ i, 4 ≤ i → i < 36 → 0 ≤ (a i).toInt ∧ (a i).toInt ≤ 99 * k) ∧
  (∀ i, 36 ≤ i → i < 116 → 0 ≤ (a i).toInt ∧ (a i).toInt ≤ (a (i % 4)).toInt) ∧ (∀ i, 100 ≤ i → i < 116 → a i = 0 → a (i + 16) = 0) ∧ (∀ i, 116 ≤ i → i < 132 → 0 ≤ (a i).toInt ∧ (a i).toInt ≤ 99)
theorem i32_le {x y : Int32} : x ≤ y ↔ x.toInt ≤ y.toInt := Int32.le_iff_toInt_le
theorem i32_lt {x y : Int32} : x < y ↔ x.toInt < y.toInt := Int32.lt_iff_toInt_lt
theorem i32_eq {x y : Int32} : x = y ↔ x.toInt = y.toInt := Int32.toInt_inj.symm
theorem i32_0 : (0 : Int32).toInt = 0 := rfl
theorem i32_add {x y : Int32} (h : -2147483648 ≤ x.toInt + y.toInt ∧ x.toInt + y.toInt < 2147483648) : (x + y).toInt = x.toInt + y.toInt := by
  rw [Int32.toInt_add]; exact Int.bmod_eq_of_le (by omega) (by omega)
theorem WFr.mono {k l : Nat} {a : Nat → Int32} (h : WFr k a) (hl : k ≤ l) : WFr l a := by
  obtain ⟨h1, h2, h3, h4, h5⟩ := h
  exact ⟨fun i hi => by have := h1 i hi; omega, fun i hi hj => by have := h2 i hi hj; omega, h3, h4, h5⟩
theorem WFr.congr {k : Nat} {a b : Nat → Int32} (h : WFr k a) (e : ∀ i, i < 132 → b i = a i) : WFr k b := by
  obtain ⟨h1, h2, h3, h4, h5⟩ := h
  refine ⟨fun i hi => by rw [e i (by omega)]; exact h1 i hi, fun i hi hj => by rw [e i (by omega)]; exact h2 i hi hj, fun i hi hj => by rw [e i (by omega), e (i % 4) (by omega)]; exact h3 i hi hj, fun i hi hj hz => ?_, fun i hi hj => by rw [e i (by omega)]; exact h5 i hi hj⟩
  rw [e i (by omega)] at hz; rw [e (i + 16) (by omega)]; exact h4 i hi hj hz
theorem WFr.zero : WFr 0 (fun _ => 0) := ⟨fun _ _ => by rw [i32_0]; omega, fun _ _ _ => by rw [i32_0]; omega, fun _ _ _ => by rw [i32_0]; omega, fun _ _ _ _ => rfl, fun _ _ _ => by rw [i32_0]; omega⟩
theorem absF_dot {a b : Nat → Int32} {i : Nat} (h : 36 ≤ i) (h2 : i < 116) : absF a b i = absD a b i (a i) (b i) := by
  unfold absF; rw [if_neg (by omega)]
  by_cases c3 : i < 100
  · rw [if_pos c3]
  · rw [if_neg c3, if_pos h2]
theorem absF_val {a b : Nat → Int32} {i : Nat} (h : 100 ≤ i) (h2 : i < 116) : absF a b (i + 16) = absD a b i (a (i + 16)) (b (i + 16)) := by
  unfold absF; rw [if_neg (by omega), if_neg (by omega), if_neg (by omega), if_pos (by omega), show i + 16 - 16 = i by omega]
theorem absR_absF {k l : Nat} {a b : Nat → Int32} (ha : WFr k a) (hb : WFr l b) {i : Nat} (hi : i < 132) : absR a b i = absF a b i := by
  obtain ⟨h1, h2, h3, h4, h5⟩ := ha
  obtain ⟨k1, k2, k3, k4, k5⟩ := hb
  by_cases c1 : i < 36
  · unfold absR absF; rw [if_pos c1, if_pos c1]
    by_cases q : b i ≤ a i
    · rw [if_pos q, if_neg (Int32.not_lt.mpr q)]
    · rw [if_neg q, if_pos (Int32.not_le.mp q)]
  · have dot : ∀ j, surv a b j = absD a b j (a j) (b j) := by
      intro j
      unfold surv absD
      by_cases q : b j ≤ a (j % 4)
      · rw [if_neg (Int32.not_lt.mpr q), if_pos q]
        by_cases q2 : a j = b j
        · rw [if_pos (Or.inl q2), if_pos q2]
        · rw [if_neg q2]
          by_cases q3 : b (j % 4) < a j
          · rw [if_pos (Or.inr q3), if_pos q3]
          · rw [if_neg (fun e => e.elim q2 q3), if_neg q3]
      · rw [if_pos (Int32.not_le.mp q), if_neg q]
    by_cases c2 : i < 116
    · rw [absF_dot (by omega) c2]; unfold absR; rw [if_neg c1, if_pos c2, dot]
    · obtain ⟨j, rfl⟩ : ∃ j, i = j + 16 := ⟨i - 16, by omega⟩
      rw [absF_val (by omega) (by omega)]
      unfold absR
      rw [if_neg c1, if_neg c2, show j + 16 - 16 = j by omega, dot j]
      have g3 := h3 j (by omega) (by omega)
      have g4 := h4 j (by omega) (by omega)
      unfold absD
      by_cases q : b j ≤ a (j % 4)
      · rw [if_pos q, if_pos q]
        by_cases q2 : a j = b j
        · rw [if_pos q2, if_pos q2]
          by_cases q4 : a j = 0
          · rw [if_pos q4, g4 q4]
          · rw [if_neg q4, if_pos rfl]
        · rw [if_neg q2, if_neg q2]
          by_cases q3 : b (j % 4) < a j
          · rw [if_pos q3, if_pos q3]
            by_cases q4 : a j = 0
            · rw [if_pos q4, g4 q4]
            · rw [if_neg q4, if_pos rfl]
          · rw [if_neg q3, if_neg q3, if_pos rfl]
      · rw [if_neg q, if_neg q]
        rw [i32_le] at q
        rw [if_neg (show ¬ b j = 0 by rw [i32_eq, i32_0]; omega), if_neg (show ¬ b j = a j by rw [i32_eq]; omega)]
theorem absF_lo {a b : Nat → Int32} {i : Nat} (h : i < 36) : (absF a b i).toInt = max (a i).toInt (b i).toInt := by
  unfold absF; rw [if_pos h]
  by_cases q : a i < b i
  · rw [if_pos q]; rw [i32_lt] at q; omega
  · rw [if_neg q]; rw [i32_lt] at q; omega
theorem absD_or (a b : Nat → Int32) (j : Nat) (x y : Int32) : absD a b j x y = x ∨ absD a b j x y = y ∨ absD a b j x y = 0 := by
  unfold absD
  by_cases q : b j ≤ a (j % 4)
  · rw [if_pos q]
    by_cases q2 : a j = b j
    · rw [if_pos q2]; exact Or.inl rfl
    · rw [if_neg q2]; by_cases q3 : b (j % 4) < a j
      · rw [if_pos q3]; exact Or.inl rfl
      · rw [if_neg q3]; exact Or.inr (Or.inr rfl)
  · rw [if_neg q]; exact Or.inr (Or.inl rfl)
theorem WFr.absF {k : Nat} {a b : Nat → Int32} (ha : WFr k a) (hb : WFr k b) : WFr k (absF a b) := by
  obtain ⟨h1, h2, h3, h4, h5⟩ := ha
  obtain ⟨k1, k2, k3, k4, k5⟩ := hb
  refine ⟨fun i hi => ?_, fun i hi hj => ?_, fun i hi hj => ?_, fun i hi hj hz => ?_, fun i hi hj => ?_⟩
  · rw [absF_lo (by omega)]; have := h1 i hi; have := k1 i hi; omega
  · rw [absF_lo (by omega)]; have := h2 i hi hj; have := k2 i hi hj; omega
  · rw [absF_dot hi hj, absF_lo (by omega)]
    have g1 := h3 i hi hj; have g2 := k3 i hi hj
    rcases absD_or a b i (a i) (b i) with e | e | e <;> rw [e]
    · omega
    · omega
    · rw [i32_0]; omega
  · rw [absF_dot (by omega) hj] at hz
    rw [absF_val hi hj]
    have g1 := h3 i (by omega) hj
    have g4 := h4 i hi hj
    unfold absD at hz ⊢
    by_cases q : b i ≤ a (i % 4)
    · rw [if_pos q] at hz ⊢
      by_cases q2 : a i = b i
      · rw [if_pos q2] at hz ⊢; exact g4 hz
      · rw [if_neg q2] at hz ⊢
        by_cases q3 : b (i % 4) < a i
        · rw [if_pos q3] at hz ⊢; exact g4 hz
        · rw [if_neg q3]
    · rw [if_neg q] at hz ⊢
      exact k4 i hi hj hz
  · obtain ⟨j, rfl⟩ : ∃ j, i = j + 16 := ⟨i - 16, by omega⟩
    rw [absF_val (by omega) (by omega)]
    have g1 := h5 _ hi hj; have g2 := k5 _ hi hj
    rcases absD_or a b j (a (j + 16)) (b (j + 16)) with e | e | e <;> rw [e]
    · omega
    · omega
    · rw [i32_0]; omega
theorem absF_congr {a b a' b' : Nat → Int32} (h : ∀ i, i < 132 → a i = a' i) (k : ∀ i, i < 132 → b i = b' i) {i : Nat} (hi : i < 132) : absF a b i = absF a' b' i := by
  have dc : ∀ j x y, j < 132 → absD a b j x y = absD a' b' j x y := fun j x y hj => absD_congr (k j hj) (h _ (by omega)) (h j hj) (k _ (by omega))
  unfold absF
  rw [h i hi, k i hi, dc i _ _ hi, dc (i - 16) _ _ (by omega)]
theorem absR_congr {a b a' b' : Nat → Int32} (h : ∀ i, i < 132 → a i = a' i) (k : ∀ i, i < 132 → b i = b' i) {i : Nat} (hi : i < 132) : absR a b i = absR a' b' i := by
  have dc : ∀ j, j < 132 → surv a b j = surv a' b' j := fun j hj => by unfold surv; rw [h j hj, k j hj, h (j % 4) (by omega), k (j % 4) (by omega)]
  unfold absR
  rw [h i hi, k i hi, dc i hi, dc (i - 16) (by omega), h (i - 16) (by omega)]
/-- nothing but zeros takes in a row: the row -/
theorem absF_zero {k : Nat} {b : Nat → Int32} (hb : WFr k b) {i : Nat} (hi : i < 132) : absF (fun _ => 0) b i = b i := by
  obtain ⟨k1, k2, k3, k4, k5⟩ := hb
  have hD : ∀ j y, 36 ≤ j → j < 116 → (b j = 0 → y = 0) → absD (fun _ => 0) b j 0 y = y := by
    intro j y hj hj2 hy
    have g := k3 j hj hj2
    unfold absD
    by_cases q : b j ≤ 0
    · have e : b j = 0 := by rw [i32_eq, i32_0]; rw [i32_le, i32_0] at q; omega
      rw [if_pos q, if_pos e.symm, hy e]
    · rw [if_neg q]
  by_cases c1 : i < 36
  · have g : 0 ≤ (b i).toInt := by
      by_cases c : i < 4
      · exact (k1 i c).1
      · exact (k2 i (by omega) c1).1
    rw [i32_eq, absF_lo c1, i32_0]; omega
  · by_cases c2 : i < 116
    · rw [absF_dot (by omega) c2, hD i (b i) (by omega) c2 (fun h => h)]
    · obtain ⟨j, rfl⟩ : ∃ j, i = j + 16 := ⟨i - 16, by omega⟩
      rw [absF_val (by omega) (by omega), hD j _ (by omega) (by omega) (k4 j (by omega) (by omega))]
theorem WFr.newN {k f r : Nat} {x : Nat → Int32} {v : Int32} (h : WFr k x) (hk : k < 100000) (hf : 36 ≤ f ∧ f + 4 ≤ 116 ∧ (f + 4 ≤ 100 ∨ 100 ≤ f)) (h4 : f % 4 = 0) (hr : r < 4) (hv : 0 ≤ v.toInt ∧ v.toInt ≤ 99) : WFr (k + 1) (newN x f r v 4) := by
  obtain ⟨h1, h2, h3, h4', h5⟩ := h
  have hr1 := h1 r hr
  have e1 : (x r + 1).toInt = (x r).toInt + 1 := i32_add (y := 1) (by rw [show (1 : Int32).toInt = 1 from rfl]; omega)
  have lo : ∀ i, i < 4 → (Jvm.Pilot.COfflineNotesLaw_law_r8929_57547b.newN x f r v 4 i).toInt = if i = r then (x r).toInt + 1 else (x i).toInt := by
    intro i hi
    unfold Jvm.Pilot.COfflineNotesLaw_law_r8929_57547b.newN
    by_cases q : i = r
    · rw [if_pos q, if_pos q, e1]
    · rw [if_neg q, if_neg q, if_neg (by omega), if_neg (by omega)]
  refine ⟨fun i hi => ?_, fun i hi hj => ?_, fun i hi hj => ?_, fun i hi hj hz => ?_, fun i hi hj => ?_⟩
  · rw [lo i hi]; have := h1 i hi
    by_cases q : i = r
    · rw [if_pos q]; omega
    · rw [if_neg q]; omega
  · unfold Jvm.Pilot.COfflineNotesLaw_law_r8929_57547b.newN; rw [if_neg (by omega), if_neg (by omega), if_neg (by omega)]; have := h2 i hi hj; omega
  · rw [lo (i % 4) (by omega)]
    have g3 := h3 i hi hj
    unfold Jvm.Pilot.COfflineNotesLaw_law_r8929_57547b.newN
    rw [if_neg (by omega)]
    by_cases q : f ≤ i ∧ i < f + 4
    · rw [if_pos q]
      by_cases q2 : i = f + r
      · rw [if_pos q2, if_pos (by omega), e1]; omega
      · rw [if_neg q2, i32_0]
        have := h1 (i % 4) (by omega)
        by_cases q3 : i % 4 = r
        · rw [if_pos q3]; omega
        · rw [if_neg q3]; omega
    · rw [if_neg q, if_neg (by omega)]
      by_cases q3 : i % 4 = r
      · rw [if_pos q3]; rw [q3] at g3; omega
      · rw [if_neg q3]; omega
  · unfold Jvm.Pilot.COfflineNotesLaw_law_r8929_57547b.newN at hz ⊢
    rw [if_neg (by omega)] at hz ⊢
    rw [if_neg (show ¬ (f ≤ i + 16 ∧ i + 16 < f + 4) by omega)]
    by_cases q : f ≤ i ∧ i < f + 4
    · rw [if_pos q] at hz
      rw [if_pos (show 100 ≤ f ∧ f + 16 ≤ i + 16 ∧ i + 16 < f + 16 + 4 by omega)]
      by_cases q2 : i = f + r
      · rw [if_pos q2, i32_eq, e1, i32_0] at hz; omega
      · rw [if_neg (by omega)]
    · rw [if_neg q, if_neg (by omega)] at hz
      rw [if_neg (by omega)]
      exact h4' i hi hj hz
  · unfold Jvm.Pilot.COfflineNotesLaw_law_r8929_57547b.newN
    rw [if_neg (by omega), if_neg (by omega)]
    have := h5 i hi hj
    by_cases q : 100 ≤ f ∧ f + 16 ≤ i ∧ i < f + 16 + 4
    · rw [if_pos q]
      by_cases q2 : i = f + 16 + r
      · rw [if_pos q2]; exact hv
      · rw [if_neg q2, i32_0]; omega
    · rw [if_neg q]; exact this
theorem WFr.zap {k f : Nat} {x : Nat → Int32} (h : WFr k x) (hf : 36 ≤ f ∧ f + 4 ≤ 100) : WFr k (zap x f 4) := by
  obtain ⟨h1, h2, h3, h4, h5⟩ := h
  have hn : ∀ i, ¬ (f ≤ i ∧ i < f + 4) → Jvm.Pilot.COfflineNotesLaw_law_r8929_57547b.zap x f 4 i = x i := fun i hi => if_neg hi
  refine ⟨fun i hi => by rw [hn i (by omega)]; exact h1 i hi, fun i hi hj => by rw [hn i (by omega)]; exact h2 i hi hj, fun i hi hj => ?_, fun i hi hj hz => ?_, fun i hi hj => by rw [hn i (by omega)]; exact h5 i hi hj⟩
  · rw [hn (i % 4) (by omega)]
    by_cases q : f ≤ i ∧ i < f + 4
    · rw [show Jvm.Pilot.COfflineNotesLaw_law_r8929_57547b.zap x f 4 i = 0 from if_pos q, i32_0]; have := h1 (i % 4) (by omega); omega
    · rw [hn i q]; exact h3 i hi hj
  · rw [hn i (by omega)] at hz; rw [hn (i + 16) (by omega)]; exact h4 i hi hj hz
theorem WFr.sum {k p : Nat} {x : Nat → Int32} {v : Int32} (h : WFr k x) (hk : k < 100000) (hp : 4 ≤ p ∧ p < 36) (hv : 1 ≤ v.toInt ∧ v.toInt ≤ 99) : WFr (k + 1) (u1 x p (x p + v)) := by
  obtain ⟨h1, h2, h3, h4, h5⟩ := h
  have hn : ∀ i, i ≠ p → u1 x p (x p + v) i = x i := fun i hi => u1_ne x _ hi
  have g := h2 p hp.1 hp.2
  refine ⟨fun i hi => by rw [hn i (by omega)]; have := h1 i hi; omega, fun i hi hj => ?_, fun i hi hj => by rw [hn i (by omega), hn (i % 4) (by omega)]; exact h3 i hi hj, fun i hi hj hz => ?_, fun i hi hj => by rw [hn i (by omega)]; exact h5 i hi hj⟩
  · by_cases q : i = p
    · subst q; rw [u1_self, i32_add (by omega)]; omega
    · rw [hn i q]; have := h2 i hi hj; omega
  · rw [hn i (by omega)] at hz; rw [hn (i + 16) (by omega)]; exact h4 i hi hj hz
/-- dots are not negative: both counts are one -/
theorem dts_lve {k f f' : Nat} {a : Nat → Int32} (h : WFr k a) (hf : 36 ≤ f ∧ f + 4 ≤ 116) (e : f' = f) : dts a f = lve a f' := by
  subst e
  refine cnt_congr (fun j hj => ?_)
  have := (h.2.2.1 (f' + j) (by omega) (by omega)).1
  rw [ne_eq, i32_lt, i32_eq, i32_0]; omega
