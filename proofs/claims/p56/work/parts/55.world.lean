/-! THE CLASS'S WORLDS -/
theorem loopM_inv {S X : Type} {body : S → Option (S ⊕ X)} (P : Nat → S → Prop) {N fuel : Nat} {s0 : S} {Q : X → Prop} (h0 : P 0 s0) (hs : ∀ i s, i < N → P i s → ∃ s', body s = some (.inl s') ∧ P (i + 1) s') (he : ∀ s, P N s → ∃ y, body s = some (.inr y) ∧ Q y) (hf : N < fuel) : ∃ y, loopM body fuel s0 = some y ∧ Q y := by
  have key : ∀ (n i fuel : Nat) (s : S), i + n = N → n < fuel → P i s → ∃ y, loopM body fuel s = some y ∧ Q y := by
    intro n
    induction n with
    | zero =>
      intro i fuel s e hf hp
      obtain ⟨f, rfl⟩ : ∃ f, fuel = f + 1 := ⟨fuel - 1, by omega⟩
      unfold loopM
      obtain ⟨y, e1, e2⟩ := he s (by rw [show N = i by omega]; exact hp)
      exact ⟨y, by rw [e1], e2⟩
    | succ n ih =>
      intro i fuel s e hf hp
      obtain ⟨f, rfl⟩ : ∃ f, fuel = f + 1 := ⟨fuel - 1, by omega⟩
      unfold loopM
      obtain ⟨s', e1, e2⟩ := hs i s (by omega) hp
      rw [e1]
      exact ih (i + 1) f s' (by omega) (by omega) e2
  exact key N 0 fuel s0 (by omega) hf h0
/-- data may change at P alone, below the old next address -/
def Fr (P : Nat → Prop) (M M' : Mem) : Prop := mZ M ≤ mZ M' ∧ ∀ a, a < mZ M → (mK M' a = mK M a ∧ mN M' a = mN M a ∧ ∀ f, mR M' f a = mR M f a) ∧ (¬ P a → (∀ f, mI M' f a = mI M f a) ∧ mA M' a = mA M a ∧ mB M' a = mB M a ∧ mL M' a = mL M a)
theorem Fr.refl (M : Mem) {P : Nat → Prop} : Fr P M M := ⟨Nat.le_refl _, fun a _ => ⟨⟨rfl, rfl, fun _ => rfl⟩, fun _ => ⟨fun _ => rfl, rfl, rfl, rfl⟩⟩⟩
theorem Fr.mono {P Q : Nat → Prop} {M M' : Mem} (h : Fr P M M') (hq : ∀ a, P a → Q a) : Fr Q M M' := ⟨h.1, fun a ha => ⟨(h.2 a ha).1, fun hn => (h.2 a ha).2 (fun hp => hn (hq a hp))⟩⟩
theorem Fr.trans {P Q : Nat → Prop} {M M' M2 : Mem} (h : Fr P M M') (k : Fr Q M' M2) : Fr (fun a => P a ∨ Q a) M M2 := by
  refine ⟨Nat.le_trans h.1 k.1, fun a ha => ?_⟩
  obtain ⟨⟨a1, a2, a3⟩, a4⟩ := h.2 a ha
  obtain ⟨⟨b1, b2, b3⟩, b4⟩ := k.2 a (Nat.lt_of_lt_of_le ha h.1)
  refine ⟨⟨b1.trans a1, b2.trans a2, fun f => (b3 f).trans (a3 f)⟩, fun hn => ?_⟩
  obtain ⟨c1, c2, c3, c4⟩ := a4 (fun hp => hn (Or.inl hp))
  obtain ⟨d1, d2, d3, d4⟩ := b4 (fun hp => hn (Or.inr hp))
  exact ⟨fun f => (d1 f).trans (c1 f), d2.trans c2, d3.trans c3, d4.trans c4⟩
theorem Fr.tr {P : Nat → Prop} {M M' M2 : Mem} (h : Fr P M M') (k : Fr P M' M2) : Fr P M M2 := (h.trans k).mono (fun a h => h.elim id id)
theorem Fr.wA {P : Nat → Prop} {M : Mem} {b : Nat} {g : Nat → Int32} (h : P b) : Fr P M (wA M b g) := ⟨Nat.le_refl _, fun a _ => ⟨⟨rfl, rfl, fun _ => rfl⟩, fun hn => ⟨fun _ => rfl, by rw [mA_wA, if_neg (fun e => hn (by rw [e]; exact h))], rfl, rfl⟩⟩⟩
theorem Fr.wB {P : Nat → Prop} {M : Mem} {b : Nat} {g : Nat → Option Nat} (h : P b) : Fr P M (wB M b g) := ⟨Nat.le_refl _, fun a _ => ⟨⟨rfl, rfl, fun _ => rfl⟩, fun hn => ⟨fun _ => rfl, rfl, by rw [mB_wB, if_neg (fun e => hn (by rw [e]; exact h))], rfl⟩⟩⟩
theorem Fr.wL {P : Nat → Prop} {M : Mem} {b : Nat} {g : Nat → Int64} (h : P b) : Fr P M (wL M b g) := ⟨Nat.le_refl _, fun a _ => ⟨⟨rfl, rfl, fun _ => rfl⟩, fun hn => ⟨fun _ => rfl, rfl, rfl, by rw [mL_wL, if_neg (fun e => hn (by rw [e]; exact h))]⟩⟩⟩
theorem Fr.wI {P : Nat → Prop} {M : Mem} {f b : Nat} {v : Int32} (h : P b) : Fr P M (wI M f b v) := ⟨Nat.le_refl _, fun a _ => ⟨⟨rfl, rfl, fun _ => rfl⟩, fun hn => ⟨fun f' => by rw [mI_wI, if_neg (fun e => hn (by rw [e.2]; exact h))], rfl, rfl, rfl⟩⟩⟩
/-- a world's shape: p says where its messages' states lie -/
def WS (M : Mem) (w : Nat) (p : Nat → Nat) : Prop :=
  (mK M w = 4 ∧ mR M 100 w = some (w + 1) ∧ mR M 101 w = some (w + 2) ∧ mR M 102 w = some (w + 3)) ∧ (mK M (w + 1) = 10 ∧ mN M (w + 1) = 4 ∧ mK M (w + 2) = 10 ∧ mN M (w + 2) = 6 ∧ mK M (w + 3) = 9 ∧ mN M (w + 3) = 6) ∧
  (∀ i, i < 4 → mB M (w + 1) i = some (w + 4 + 2 * i)) ∧ (∀ i, i < 6 → mB M (w + 2) i = some (w + 12 + 2 * p i) ∧ p i < 6) ∧ (∀ j, j < 10 → St M (w + 4 + 2 * j) (w + 5 + 2 * j)) ∧ (∀ i j, i < 6 → j < 6 → p i = p j → i = j)
def sto (w : Nat) (p : Nat → Nat) (t : Nat) : Nat := if t < 4 then w + 4 + 2 * t else w + 12 + 2 * p (t - 4)
def clo (w : Nat) (p : Nat → Nat) (t : Nat) : Nat := sto w p t + 1
theorem WS.lt {M : Mem} {w : Nat} {p : Nat → Nat} (h : WS M w p) (hz : wfz M) : w + 24 ≤ mZ M := by
  have := hz _ (show mK M (w + 5 + 2 * 9) ≠ 0 by rw [(h.2.2.2.2.1 9 (by omega)).2.2.1]; decide)
  omega
theorem sto_lt {M : Mem} {w : Nat} {p : Nat → Nat} (h : WS M w p) {t : Nat} (ht : t < 10) : w + 4 ≤ sto w p t ∧ sto w p t + 1 < w + 24 := by
  unfold sto
  by_cases q : t < 4
  · rw [if_pos q]; omega
  · rw [if_neg q]; have := (h.2.2.2.1 (t - 4) (by omega)).2; omega
theorem sto_inj {M : Mem} {w : Nat} {p : Nat → Nat} (h : WS M w p) {t u : Nat} (ht : t < 10) (hu : u < 10) (e : sto w p t = sto w p u) : t = u := by
  unfold sto at e
  by_cases q : t < 4
  · by_cases q2 : u < 4
    · rw [if_pos q, if_pos q2] at e; omega
    · rw [if_pos q, if_neg q2] at e; omega
  · by_cases q2 : u < 4
    · rw [if_neg q, if_pos q2] at e; omega
    · rw [if_neg q, if_neg q2] at e
      have := h.2.2.2.2.2 (t - 4) (u - 4) (by omega) (by omega) (by omega)
      omega
theorem WS.row {M : Mem} {w : Nat} {p : Nat → Nat} (h : WS M w p) {t : Nat} (ht : t < 10) : St M (sto w p t) (clo w p t) := by
  unfold clo sto
  by_cases q : t < 4
  · rw [if_pos q]; have := h.2.2.2.2.1 t ht; rwa [show w + 5 + 2 * t = w + 4 + 2 * t + 1 by omega] at this
  · rw [if_neg q]
    have hp := (h.2.2.2.1 (t - 4) (by omega)).2
    have := h.2.2.2.2.1 (4 + p (t - 4)) (by omega)
    rwa [show w + 5 + 2 * (4 + p (t - 4)) = w + 12 + 2 * p (t - 4) + 1 by omega, show w + 4 + 2 * (4 + p (t - 4)) = w + 12 + 2 * p (t - 4) by omega] at this
theorem St.fr {P : Nat → Prop} {M M' : Mem} {s c : Nat} (h : St M s c) (hf : Fr P M M') (hs : s < mZ M) (hc : c < mZ M) : St M' s c := by
  obtain ⟨h1, h2, h3, h4⟩ := h
  obtain ⟨⟨a1, a2, a3⟩, _⟩ := hf.2 s hs
  obtain ⟨⟨b1, b2, b3⟩, _⟩ := hf.2 c hc
  exact ⟨a1.trans h1, (a3 64).trans h2, b1.trans h3, b2.trans h4⟩
/-- the shape stays where the arrays of states stay -/
theorem WS.fr {P : Nat → Prop} {M M' : Mem} {w : Nat} {p : Nat → Nat} (h : WS M w p) (hz : w + 24 ≤ mZ M) (hf : Fr P M M') (hB : mB M' (w + 1) = mB M (w + 1) ∧ mB M' (w + 2) = mB M (w + 2)) : WS M' w p := by
  obtain ⟨⟨a1, a2, a3, a4⟩, ⟨b1, b2, b3, b4, b5, b6⟩, c, d, e, f⟩ := h
  have g := fun i (hi : i < 24) => (hf.2 (w + i) (by omega)).1
  refine ⟨⟨(g 0 (by omega)).1.trans a1, ((g 0 (by omega)).2.2 _).trans a2, ((g 0 (by omega)).2.2 _).trans a3, ((g 0 (by omega)).2.2 _).trans a4⟩, ⟨(g 1 (by omega)).1.trans b1, (g 1 (by omega)).2.1.trans b2, (g 2 (by omega)).1.trans b3, (g 2 (by omega)).2.1.trans b4, (g 3 (by omega)).1.trans b5, (g 3 (by omega)).2.1.trans b6⟩, fun i hi => by rw [hB.1]; exact c i hi, fun i hi => by rw [hB.2]; exact d i hi, fun j hj => (e j hj).fr hf (by omega) (by omega), f⟩
/-- the number of messages -/
def mcn (g : Nat → Int32) : Nat := (g 3).toNatClampNeg
/-- a world holds what g says: counts, rows, senders -/
def RelP (M : Mem) (w : Nat) (p : Nat → Nat) (g : Nat → Int32) : Prop :=
  WS M w p ∧ (mI M 96 w = g 0 ∧ mI M 97 w = g 1 ∧ mI M 98 w = g 2 ∧ mI M 99 w = g 3) ∧ (∀ t, t < 10 → t < 4 + mcn g → ∀ i, i < 132 → mA M (clo w p t) i = row g t i) ∧ (∀ j, j < 6 → j < mcn g → mA M (w + 3) j = g (4 + j))
theorem RelP.fr {P : Nat → Prop} {M M' : Mem} {w : Nat} {p : Nat → Nat} {g : Nat → Int32} (h : RelP M w p g) (hz : w + 24 ≤ mZ M) (hf : Fr P M M') (hP : ∀ i, i < 24 → ¬ P (w + i)) : RelP M' w p g := by
  obtain ⟨h1, ⟨a1, a2, a3, a4⟩, h3, h4⟩ := h
  have g := fun i (hi : i < 24) => (hf.2 (w + i) (by omega)).2 (hP i hi)
  refine ⟨h1.fr hz hf ⟨(g 1 (by omega)).2.2.1, (g 2 (by omega)).2.2.1⟩, ⟨((g 0 (by omega)).1 _).trans a1, ((g 0 (by omega)).1 _).trans a2, ((g 0 (by omega)).1 _).trans a3, ((g 0 (by omega)).1 _).trans a4⟩, fun t ht hv i hi => ?_, fun j hj hv => ?_⟩
  · have hs := sto_lt h1 ht
    have e : clo w p t = w + (clo w p t - w) := by unfold clo; omega
    have := (g (clo w p t - w) (by unfold clo; omega)).2.1
    rw [← e] at this
    rw [this]; exact h3 t ht hv i hi
  · rw [(g 3 (by omega)).2.1]; exact h4 j hj hv
theorem RelP.congr {M : Mem} {w : Nat} {p : Nat → Nat} {g g' : Nat → Int32} (h : RelP M w p g) (e : ∀ q, q < 1330 → g' q = g q) : RelP M w p g' := by
  obtain ⟨h1, ⟨a1, a2, a3, a4⟩, h3, h4⟩ := h
  have em : mcn g' = mcn g := by unfold mcn; rw [e 3 (by omega)]
  refine ⟨h1, ⟨by rw [e 0 (by omega)]; exact a1, by rw [e 1 (by omega)]; exact a2, by rw [e 2 (by omega)]; exact a3, by rw [e 3 (by omega)]; exact a4⟩, fun t ht hv i hi => ?_, fun j hj hv => ?_⟩
  · rw [em] at hv; rw [h3 t ht hv i hi]; unfold row; rw [e _ (by rw [bs_eq]; omega)]
  · rw [em] at hv; rw [h4 j hj hv, e _ (by omega)]
/-- writing a row -/
theorem RelP.put {M : Mem} {w : Nat} {p : Nat → Nat} {g : Nat → Int32} (h : RelP M w p g) {t : Nat} (ht : t < 10) {a b : Nat → Int32} (e : ∀ i, i < 132 → a i = b i) : RelP (Jvm.Pilot.COfflineNotesLaw_law_r8929_57547b.wA M (clo w p t) a) w p (put g t b) := by
  obtain ⟨h1, h2, h3, h4⟩ := h
  have em : mcn (Jvm.Pilot.COfflineNotesLaw_law_r8929_57547b.put g t b) = mcn g := by unfold mcn; rw [put_lo (by omega)]
  have hs := sto_lt h1 ht
  refine ⟨h1, ?_, fun u hu hv i hi => ?_, fun j hj hv => ?_⟩
  · rw [put_lo (by omega), put_lo (by omega), put_lo (by omega), put_lo (by omega)]; exact h2
  · rw [em] at hv
    by_cases q : u = t
    · subst q; rw [wA_self, row_put hi, e i hi]
    · rw [mA_wA, if_neg (fun e => q (sto_inj h1 hu ht (by unfold clo at e; omega))), row_put_ne hi q]
      exact h3 u hu hv i hi
  · rw [em] at hv
    rw [mA_wA, if_neg (by unfold clo; omega), put_lo (by omega)]
    exact h4 j hj hv
