/-! WHAT HOLDS BETWEEN THE CALLS: x is the class's object, its parts lie behind it, then the reference and its arrays -/
/-! WHAT HOLDS BETWEEN THE CALLS: x is the class's object, its parts lie behind it, then the law's one number -/
def Fix (x : Nat) (M : Mem) : Prop :=
  (mK M x = 5 ∧ mR M 128 x = some (x + 1) ∧ mR M 132 x = some (x + 2) ∧ mR M 136 x = some (x + 27) ∧ mR M 137 x = some (x + 29) ∧ mR M 138 x = some (x + 30) ∧ mR M 139 x = some (x + 32)) ∧
  (mK M (x + 1) = 8 ∧ mN M (x + 1) = 600 ∧ mK M (x + 2) = 8 ∧ mN M (x + 2) = 32) ∧ Hs M (x + 27) (x + 28) ∧ (mK M (x + 29) = 11 ∧ mN M (x + 29) = 2) ∧ St M (x + 30) (x + 31) ∧ St M (x + 32) (x + 33) ∧
  (mK M (x + 60) = 9 ∧ mN M (x + 60) = 1)
def Ptr (x : Nat) (rt : Nat → Option Nat) (M : Mem) : Prop := mR M 134 x = rt 0 ∧ mR M 135 x = rt 1 ∧ (∀ i, i < 10 → mB M (x + 28) i = rt (2 + i)) ∧ (∀ s, s < 2 → mB M (x + 29) s = rt (12 + s))
def Place (x : Nat) (w : Nat) : Prop := w = x + 3 ∨ w = x + 34 ∨ x + 61 ≤ w
def Roots (x : Nat) (rt : Nat → Option Nat) (M : Mem) : Prop := (∀ k w, rt k = some w → Place x w ∧ ∃ p, WS M w p) ∧ (∀ k k' w w', k ≠ k' → rt k = some w → rt k' = some w' → w + 24 ≤ w' ∨ w' + 24 ≤ w) ∧ (∃ sw, rt 1 = some sw)
def sl (o : Nat → Int32) (j : Nat) : Nat → Int32 := fun q => o (1330 * j + q)
def HisC (x : Nat) (rt : Nat → Option Nat) (M : Mem) (o : Nat → Int32) (h : Nat) : Prop := ∃ nx, nx < 10 ∧ h ≤ 10 ∧ mI M 1 (x + 27) = nI nx ∧ mI M 2 (x + 27) = nI h ∧ ∀ j, j < h → ∃ w p, rt (2 + (nx + 10 - h + j) % 10) = some w ∧ RelP M w p (sl o j)
def bit (b s : Nat) : Prop := b / 2 ^ s % 2 = 1
def SavC (x : Nat) (rt : Nat → Option Nat) (M : Mem) (o : Nat → Int32) (b : Nat) : Prop := b < 4 ∧ ∀ s, s < 2 → (bit b s → ∃ w p, rt (12 + s) = some w ∧ RelP M w p (sl o s)) ∧ (¬ bit b s → rt (12 + s) = none)
/-- the class's part: the current world w holds g; the history o, h; what is saved v, b -/
def CC (x w : Nat) (p : Nat → Nat) (rt : Nat → Option Nat) (M : Mem) (g o : Nat → Int32) (h : Nat) (v : Nat → Int32) (b : Nat) : Prop := Fix x M ∧ Ptr x rt M ∧ Roots x rt M ∧ (rt 0 = some w ∧ RelP M w p g) ∧ HisC x rt M o h ∧ SavC x rt M v b
def Cls (x w : Nat) (p : Nat → Nat) (M : Mem) (g o : Nat → Int32) (h : Nat) (v : Nat → Int32) (b : Nat) : Prop := ∃ rt, CC x w p rt M g o h v b
theorem St.same {M M' : Mem} {s c : Nat} (h : St M s c) (e1 : mK M' s = mK M s) (e2 : ∀ f, mR M' f s = mR M f s) (e3 : mK M' c = mK M c) (e4 : mN M' c = mN M c) : St M' s c := ⟨e1.trans h.1, (e2 _).trans h.2.1, e3.trans h.2.2.1, e4.trans h.2.2.2⟩
theorem WS.same {M M' : Mem} {w : Nat} {p : Nat → Nat} (h : WS M w p) (g : ∀ i, i < 24 → mK M' (w + i) = mK M (w + i) ∧ mN M' (w + i) = mN M (w + i) ∧ ∀ f, mR M' f (w + i) = mR M f (w + i)) (hB : mB M' (w + 1) = mB M (w + 1) ∧ mB M' (w + 2) = mB M (w + 2)) : WS M' w p := by
  obtain ⟨⟨a1, a2, a3, a4⟩, ⟨b1, b2, b3, b4, b5, b6⟩, c, d, e, f⟩ := h
  refine ⟨⟨(g 0 (by omega)).1.trans a1, ((g 0 (by omega)).2.2 _).trans a2, ((g 0 (by omega)).2.2 _).trans a3, ((g 0 (by omega)).2.2 _).trans a4⟩, ⟨(g 1 (by omega)).1.trans b1, (g 1 (by omega)).2.1.trans b2, (g 2 (by omega)).1.trans b3, (g 2 (by omega)).2.1.trans b4, (g 3 (by omega)).1.trans b5, (g 3 (by omega)).2.1.trans b6⟩, fun i hi => by rw [hB.1]; exact c i hi, fun i hi => by rw [hB.2]; exact d i hi, fun j hj => (e j hj).same ?_ ?_ ?_ ?_, f⟩
  · have := g (4 + 2 * j) (by omega); rw [show w + (4 + 2 * j) = w + 4 + 2 * j by omega] at this; exact this.1
  · have := g (4 + 2 * j) (by omega); rw [show w + (4 + 2 * j) = w + 4 + 2 * j by omega] at this; exact this.2.2
  · have := g (5 + 2 * j) (by omega); rw [show w + (5 + 2 * j) = w + 5 + 2 * j by omega] at this; exact this.1
  · have := g (5 + 2 * j) (by omega); rw [show w + (5 + 2 * j) = w + 5 + 2 * j by omega] at this; exact this.2.1
theorem RelP.same {M M' : Mem} {w : Nat} {p : Nat → Nat} {g : Nat → Int32} (h : RelP M w p g) (k : ∀ i, i < 24 → mK M' (w + i) = mK M (w + i) ∧ mN M' (w + i) = mN M (w + i) ∧ ∀ f, mR M' f (w + i) = mR M f (w + i)) (gg : ∀ i, i < 24 → (∀ f, mI M' f (w + i) = mI M f (w + i)) ∧ mA M' (w + i) = mA M (w + i) ∧ mB M' (w + i) = mB M (w + i)) : RelP M' w p g := by
  obtain ⟨h1, ⟨a1, a2, a3, a4⟩, h3, h4⟩ := h
  refine ⟨h1.same k ⟨(gg 1 (by omega)).2.2, (gg 2 (by omega)).2.2⟩, ⟨((gg 0 (by omega)).1 _).trans a1, ((gg 0 (by omega)).1 _).trans a2, ((gg 0 (by omega)).1 _).trans a3, ((gg 0 (by omega)).1 _).trans a4⟩, fun t ht hv i hi => ?_, fun j hj hv => ?_⟩
  · have hs := sto_lt h1 ht
    have e : clo w p t = w + (clo w p t - w) := by unfold clo; omega
    have := (gg (clo w p t - w) (by unfold clo; omega)).2.1
    rw [← e] at this
    rw [this]; exact h3 t ht hv i hi
  · rw [(gg 3 (by omega)).2.1]; exact h4 j hj hv
/-- what the class's part doesn't see: the trial states, the fields of x itself, the reference -/
def Keep (x : Nat) (M M' : Mem) : Prop := mK M' = mK M ∧ mN M' = mN M ∧ mR M' = mR M ∧ mB M' = mB M ∧ (∀ a, a ≠ x + 31 → a ≠ x + 33 → a ≠ x + 1 → a ≠ x + 2 → a ≠ x + 60 → mA M' a = mA M a) ∧ (∀ f a, a ≠ x → a ≠ x + 60 → mI M' f a = mI M f a)
theorem Fix.same {x : Nat} {M M' : Mem} (h : Fix x M) (k : ∀ i, i < 61 → mK M' (x + i) = mK M (x + i) ∧ mN M' (x + i) = mN M (x + i)) (r : ∀ f i, i < 61 → f ≠ 134 → f ≠ 135 → mR M' f (x + i) = mR M f (x + i)) : Fix x M' := by
  have k0 := k 0 (by omega)
  have r0 := fun f => r f 0 (by omega)
  simp only [Nat.add_zero] at k0 r0
  obtain ⟨⟨a1, a2, a3, a4, a5, a6, a7⟩, ⟨b1, b2, b3, b4⟩, ⟨c1, c2, c3, c4⟩, ⟨d1, d2⟩, ⟨e1, e2, e3, e4⟩, ⟨f1, f2, f3, f4⟩, ⟨p1, p2⟩⟩ := h
  refine ⟨⟨k0.1.trans a1, (r0 _ (by omega) (by omega)).trans a2, (r0 _ (by omega) (by omega)).trans a3, (r0 _ (by omega) (by omega)).trans a4, (r0 _ (by omega) (by omega)).trans a5, (r0 _ (by omega) (by omega)).trans a6, (r0 _ (by omega) (by omega)).trans a7⟩,
    ⟨(k 1 (by omega)).1.trans b1, (k 1 (by omega)).2.trans b2, (k 2 (by omega)).1.trans b3, (k 2 (by omega)).2.trans b4⟩,
    ⟨(k 27 (by omega)).1.trans c1, (r _ 27 (by omega) (by omega) (by omega)).trans c2, (k 28 (by omega)).1.trans c3, (k 28 (by omega)).2.trans c4⟩, ⟨(k 29 (by omega)).1.trans d1, (k 29 (by omega)).2.trans d2⟩,
    ⟨(k 30 (by omega)).1.trans e1, (r _ 30 (by omega) (by omega) (by omega)).trans e2, (k 31 (by omega)).1.trans e3, (k 31 (by omega)).2.trans e4⟩, ⟨(k 32 (by omega)).1.trans f1, (r _ 32 (by omega) (by omega) (by omega)).trans f2, (k 33 (by omega)).1.trans f3, (k 33 (by omega)).2.trans f4⟩,
    ⟨(k 60 (by omega)).1.trans p1, (k 60 (by omega)).2.trans p2⟩⟩
theorem Roots.rel {x : Nat} {rt : Nat → Option Nat} {M M' : Mem} (h : Roots x rt M) (hk : Keep x M M') {k w : Nat} {p : Nat → Nat} {g : Nat → Int32} (e : rt k = some w) (hr : RelP M w p g) : RelP M' w p g := by
  obtain ⟨k1, k2, k3, k4, k5, k6⟩ := hk
  have pl := (h.1 k w e).1
  unfold Place at pl
  exact hr.same (fun i _ => ⟨by rw [k1], by rw [k2], fun f => by rw [k3]⟩) (fun i hi => ⟨fun f => k6 f _ (by omega) (by omega), k5 _ (by omega) (by omega) (by omega) (by omega) (by omega), by rw [k4]⟩)
theorem CC.keep {x w : Nat} {p : Nat → Nat} {M M' : Mem} {rt : Nat → Option Nat} {g o : Nat → Int32} {h : Nat} {v : Nat → Int32} {b : Nat} (hc : CC x w p rt M g o h v b) (hk : Keep x M M') : CC x w p rt M' g o h v b := by
  obtain ⟨c1, ⟨p1, p2, p3, p4⟩, c3, ⟨n1, n2⟩, ⟨nx, h1, h2, h3, h4, h5⟩, ⟨s1, s2⟩⟩ := hc
  have K := hk
  obtain ⟨k1, k2, k3, k4, k5, k6⟩ := hk
  refine ⟨c1.same (fun i _ => ⟨by rw [k1], by rw [k2]⟩) (fun f i _ _ _ => by rw [k3]), ⟨by rw [k3]; exact p1, by rw [k3]; exact p2, fun i hi => by rw [k4]; exact p3 i hi, fun s hs => by rw [k4]; exact p4 s hs⟩, ⟨fun k w e => ⟨(c3.1 k w e).1, ?_⟩, c3.2.1, c3.2.2⟩, ⟨n1, c3.rel K n1 n2⟩, ⟨nx, h1, h2, by rw [k6 _ _ (by omega) (by omega)]; exact h3, by rw [k6 _ _ (by omega) (by omega)]; exact h4, fun j hj => ?_⟩, ⟨s1, fun s hs => ⟨fun hb => ?_, (s2 s hs).2⟩⟩⟩
  · obtain ⟨q, wq⟩ := (c3.1 k w e).2
    exact ⟨q, wq.same (fun i _ => ⟨by rw [k1], by rw [k2], fun f => by rw [k3]⟩) ⟨by rw [k4], by rw [k4]⟩⟩
  · obtain ⟨u, q, e, r⟩ := h5 j hj; exact ⟨u, q, e, c3.rel K e r⟩
  · obtain ⟨u, q, e, r⟩ := (s2 s hs).1 hb; exact ⟨u, q, e, c3.rel K e r⟩
theorem Cls.keep {x w : Nat} {p : Nat → Nat} {M M' : Mem} {g o : Nat → Int32} {h : Nat} {v : Nat → Int32} {b : Nat} (hc : Cls x w p M g o h v b) (hk : Keep x M M') : Cls x w p M' g o h v b := hc.elim fun rt c => ⟨rt, CC.keep c hk⟩
theorem Cls.congr {x w : Nat} {p : Nat → Nat} {M : Mem} {g o g' o' : Nat → Int32} {h : Nat} {v v' : Nat → Int32} {b : Nat} (hc : Cls x w p M g o h v b) (e1 : ∀ q, q < 1330 → g' q = g q) (e2 : ∀ q, q < 1330 * h → o' q = o q) (e3 : ∀ s q, bit b s → s < 2 → q < 1330 → v' (1330 * s + q) = v (1330 * s + q)) : Cls x w p M g' o' h v' b := by
  obtain ⟨rt, c1, c2, c3, ⟨n1, n2⟩, ⟨nx, h1, h2, h3, h4, h5⟩, ⟨s1, s2⟩⟩ := hc
  refine ⟨rt, c1, c2, c3, ⟨n1, n2.congr e1⟩, ⟨nx, h1, h2, h3, h4, fun j hj => ?_⟩, ⟨s1, fun s hs => ⟨fun hb => ?_, (s2 s hs).2⟩⟩⟩
  · obtain ⟨u, q, e, r⟩ := h5 j hj; exact ⟨u, q, e, r.congr (fun i hi => e2 _ (by omega))⟩
  · obtain ⟨u, q, e, r⟩ := (s2 s hs).1 hb; exact ⟨u, q, e, r.congr (fun i hi => e3 s i hb hs hi)⟩
/-- the same, with bounds below the next address -/
def ClsZ (x w : Nat) (p : Nat → Nat) (M : Mem) (g o : Nat → Int32) (h : Nat) (v : Nat → Int32) (b : Nat) : Prop := ∃ rt, CC x w p rt M g o h v b ∧ x + 61 ≤ mZ M ∧ ∀ k u, rt k = some u → u + 24 ≤ mZ M
theorem ClsZ.cls {x w : Nat} {p : Nat → Nat} {M : Mem} {g o : Nat → Int32} {h : Nat} {v : Nat → Int32} {b : Nat} (hc : ClsZ x w p M g o h v b) : Cls x w p M g o h v b := hc.elim fun rt c => ⟨rt, c.1⟩
theorem Cls.z {x w : Nat} {p : Nat → Nat} {M : Mem} {g o : Nat → Int32} {h : Nat} {v : Nat → Int32} {b : Nat} (hc : Cls x w p M g o h v b) (hz : wfz M) : ClsZ x w p M g o h v b := by
  obtain ⟨rt, c⟩ := hc
  refine ⟨rt, c, ?_, fun k u e => ?_⟩
  · have := hz (x + 60) (by rw [c.1.2.2.2.2.2.2.1]; decide)
    omega
  · obtain ⟨q, wq⟩ := (c.2.2.1.1 k u e).2; exact wq.lt hz
theorem ClsZ.keep {x w : Nat} {p : Nat → Nat} {M M' : Mem} {g o : Nat → Int32} {h : Nat} {v : Nat → Int32} {b : Nat} (hc : ClsZ x w p M g o h v b) (hk : Keep x M M') (hz : mZ M ≤ mZ M') : ClsZ x w p M' g o h v b := by
  obtain ⟨rt, c, z1, z2⟩ := hc
  exact ⟨rt, CC.keep c hk, Nat.le_trans z1 hz, fun k u e => Nat.le_trans (z2 k u e) hz⟩
theorem Fix.fr {x : Nat} {P : Nat → Prop} {M M' : Mem} (h : Fix x M) (f : Fr P M M') (hz : x + 61 ≤ mZ M) : Fix x M' := h.same (fun i hi => ⟨(f.2 (x + i) (by omega)).1.1, (f.2 (x + i) (by omega)).1.2.1⟩) (fun g i hi _ _ => (f.2 (x + i) (by omega)).1.2.2 g)
/-- a change of the current world alone -/
theorem ClsZ.world {x w : Nat} {p p' : Nat → Nat} {M M' : Mem} {g g' o : Nat → Int32} {h : Nat} {v : Nat → Int32} {b : Nat} (hc : ClsZ x w p M g o h v b) (f : Fr (inW w) M M') (hr : RelP M' w p' g') : ClsZ x w p' M' g' o h v b := by
  obtain ⟨rt, ⟨c1, ⟨p1, p2, p3, p4⟩, ⟨q1, q2, q3⟩, ⟨n1, n2⟩, ⟨nx, h1, h2, h3, h4, h5⟩, ⟨s1, s2⟩⟩, z1, z2⟩ := hc
  have pl := (q1 0 w n1).1
  unfold Place at pl
  have rel : ∀ k u q g, k ≠ 0 → rt k = some u → RelP M u q g → RelP M' u q g := fun k u q g hk e r => r.fr (z2 k u e) f (fun i hi => by have := q2 k 0 u w hk e n1; unfold inW; omega)
  refine ⟨rt, ⟨c1.fr f z1, ⟨by rw [(f.2 x (by omega)).1.2.2]; exact p1, by rw [(f.2 x (by omega)).1.2.2]; exact p2, fun i hi => by rw [((f.2 (x + 28) (by omega)).2 (by unfold inW; omega)).2.2.1]; exact p3 i hi, fun i hi => by rw [((f.2 (x + 29) (by omega)).2 (by unfold inW; omega)).2.2.1]; exact p4 i hi⟩, ⟨fun k u e => ⟨(q1 k u e).1, ?_⟩, q2, q3⟩, ⟨n1, hr⟩, ⟨nx, h1, h2, by rw [((f.2 (x + 27) (by omega)).2 (by unfold inW; omega)).1]; exact h3, by rw [((f.2 (x + 27) (by omega)).2 (by unfold inW; omega)).1]; exact h4, fun j hj => ?_⟩, ⟨s1, fun s hs => ⟨fun hb => ?_, (s2 s hs).2⟩⟩⟩, Nat.le_trans z1 f.1, fun k u e => Nat.le_trans (z2 k u e) f.1⟩
  · by_cases hk : k = 0
    · subst hk; rw [n1] at e; cases e; exact ⟨p', hr.1⟩
    · obtain ⟨q, wq⟩ := (q1 k u e).2
      have := q2 k 0 u w hk e n1
      exact ⟨q, wq.fr (z2 k u e) f ⟨((f.2 (u + 1) (by have := z2 k u e; omega)).2 (by unfold inW; omega)).2.2.1, ((f.2 (u + 2) (by have := z2 k u e; omega)).2 (by unfold inW; omega)).2.2.1⟩⟩
  · obtain ⟨u, q, e, r⟩ := h5 j hj; exact ⟨u, q, e, rel _ u q _ (by omega) e r⟩
  · obtain ⟨u, q, e, r⟩ := (s2 s hs).1 hb; exact ⟨u, q, e, rel _ u q _ (by omega) e r⟩
theorem ClsZ.row {x w : Nat} {p : Nat → Nat} {M : Mem} {g o : Nat → Int32} {h : Nat} {v : Nat → Int32} {b : Nat} (hc : ClsZ x w p M g o h v b) {t : Nat} (ht : t < 10) {a c : Nat → Int32} (e : ∀ i, i < 132 → a i = c i) : ClsZ x w p (wA M (clo w p t) a) (put g t c) o h v b := by
  have hr : RelP M w p g := by obtain ⟨rt, c, _⟩ := hc; exact c.2.2.2.1.2
  exact hc.world (Fr.wA (clo_in hr.1 ht)) (hr.put ht e)
def remO (o : Nat → Int32) (h : Nat) (g : Nat → Int32) : Nat → Int32 := fun q => if h = 10 then (if q < 11970 then o (q + 1330) else g (q - 11970)) else if 1330 * h ≤ q ∧ q < 1330 * h + 1330 then g (q - 1330 * h) else o q
def remH (h : Nat) : Nat := if h = 10 then 10 else h + 1
theorem sl_rem_old {o g : Nat → Int32} {h j : Nat} (hh : h < 10) (hj : j < h) (q : Nat) (hq : q < 1330) : sl (remO o h g) j q = sl o j q := by
  unfold sl remO; rw [if_neg (by omega), if_neg (by omega)]
theorem sl_rem_sh {o g : Nat → Int32} {j : Nat} (hj : j < 9) (q : Nat) (hq : q < 1330) : sl (remO o 10 g) j q = sl o (j + 1) q := by
  unfold sl remO; rw [if_pos rfl, if_pos (by omega)]; exact congrArg o (by omega)
theorem sl_rem_new {o g : Nat → Int32} {h : Nat} (hh : h ≤ 10) (q : Nat) (hq : q < 1330) : sl (remO o h g) (remH h - 1) q = g q := by
  unfold sl remO remH
  by_cases c : h = 10
  · rw [if_pos c, if_pos c, if_neg (by omega)]; exact congrArg g (by omega)
  · rw [if_neg c, if_neg c, show h + 1 - 1 = h by omega, if_pos (by omega)]; exact congrArg g (by omega)
/-- the part of the memory that a recorded change may touch -/
def hisP (x a : Nat) : Prop := (x + 3 ≤ a ∧ a < x + 29) ∨ (x + 34 ≤ a ∧ a < x + 58) ∨ x + 61 ≤ a
theorem ClsZ.record {x w : Nat} {p : Nat → Nat} {M : Mem} {g o : Nat → Int32} {h : Nat} {v : Nat → Int32} {b : Nat} (hc : ClsZ x w p M g o h v b) : ∃ M', f_X0_record (x + 27) w M = some M' ∧ ClsZ x w p M' g (remO o h g) (remH h) v b ∧ Fr (hisP x) M M' := by
  obtain ⟨rt, ⟨c1, ⟨p1, p2, p3, p4⟩, ⟨q1, q2, q3⟩, ⟨n1, n2⟩, ⟨nx, h1, h2, h3, h4, h5⟩, ⟨s1, s2⟩⟩, z1, z2⟩ := hc
  have pl := (q1 0 w n1).1
  unfold Place at pl
  obtain ⟨u, q, M', r1, f, eB, ru, zu, e1, e2, alt⟩ := X0_record c1.2.2.1 (by omega) (by omega) h1 h2 h3 h4 n2 (z2 0 w n1) ⟨by omega, by omega, by omega⟩ (fun u hu => by
    rw [p3 nx h1] at hu
    have pu := (q1 _ u hu).1
    unfold Place at pu
    exact ⟨(q1 _ u hu).2, z2 _ u hu, q2 _ _ u w (by omega) hu n1, by omega, by omega⟩)
  have uo : (rt (2 + nx) = some u) ∨ u = mZ M := by rw [← p3 nx h1]; exact alt
  have pu : Place x u := uo.elim (fun e => (q1 _ u e).1) (fun e => by unfold Place; omega)
  have gap : ∀ k y, k ≠ 2 + nx → rt k = some y → u + 24 ≤ y ∨ y + 24 ≤ u := fun k y hk hy => uo.elim (fun e => q2 _ _ u y (fun h => hk h.symm) e hy) (fun e => by have := z2 k y hy; omega)
  have pu' := pu
  unfold Place at pu'
  have rel : ∀ k y q g, k ≠ 2 + nx → rt k = some y → RelP M y q g → RelP M' y q g := fun k y q g hk e r => r.fr (z2 k y e) f (fun i hi => by have := gap k y hk e; have py := (q1 k y e).1; unfold Place at py; unfold inW; omega)
  have hP : ∀ a, (a = x + 28 ∨ a = x + 27 ∨ inW u a) → hisP x a := fun a ha => by unfold hisP; unfold inW at ha; omega
  have eR := fun k => (f.2 x (by omega)).1.2.2 k
  refine ⟨M', r1, ⟨u1 rt (2 + nx) (some u), ⟨c1.fr f z1, ⟨by rw [eR, p1, u1_ne _ _ (by omega)], by rw [eR, p2, u1_ne _ _ (by omega)], fun i hi => ?_, fun i hi => ?_⟩, ⟨fun k y e => ?_, fun k k' y y' hk e e' => ?_, ?_⟩, ⟨by rw [u1_ne _ _ (by omega)]; exact n1, rel 0 w p g (by omega) n1 n2⟩, ⟨(nx + 1) % 10, by omega, by unfold remH; split <;> omega, e1, by rw [e2]; rfl, fun j hj => ?_⟩, ⟨s1, fun s hs => ⟨fun hb => ?_, fun hb => by rw [u1_ne _ _ (by omega)]; exact (s2 s hs).2 hb⟩⟩⟩, Nat.le_trans z1 f.1, fun k y e => ?_⟩, f.mono hP⟩
  · rw [eB]
    by_cases c : i = nx
    · rw [c, u1_self, u1_self]
    · rw [u1_ne _ _ c, u1_ne _ _ (by omega)]; exact p3 i hi
  · rw [((f.2 (x + 29) (by omega)).2 (by unfold inW; omega)).2.2.1, p4 i hi, u1_ne _ _ (by omega)]
  · by_cases c : k = 2 + nx
    · rw [c, u1_self] at e; cases e; exact ⟨pu, q, ru.1⟩
    · rw [u1_ne _ _ c] at e
      obtain ⟨q', wq⟩ := (q1 k y e).2
      have py := (q1 k y e).1
      unfold Place at py
      have zy := z2 k y e
      have gy := gap k y c e
      exact ⟨(q1 k y e).1, q', wq.fr zy f ⟨((f.2 (y + 1) (by omega)).2 (by unfold inW; omega)).2.2.1, ((f.2 (y + 2) (by omega)).2 (by unfold inW; omega)).2.2.1⟩⟩
  · by_cases c : k = 2 + nx <;> by_cases c' : k' = 2 + nx
    · omega
    · rw [c, u1_self] at e; rw [u1_ne _ _ c'] at e'; cases e; exact gap k' y' c' e'
    · rw [u1_ne _ _ c] at e; rw [c', u1_self] at e'; cases e'; exact (gap k y c e).symm
    · rw [u1_ne _ _ c] at e; rw [u1_ne _ _ c'] at e'; exact q2 k k' y y' hk e e'
  · obtain ⟨sw, e⟩ := q3; exact ⟨sw, by rw [u1_ne _ _ (by omega)]; exact e⟩
  · by_cases c : j = remH h - 1
    · refine ⟨u, q, ?_, ?_⟩
      · have ix : 2 + ((nx + 1) % 10 + 10 - remH h + j) % 10 = 2 + nx := by
          by_cases c10 : h = 10
          · have e : remH h = 10 := if_pos c10
            omega
          · have e : remH h = h + 1 := if_neg c10
            omega
        rw [ix, u1_self]
      · exact ru.congr (fun i hi => by rw [c]; exact sl_rem_new h2 i hi)
    · by_cases c10 : h = 10
      · subst c10
        have hj9 : j < 9 := by unfold remH at *; simp at *; omega
        obtain ⟨y, q', e, r⟩ := h5 (j + 1) (by omega)
        refine ⟨y, q', ?_, ?_⟩
        · have ix : 2 + ((nx + 1) % 10 + 10 - remH 10 + j) % 10 = 2 + (nx + 10 - 10 + (j + 1)) % 10 := by unfold remH; rw [if_pos rfl]; omega
          rw [ix, u1_ne _ _ (by omega)]; exact e
        · exact (rel _ y q' _ (by omega) e r).congr (fun i hi => sl_rem_sh hj9 i hi)
      · have hjh : j < h := by unfold remH at *; rw [if_neg c10] at *; omega
        obtain ⟨y, q', e, r⟩ := h5 j hjh
        have ix : (((nx + 1) % 10) + 10 - remH h + j) % 10 = (nx + 10 - h + j) % 10 := by unfold remH; rw [if_neg c10]; omega
        refine ⟨y, q', ?_, ?_⟩
        · rw [ix, u1_ne _ _ (by omega)]; exact e
        · exact (rel _ y q' _ (by omega) e r).congr (fun i hi => sl_rem_old (by omega) hjh i hi)
  · obtain ⟨y, q', e, r⟩ := (s2 s hs).1 hb
    exact ⟨y, q', by rw [u1_ne _ _ (by omega)]; exact e, rel _ y q' _ (by omega) e r⟩
  · by_cases c : k = 2 + nx
    · rw [c, u1_self] at e; cases e; exact zu
    · rw [u1_ne _ _ c] at e; exact Nat.le_trans (z2 k y e) f.1
