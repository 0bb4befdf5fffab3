/-! PURE: merging is a least upper bound -/
/-- the dot d of the place i is alive in the row, or the row has not seen it -/
def Kd (a : Nat → Int32) (i : Nat) (d : Int) : Prop := (a i).toInt = d ∨ (a (i % 4)).toInt < d
/-- the row a covers the row b -/
def Le (a b : Nat → Int32) : Prop := (∀ i, i < 36 → (b i).toInt ≤ (a i).toInt) ∧ (∀ i d, 36 ≤ i → i < 116 → 0 < d → Kd a i d → Kd b i d)
theorem Le.refl (a : Nat → Int32) : Le a a := ⟨fun _ _ => Int.le_refl _, fun _ _ _ _ _ h => h⟩
theorem Le.trans {a b c : Nat → Int32} (h : Le a b) (k : Le b c) : Le a c := ⟨fun i hi => Int.le_trans (k.1 i hi) (h.1 i hi), fun i d h1 h2 h3 h4 => k.2 i d h1 h2 h3 (h.2 i d h1 h2 h3 h4)⟩
theorem absR_lo {k l : Nat} {a b : Nat → Int32} (ha : WFr k a) (hb : WFr l b) {i : Nat} (hi : i < 36) : (absR a b i).toInt = max (a i).toInt (b i).toInt := by
  rw [absR_absF ha hb (by omega), absF_lo hi]
theorem surv_cases {a b : Nat → Int32} {i : Nat} : ((a (i % 4)).toInt < (b i).toInt ∧ surv a b i = b i) ∨ (¬ (a (i % 4)).toInt < (b i).toInt ∧ (a i = b i ∨ (b (i % 4)).toInt < (a i).toInt) ∧ surv a b i = a i) ∨ (¬ (a (i % 4)).toInt < (b i).toInt ∧ ¬ a i = b i ∧ ¬ (b (i % 4)).toInt < (a i).toInt ∧ surv a b i = 0) := by
  unfold surv
  by_cases q : a (i % 4) < b i
  · rw [if_pos q]; exact Or.inl ⟨i32_lt.mp q, rfl⟩
  · rw [if_neg q]
    have q' : ¬ (a (i % 4)).toInt < (b i).toInt := fun e => q (i32_lt.mpr e)
    by_cases q2 : a i = b i ∨ b (i % 4) < a i
    · rw [if_pos q2]; exact Or.inr (Or.inl ⟨q', q2.imp id i32_lt.mp, rfl⟩)
    · rw [if_neg q2]; exact Or.inr (Or.inr ⟨q', fun e => q2 (Or.inl e), fun e => q2 (Or.inr (i32_lt.mpr e)), rfl⟩)
theorem absR_dot {a b : Nat → Int32} {i : Nat} (h : 36 ≤ i) (h2 : i < 116) : absR a b i = surv a b i := by unfold absR; rw [if_neg (by omega), if_pos h2]
theorem Kd_abs {k l : Nat} {a b : Nat → Int32} (ha : WFr k a) (hb : WFr l b) {i : Nat} {d : Int} (h : 36 ≤ i) (h2 : i < 116) (hd : 0 < d) : Kd (absR a b) i d ↔ (Kd a i d ∧ Kd b i d) := by
  have e1 := absR_lo ha hb (show i % 4 < 36 by omega)
  have a3 := ha.2.2.1 i h h2
  have b3 := hb.2.2.1 i h h2
  unfold Kd
  rw [absR_dot h h2, e1]
  rcases surv_cases (a := a) (b := b) (i := i) with ⟨c1, c2⟩ | ⟨c1, c3, c2⟩ | ⟨c1, c3, c4, c2⟩
  · rw [c2]; omega
  · rw [c2]
    rw [i32_eq] at c3
    omega
  · rw [c2, i32_0]
    rw [i32_eq] at c3
    omega
theorem Le.absL {k l : Nat} {a b : Nat → Int32} (ha : WFr k a) (hb : WFr l b) : Le (absR a b) a := ⟨fun i hi => by rw [absR_lo ha hb hi]; omega, fun i d h1 h2 h3 h4 => ((Kd_abs ha hb h1 h2 h3).mp h4).1⟩
theorem Le.absRr {k l : Nat} {a b : Nat → Int32} (ha : WFr k a) (hb : WFr l b) : Le (absR a b) b := ⟨fun i hi => by rw [absR_lo ha hb hi]; omega, fun i d h1 h2 h3 h4 => ((Kd_abs ha hb h1 h2 h3).mp h4).2⟩
theorem Le.least {k l : Nat} {a b c : Nat → Int32} (ha : WFr k a) (hb : WFr l b) (h1 : Le c a) (h2 : Le c b) : Le c (absR a b) := ⟨fun i hi => by rw [absR_lo ha hb hi]; have := h1.1 i hi; have := h2.1 i hi; omega, fun i d e1 e2 e3 e4 => (Kd_abs ha hb e1 e2 e3).mpr ⟨h1.2 i d e1 e2 e3 e4, h2.2 i d e1 e2 e3 e4⟩⟩
theorem Le.congr {a b a' b' : Nat → Int32} (h : Le a b) (e : ∀ i, i < 132 → a' i = a i) (f : ∀ i, i < 132 → b' i = b i) : Le a' b' := ⟨fun i hi => by rw [e i (by omega), f i (by omega)]; exact h.1 i hi, fun i d h1 h2 h3 h4 => by
  unfold Kd at h4 ⊢
  rw [e i (by omega), e (i % 4) (by omega)] at h4
  rw [f i (by omega), f (i % 4) (by omega)]
  exact h.2 i d h1 h2 h3 h4⟩
/-- the dots of registers carry the values that φ says -/
def Ag (φ : Nat → Int32 → Int32) (a : Nat → Int32) : Prop := ∀ i, 100 ≤ i → i < 116 → a i ≠ 0 → a (i + 16) = φ i (a i)
theorem Ag.congr {φ : Nat → Int32 → Int32} {a a' : Nat → Int32} (h : Ag φ a) (e : ∀ i, i < 132 → a' i = a i) : Ag φ a' := fun i h1 h2 h3 => by
  rw [e i (by omega)] at h3; rw [e i (by omega), e (i + 16) (by omega)]; exact h i h1 h2 h3
theorem Ag.abs {φ : Nat → Int32 → Int32} {a b : Nat → Int32} (ha : Ag φ a) (hb : Ag φ b) : Ag φ (absR a b) := fun i h1 h2 h3 => by
  rw [absR_dot (by omega) h2] at h3 ⊢
  unfold absR
  rw [if_neg (by omega), if_neg (by omega), show i + 16 - 16 = i by omega, if_neg h3]
  by_cases q : surv a b i = a i
  · rw [if_pos q, q]; rw [q] at h3; exact ha i h1 h2 h3
  · rw [if_neg q]
    have e : surv a b i = b i := by
      rcases surv_cases (a := a) (b := b) (i := i) with ⟨_, c2⟩ | ⟨_, _, c2⟩ | ⟨_, _, _, c2⟩
      · exact c2
      · exact absurd c2 q
      · exact absurd c2 h3
    rw [e] at h3 ⊢; exact hb i h1 h2 h3
theorem Le.anti {k l : Nat} {φ : Nat → Int32 → Int32} {a b : Nat → Int32} (ha : WFr k a) (hb : WFr l b) (fa : Ag φ a) (fb : Ag φ b) (h1 : Le a b) (h2 : Le b a) : eqS a b := by
  have lo : ∀ i, i < 36 → (a i).toInt = (b i).toInt := fun i hi => by have := h1.1 i hi; have := h2.1 i hi; omega
  have dt : ∀ i, 36 ≤ i → i < 116 → a i = b i := fun i g1 g2 => by
    rw [i32_eq]
    have a3 := ha.2.2.1 i g1 g2
    have b3 := hb.2.2.1 i g1 g2
    have e := lo (i % 4) (by omega)
    by_cases c : (a i).toInt = 0
    · by_cases c2 : (b i).toInt = 0
      · omega
      · have := h2.2 i (b i).toInt g1 g2 (by omega) (Or.inl rfl)
        unfold Kd at this; omega
    · have := h1.2 i (a i).toInt g1 g2 (by omega) (Or.inl rfl)
      unfold Kd at this; omega
  intro i hi
  by_cases c1 : i < 36
  · rw [i32_eq]; exact lo i c1
  · by_cases c2 : i < 116
    · exact dt i (by omega) c2
    · obtain ⟨j, rfl⟩ : ∃ j, i = j + 16 := ⟨i - 16, by omega⟩
      have e := dt j (by omega) (by omega)
      by_cases c3 : a j = 0
      · rw [ha.2.2.2.1 j (by omega) (by omega) c3, hb.2.2.2.1 j (by omega) (by omega) (e ▸ c3)]
      · rw [fa j (by omega) (by omega) c3, fb j (by omega) (by omega) (e ▸ c3), e]
theorem cov_Le {k l : Nat} {φ : Nat → Int32 → Int32} {a b : Nat → Int32} (ha : WFr k a) (hb : WFr l b) (fa : Ag φ a) (fb : Ag φ b) : cov a b ↔ Le a b := by
  constructor
  · intro e
    exact (Le.absRr ha hb).congr (fun i hi => (e i hi).symm) (fun _ _ => rfl)
  · intro e
    have hm : k ≤ max k l := by omega
    have hl : l ≤ max k l := by omega
    exact Le.anti ((ha.mono hm).absR (hb.mono hl)) ha (fa.abs fb) fa (Le.absL ha hb) (Le.least ha hb (Le.refl a) e)
/-- u is the least row over the first N -/
def Lub (k : Nat) (φ : Nat → Int32 → Int32) (g : Nat → Int32) (N : Nat) (u : Nat → Int32) : Prop := WFr k u ∧ Ag φ u ∧ (∀ j, j < N → Le u (row g j)) ∧ (∀ c, (∀ j, j < N → Le c (row g j)) → Le c u)
theorem Lub.eq {k l : Nat} {φ : Nat → Int32 → Int32} {g : Nat → Int32} {N : Nat} {u v : Nat → Int32} (h : Lub k φ g N u) (h' : Lub l φ g N v) : eqS u v := Le.anti h.1 h'.1 h.2.1 h'.2.1 (h'.2.2.2 u h.2.2.1) (h.2.2.2 v h'.2.2.1)
theorem Lub.up {k : Nat} {φ : Nat → Int32 → Int32} {g : Nat → Int32} {R : Nat} (hw : ∀ t, t < R → WFr k (row g t)) (ha : ∀ t, t < R → Ag φ (row g t)) : ∀ n, n < R → Lub k φ g (n + 1) (upR g n) := by
  intro n
  induction n with
  | zero => exact fun hn => ⟨hw 0 hn, ha 0 hn, fun j hj => (by have e : j = 0 := (by omega); subst e; exact Le.refl _), fun c hc => hc 0 (by omega)⟩
  | succ n ih =>
    intro hn
    obtain ⟨i1, i2, i3, i4⟩ := ih (by omega)
    refine ⟨i1.absR (hw _ hn), i2.abs (ha _ hn), fun j hj => ?_, fun c hc => ?_⟩
    · by_cases q : j = n + 1
      · subst q; exact Le.absRr i1 (hw _ hn)
      · exact (Le.absL i1 (hw _ hn)).trans (i3 j (by omega))
    · exact Le.least i1 (hw _ hn) (i4 c (fun j hj => hc j (by omega))) (hc _ (by omega))
theorem Lub.dn {k : Nat} {φ : Nat → Int32 → Int32} {g : Nat → Int32} {R : Nat} (hw : ∀ t, t < R → WFr k (row g t)) (ha : ∀ t, t < R → Ag φ (row g t)) : ∀ n, n < R → WFr k (dnR g R n) ∧ Ag φ (dnR g R n) ∧ (∀ j, R ≤ j + n + 1 → j < R → Le (dnR g R n) (row g j)) ∧ (∀ c, (∀ j, R ≤ j + n + 1 → j < R → Le c (row g j)) → Le c (dnR g R n)) := by
  intro n
  induction n with
  | zero => exact fun hn => ⟨hw _ (by omega), ha _ (by omega), fun j h1 h2 => (by have e : j = R - 1 := (by omega); subst e; exact Le.refl _), fun c hc => hc (R - 1) (by omega) (by omega)⟩
  | succ n ih =>
    intro hn
    obtain ⟨i1, i2, i3, i4⟩ := ih (by omega)
    have w := hw (R - 2 - n) (by omega)
    refine ⟨i1.absR w, i2.abs (ha _ (by omega)), fun j h1 h2 => ?_, fun c hc => ?_⟩
    · by_cases q : j = R - 2 - n
      · subst q; exact Le.absRr i1 w
      · exact (Le.absL i1 w).trans (i3 j (by omega) h2)
    · exact Le.least i1 w (i4 c (fun j h1 h2 => hc j (by omega) h2)) (hc _ (by omega) (by omega))
theorem conv_ok {k : Nat} {φ : Nat → Int32 → Int32} {g : Nat → Int32} {R : Nat} (hw : ∀ t, t < R → WFr k (row g t)) (ha : ∀ t, t < R → Ag φ (row g t)) (hR : 0 < R) : eqS (upR g (R - 1)) (dnR g R (R - 1)) := by
  have u := Lub.up hw ha (R - 1) (by omega)
  rw [show R - 1 + 1 = R by omega] at u
  obtain ⟨d1, d2, d3, d4⟩ := Lub.dn hw ha (R - 1) (by omega)
  exact u.eq ⟨d1, d2, fun j hj => d3 j (by omega) hj, fun c hc => d4 c (fun j _ hj => hc j hj)⟩
/-! worlds that the law keeps -/
def Oz (R Q i : Nat) : Prop := R ≤ i % 4 ∨ (100 ≤ i ∧ Q ≤ (i - 100) / 4 % 4)
def Wk (n R C Q m : Nat) (g : Nat → Int32) : Prop := Cnt g R C Q m ∧ (∀ t, t < 10 → t < 4 + m → WFr n (row g t)) ∧ (∃ φ, ∀ t, t < 10 → t < 4 + m → Ag φ (row g t)) ∧ (∀ t, t < 10 → t < 4 + m → ∀ i, i < 36 → (row g t i).toInt ≤ (row g (i % 4) i).toInt) ∧ (∀ t, t < 10 → t < 4 + m → ∀ i, i < 132 → Oz R Q i → row g t i = 0) ∧ (∀ j, j < m → ∃ r, r < R ∧ g (4 + j) = nI r)
theorem Wk.mono {n l R C Q m : Nat} {g : Nat → Int32} (h : Wk n R C Q m g) (hl : n ≤ l) : Wk l R C Q m g := ⟨h.1, fun t h1 h2 => (h.2.1 t h1 h2).mono hl, h.2.2⟩
theorem row_congr {g g' : Nat → Int32} (e : ∀ q, q < 1330 → g' q = g q) {t i : Nat} (ht : t < 10) (hi : i < 132) : row g' t i = row g t i := e _ (by rw [bs_eq]; omega)
theorem Wk.congr {n R C Q m : Nat} {g g' : Nat → Int32} (h : Wk n R C Q m g) (e : ∀ q, q < 1330 → g' q = g q) : Wk n R C Q m g' := by
  obtain ⟨⟨a1, a2, a3, a4, a5⟩, h2, ⟨φ, h3⟩, h4, h5, h6⟩ := h
  have re : ∀ t i, t < 10 → i < 132 → row g' t i = row g t i := fun t i ht hi => row_congr e ht hi
  refine ⟨⟨(e 0 (by omega)).trans a1, (e 1 (by omega)).trans a2, (e 2 (by omega)).trans a3, (e 3 (by omega)).trans a4, a5⟩, fun t h1 h2' => (h2 t h1 h2').congr (fun i hi => re t i h1 hi), ⟨φ, fun t h1 h2' => (h3 t h1 h2').congr (fun i hi => re t i h1 hi)⟩, fun t h1 h2' i hi => ?_, fun t h1 h2' i hi ho => (re t i h1 hi).trans (h5 t h1 h2' i hi ho), fun j hj => ?_⟩
  · rw [re t i h1 (by omega), re (i % 4) i (by omega) (by omega)]; exact h4 t h1 h2' i hi
  · rw [e _ (by omega)]; exact h6 j hj
theorem Wk.wf {n R C Q m : Nat} {g : Nat → Int32} (h : Wk n R C Q m g) : Wf n g := ⟨⟨R, C, Q, m, h.1⟩, fun t h1 h2 => h.2.1 t h1 (by rw [h.1.m] at h2; exact h2)⟩
/-- one row replaced -/
theorem Wk.put {n l R C Q m r : Nat} {g a : Nat → Int32} {φ : Nat → Int32 → Int32} (h : Wk n R C Q m g) (hl : n ≤ l) (hr : r < R) (wa : WFr l a) (fa : Ag φ a) (fo : ∀ t, t < 10 → t < 4 + m → t ≠ r → Ag φ (row g t)) (up : ∀ i, i < 36 → i % 4 = r → (row g r i).toInt ≤ (a i).toInt) (ot : ∀ i, i < 36 → i % 4 ≠ r → (a i).toInt ≤ (row g (i % 4) i).toInt) (ou : ∀ i, i < 132 → Oz R Q i → a i = 0) : Wk l R C Q m (Jvm.Pilot.COfflineNotesLaw_law_r8929_57547b.put g r a) := by
  obtain ⟨⟨a1, a2, a3, a4, a5⟩, h2, _, h4, h5, h6⟩ := h
  refine ⟨⟨(put_lo (by omega)).trans a1, (put_lo (by omega)).trans a2, (put_lo (by omega)).trans a3, (put_lo (by omega)).trans a4, a5⟩, fun t g1 g2 => ?_, ⟨φ, fun t g1 g2 => ?_⟩, fun t g1 g2 i hi => ?_, fun t g1 g2 i hi ho => ?_, fun j hj => ?_⟩
  · by_cases q : t = r
    · subst q; exact wa.congr (fun i hi => row_put hi)
    · exact ((h2 t g1 g2).mono hl).congr (fun i hi => row_put_ne hi q)
  · by_cases q : t = r
    · subst q; exact fa.congr (fun i hi => row_put hi)
    · exact (fo t g1 g2 q).congr (fun i hi => row_put_ne hi q)
  · have h4t := h4 t g1 g2 i hi
    by_cases q : t = r
    · subst q
      rw [row_put (by omega)]
      by_cases c : i % 4 = t
      · rw [c, row_put (by omega)]; exact Int.le_refl _
      · rw [row_put_ne (by omega) c]; exact ot i hi c
    · rw [row_put_ne (by omega) q]
      by_cases c : i % 4 = r
      · rw [c, row_put (by omega)]; rw [c] at h4t; exact Int.le_trans h4t (up i hi c)
      · rw [row_put_ne (by omega) c]; exact h4t
  · by_cases q : t = r
    · subst q; rw [row_put hi]; exact ou i hi ho
    · rw [row_put_ne hi q]; exact h5 t g1 g2 i hi ho
  · rw [put_lo (by omega)]; exact h6 j hj
theorem Wk.sum {n R C Q m r s off : Nat} {g : Nat → Int32} {c : Int32} (h : Wk n R C Q m g) (hn : n < 100000) (ho : off = 4 ∨ off = 20) (hr : r < R) (hs : s < C) (c1 : 1 ≤ c.toInt) (c2 : c.toInt ≤ 99) : Wk (n + 1) R C Q m (Jvm.Pilot.COfflineNotesLaw_law_r8929_57547b.put g r (u1 (row g r) (off + (4 * s + r)) (row g r (off + (4 * s + r)) + c))) := by
  have H := h
  obtain ⟨⟨a1, a2, a3, a4, a5, a6, a7, a8, a9⟩, h2, ⟨φ, h3⟩, h4, h5, h6⟩ := h
  have w := h2 r (by omega) (by omega)
  have b := w.2.1 (off + (4 * s + r)) (by omega) (by omega)
  refine H.put (by omega) hr (w.sum hn (by omega) ⟨c1, c2⟩) (φ := φ) (fun i g1 g2 g3 => ?_) (fun t g1 g2 _ => h3 t g1 g2) (fun i hi hm => ?_) (fun i hi hm => ?_) (fun i hi hO => ?_)
  · rw [u1_ne _ _ (by omega)] at g3 ⊢; rw [u1_ne _ _ (by omega)]; exact h3 r (by omega) (by omega) i g1 g2 g3
  · by_cases q : i = off + (4 * s + r)
    · rw [q, u1_self, i32_add (by omega)]; omega
    · rw [u1_ne _ _ q]; exact Int.le_refl _
  · rw [u1_ne _ _ (by omega)]; exact h4 r (by omega) (by omega) i hi
  · have : i ≠ off + (4 * s + r) := by unfold Oz at hO; omega
    rw [u1_ne _ _ this]; exact h5 r (by omega) (by omega) i hi hO
theorem newN_o {x : Nat → Int32} {f r p : Nat} {v : Int32} (h1 : p ≠ r) (h2 : ¬ (f ≤ p ∧ p < f + 4)) (h3 : ¬ (100 ≤ f ∧ f + 16 ≤ p ∧ p < f + 16 + 4)) : newN x f r v 4 p = x p := by unfold newN; rw [if_neg h1, if_neg h2, if_neg h3]
theorem newN_f {x : Nat → Int32} {f r p : Nat} {v : Int32} (h1 : p ≠ r) (h2 : f ≤ p ∧ p < f + 4) : newN x f r v 4 p = if p = f + r then x r + 1 else 0 := by unfold newN; rw [if_neg h1, if_pos h2]
theorem newN_v {x : Nat → Int32} {f r p : Nat} {v : Int32} (h1 : p ≠ r) (h2 : ¬ (f ≤ p ∧ p < f + 4)) (h3 : 100 ≤ f ∧ f + 16 ≤ p ∧ p < f + 16 + 4) : newN x f r v 4 p = if p = f + 16 + r then v else 0 := by unfold newN; rw [if_neg h1, if_neg h2, if_pos h3]
theorem Wk.new {n R C Q m r f : Nat} {g : Nat → Int32} {v : Int32} (h : Wk n R C Q m g) (hn : n < 100000) (hr : r < R) (hf : (∃ s, s < 16 ∧ f = 36 + 4 * s) ∨ (∃ s, s < Q ∧ f = 100 + 4 * s)) (v1 : 0 ≤ v.toInt) (v2 : v.toInt ≤ 99) : Wk (n + 1) R C Q m (Jvm.Pilot.COfflineNotesLaw_law_r8929_57547b.put g r (newN (row g r) f r v 4)) := by
  have H := h
  obtain ⟨⟨a1, a2, a3, a4, a5, a6, a7, a8, a9⟩, h2, ⟨φ, h3⟩, h4, h5, h6⟩ := h
  have w := h2 r (by omega) (by omega)
  have b := w.1 r (by omega)
  have q1 : (1 : Int32).toInt = 1 := rfl
  have e1 : (row g r r + 1).toInt = (row g r r).toInt + 1 := by rw [i32_add (by rw [q1]; omega), q1]
  have hf' : 36 ≤ f ∧ f + 4 ≤ 116 ∧ (f + 4 ≤ 100 ∨ 100 ≤ f) ∧ f % 4 = 0 := by rcases hf with ⟨s, hs, rfl⟩ | ⟨s, hs, rfl⟩ <;> omega
  have lo : ∀ i, i < 36 → i ≠ r → newN (row g r) f r v 4 i = row g r i := fun i hi hne => newN_o hne (by omega) (by omega)
  -- no row has the new dot yet
  have fresh : ∀ t, t < 10 → t < 4 + m → ∀ i, 36 ≤ i → i < 116 → i % 4 = r → row g t i ≠ row g r r + 1 := fun t g1 g2 i i1 i2 i3 e => by
    have x1 := (h2 t g1 g2).2.2.1 i i1 i2
    have x2 := h4 t g1 g2 (i % 4) (by omega)
    rw [show i % 4 % 4 = i % 4 by omega, i3] at x2
    rw [i3, e, e1] at x1
    omega
  refine H.put (by omega) hr (w.newN hn ⟨hf'.1, hf'.2.1, hf'.2.2.1⟩ hf'.2.2.2 (by omega) ⟨v1, v2⟩) (φ := fun i d => if i = f + r ∧ d = row g r r + 1 then v else φ i d) (fun i g1 g2 g3 => ?_) (fun t g1 g2 _ i i1 i2 i3 => ?_) (fun i hi hm => ?_) (fun i hi hm => ?_) (fun i hi hO => ?_)
  · by_cases c : f ≤ i ∧ i < f + 4
    · rw [newN_f (by omega) c] at g3 ⊢
      rw [newN_v (by omega) (by omega) (by omega)]
      by_cases c2 : i = f + r
      · rw [if_pos c2, if_pos (by omega)]; exact (if_pos ⟨c2, rfl⟩).symm
      · rw [if_neg c2] at g3; exact absurd rfl g3
    · rw [newN_o (by omega) c (by omega)] at g3 ⊢
      rw [newN_o (by omega) (by omega) (by omega)]
      show _ = if i = f + r ∧ row g r i = row g r r + 1 then v else φ i (row g r i)
      rw [if_neg (by omega)]
      exact h3 r (by omega) (by omega) i g1 g2 g3
  · show _ = if i = f + r ∧ row g t i = row g r r + 1 then v else φ i (row g t i)
    rw [if_neg (fun e => fresh t g1 g2 i (by omega) i2 (by omega) e.2)]
    exact h3 t g1 g2 i i1 i2 i3
  · by_cases q : i = r
    · rw [q, newN_r, e1]; omega
    · rw [lo i hi q]; exact Int.le_refl _
  · rw [lo i hi (by omega)]; exact h4 r (by omega) (by omega) i hi
  · have hir : i ≠ r := by unfold Oz at hO; omega
    have o := h5 r (by omega) (by omega) i hi hO
    by_cases c : f ≤ i ∧ i < f + 4
    · rw [newN_f hir c, if_neg]
      intro e; subst e; unfold Oz at hO
      rcases hf with ⟨s, hs, rfl⟩ | ⟨s, hs, rfl⟩ <;> omega
    · by_cases c2 : 100 ≤ f ∧ f + 16 ≤ i ∧ i < f + 16 + 4
      · rw [newN_v hir c c2, if_neg]
        intro e; subst e; unfold Oz at hO
        rcases hf with ⟨s, hs, rfl⟩ | ⟨s, hs, rfl⟩ <;> omega
      · rw [newN_o hir c c2]; exact o
theorem Wk.zap {n R C Q m r s : Nat} {g : Nat → Int32} (h : Wk n R C Q m g) (hr : r < R) (hs : s < 16) : Wk (n + 1) R C Q m (Jvm.Pilot.COfflineNotesLaw_law_r8929_57547b.put g r (Jvm.Pilot.COfflineNotesLaw_law_r8929_57547b.zap (row g r) (36 + 4 * s) 4)) := by
  have H := h
  obtain ⟨⟨a1, a2, a3, a4, a5, a6, a7, a8, a9⟩, h2, ⟨φ, h3⟩, h4, h5, h6⟩ := h
  have w := h2 r (by omega) (by omega)
  have zo : ∀ i, ¬ (36 + 4 * s ≤ i ∧ i < 36 + 4 * s + 4) → Jvm.Pilot.COfflineNotesLaw_law_r8929_57547b.zap (row g r) (36 + 4 * s) 4 i = row g r i := fun i hi => if_neg hi
  refine H.put (by omega) hr ((w.zap (by omega)).mono (by omega)) (φ := φ) (fun i g1 g2 g3 => ?_) (fun t g1 g2 _ => h3 t g1 g2) (fun i hi hm => ?_) (fun i hi hm => ?_) (fun i hi hO => ?_)
  · rw [zo i (by omega)] at g3 ⊢; rw [zo _ (by omega)]; exact h3 r (by omega) (by omega) i g1 g2 g3
  · rw [zo i (by omega)]; exact Int.le_refl _
  · rw [zo i (by omega)]; exact h4 r (by omega) (by omega) i hi
  · by_cases c : 36 + 4 * s ≤ i ∧ i < 36 + 4 * s + 4
    · exact if_pos c
    · rw [zo i c]; exact h5 r (by omega) (by omega) i hi hO
theorem absR_0 {k l : Nat} {a b : Nat → Int32} (ha : WFr k a) (hb : WFr l b) {i : Nat} (h1 : a i = 0) (h2 : b i = 0) (h3 : 116 ≤ i → a (i - 16) = 0 ∧ b (i - 16) = 0) : absR a b i = 0 := by
  unfold absR
  by_cases c : i < 36
  · rw [if_pos c, h1, h2]; exact if_pos (Int32.le_refl _)
  · rw [if_neg c]
    by_cases c2 : i < 116
    · rw [if_pos c2]
      rcases surv_cases (a := a) (b := b) (i := i) with ⟨_, e⟩ | ⟨_, _, e⟩ | ⟨_, _, _, e⟩ <;> rw [e] <;> assumption
    · rw [if_neg c2]
      obtain ⟨h3, h4⟩ := h3 (by omega)
      have e : surv a b (i - 16) = 0 := by rcases surv_cases (a := a) (b := b) (i := i - 16) with ⟨_, e⟩ | ⟨_, _, e⟩ | ⟨_, _, _, e⟩ <;> rw [e] <;> assumption
      rw [if_pos e]
theorem Oz.back {R Q i : Nat} (h : Oz R Q i) (h2 : 116 ≤ i) (h3 : i < 132) : Oz R Q (i - 16) := by unfold Oz at *; omega
theorem Wk.mer {n R C Q m t u : Nat} {g : Nat → Int32} (h : Wk n R C Q m g) (ht : t < R) (hu : u < 4 + m) : Wk (n + 1) R C Q m (Jvm.Pilot.COfflineNotesLaw_law_r8929_57547b.put g t (absR (row g t) (row g u))) := by
  have H := h
  obtain ⟨⟨a1, a2, a3, a4, a5, a6, a7, a8, a9⟩, h2, ⟨φ, h3⟩, h4, h5, h6⟩ := h
  have w := h2 t (by omega) (by omega)
  have w' := h2 u (by omega) (by omega)
  refine H.put (by omega) ht ((w.absR w').mono (by omega)) (φ := φ) ((h3 t (by omega) (by omega)).abs (h3 u (by omega) (by omega))) (fun t g1 g2 _ => h3 t g1 g2) (fun i hi hm => ?_) (fun i hi hm => ?_) (fun i hi hO => ?_)
  · rw [absR_lo w w' hi]; omega
  · rw [absR_lo w w' hi]; have := h4 t (by omega) (by omega) i hi; have := h4 u (by omega) (by omega) i hi; omega
  · exact absR_0 w w' (h5 t (by omega) (by omega) i hi hO) (h5 u (by omega) (by omega) i hi hO) (fun h => ⟨h5 t (by omega) (by omega) _ (by omega) (hO.back h hi), h5 u (by omega) (by omega) _ (by omega) (hO.back h hi)⟩)
theorem Wk.send {n R C Q m r : Nat} {g : Nat → Int32} (h : Wk n R C Q m g) (hr : r < R) (hm : m < 6) : Wk (n + 1) R C Q (m + 1) (sendG g r) := by
  have em := h.1.m
  obtain ⟨⟨a1, a2, a3, a4, a5, a6, a7, a8, a9⟩, h2, ⟨φ, h3⟩, h4, h5, h6⟩ := h
  have hlo : ∀ q, q < 3 → sendG g r q = g q := fun q hq => by unfold sendG; rw [u1_ne _ _ (by omega), put_lo (by omega), u1_ne _ _ (by omega)]
  have re : ∀ t i, t < 10 → t < 4 + (m + 1) → i < 132 → row (sendG g r) t i = if t = 4 + m then row g r i else row g t i := fun t i ht hv hi => by
    unfold sendG; rw [row_u1 (by omega), em]
    by_cases q : t = 4 + m
    · rw [if_pos q, q, row_put hi]
    · rw [if_neg q, row_put_ne hi q, row_u1 (by omega)]
  have al : ∀ t, t < 10 → t < 4 + (m + 1) → ∃ t', t' < 10 ∧ t' < 4 + m ∧ ∀ i, i < 132 → row (sendG g r) t i = row g t' i := fun t ht hv => by
    by_cases q : t = 4 + m
    · exact ⟨r, by omega, by omega, fun i hi => by rw [re t i ht hv hi, if_pos q]⟩
    · exact ⟨t, by omega, by omega, fun i hi => by rw [re t i ht hv hi, if_neg q]⟩
  refine ⟨⟨(hlo 0 (by omega)).trans a1, (hlo 1 (by omega)).trans a2, (hlo 2 (by omega)).trans a3, by unfold sendG; rw [u1_self, em], a5, a6, a7, a8, by omega⟩, fun t ht hv => ?_, ⟨φ, fun t ht hv => ?_⟩, fun t ht hv i hi => ?_, fun t ht hv i hi ho => ?_, fun j hj => ?_⟩
  · obtain ⟨t', q1, q2, q3⟩ := al t ht hv; exact ((h2 t' q1 q2).mono (by omega)).congr q3
  · obtain ⟨t', q1, q2, q3⟩ := al t ht hv; exact (h3 t' q1 q2).congr q3
  · obtain ⟨t', q1, q2, q3⟩ := al t ht hv
    rw [q3 i (by omega), re (i % 4) i (by omega) (by omega) (by omega), if_neg (by omega)]; exact h4 t' q1 q2 i hi
  · obtain ⟨t', q1, q2, q3⟩ := al t ht hv; rw [q3 i hi]; exact h5 t' q1 q2 i hi ho
  · unfold sendG
    rw [u1_ne _ _ (by omega), put_lo (by omega), em]
    by_cases q : j = m
    · rw [q, u1_self]; exact ⟨r, hr, rfl⟩
    · rw [u1_ne _ _ (by omega)]; exact h6 j (by omega)
theorem Wk.drop {n R C Q m r : Nat} {g : Nat → Int32} (h : Wk n R C Q m g) (hr : r < m) : Wk (n + 1) R C Q (m - 1) (dropG g r) := by
  have em := h.1.m
  obtain ⟨⟨a1, a2, a3, a4, a5, a6, a7, a8, a9⟩, h2, ⟨φ, h3⟩, h4, h5, h6⟩ := h
  have hlo : ∀ q, q < 3 → dropG g r q = g q := fun q hq => by unfold dropG; rw [dropL_lo _ _ _ _ (by omega), u1_ne _ _ (by omega)]
  have re : ∀ t i, i < 132 → row (dropG g r) t i = if 4 + r ≤ t ∧ t < 4 + r + (m - 1 - r) then row g (t + 1) i else row g t i := fun t i hi => by
    unfold dropG; rw [dropL_r _ _ _ _ _ (by omega) hi, em, row_u1 (by omega), row_u1 (by omega)]
  have al : ∀ t, t < 10 → t < 4 + (m - 1) → ∃ t', t' < 10 ∧ t' < 4 + m ∧ ∀ i, i < 132 → row (dropG g r) t i = row g t' i := fun t ht hv => by
    by_cases q : 4 + r ≤ t ∧ t < 4 + r + (m - 1 - r)
    · exact ⟨t + 1, by omega, by omega, fun i hi => by rw [re t i hi, if_pos q]⟩
    · exact ⟨t, by omega, by omega, fun i hi => by rw [re t i hi, if_neg q]⟩
  refine ⟨⟨(hlo 0 (by omega)).trans a1, (hlo 1 (by omega)).trans a2, (hlo 2 (by omega)).trans a3, by unfold dropG; rw [dropL_lo _ _ _ _ (by omega), u1_self, em], a5, a6, a7, a8, by omega⟩, fun t ht hv => ?_, ⟨φ, fun t ht hv => ?_⟩, fun t ht hv i hi => ?_, fun t ht hv i hi ho => ?_, fun j hj => ?_⟩
  · obtain ⟨t', q1, q2, q3⟩ := al t ht hv; exact ((h2 t' q1 q2).mono (by omega)).congr q3
  · obtain ⟨t', q1, q2, q3⟩ := al t ht hv; exact (h3 t' q1 q2).congr q3
  · obtain ⟨t', q1, q2, q3⟩ := al t ht hv
    rw [q3 i (by omega), re (i % 4) i (by omega), if_neg (by omega)]; exact h4 t' q1 q2 i hi
  · obtain ⟨t', q1, q2, q3⟩ := al t ht hv; rw [q3 i hi]; exact h5 t' q1 q2 i hi ho
  · unfold dropG
    rw [em, dropL_s _ _ _ _ (by omega) (by omega)]
    by_cases q : r ≤ j ∧ j < r + (m - 1 - r)
    · rw [if_pos q, u1_ne _ _ (by omega)]; exact h6 (j + 1) (by omega)
    · rw [if_neg q, u1_ne _ _ (by omega)]; exact h6 j (by omega)
theorem Wk.lub {n R C Q m : Nat} {g : Nat → Int32} (h : Wk n R C Q m g) : ∃ φ, (∀ t, t < 10 → t < 4 + m → Ag φ (row g t)) ∧ Lub n φ g R (upR g (R - 1)) := by
  obtain ⟨⟨a1, a2, a3, a4, a5, a6, a7, a8, a9⟩, h2, ⟨φ, h3⟩, h4, h5, h6⟩ := h
  refine ⟨φ, h3, ?_⟩
  have := Lub.up (R := R) (fun t ht => h2 t (by omega) (by omega)) (fun t ht => h3 t (by omega) (by omega)) (R - 1) (by omega)
  rwa [show R - 1 + 1 = R by omega] at this
theorem upR_0 {n R C Q m : Nat} {g : Nat → Int32} (h : Wk n R C Q m g) {i : Nat} (hi : i < 132) (hO : Oz R Q i) : ∀ k, k < R → upR g k i = 0 := by
  obtain ⟨⟨a1, a2, a3, a4, a5, a6, a7, a8, a9⟩, h2, ⟨φ, h3⟩, h4, h5, h6⟩ := h
  have key : ∀ k, k < R → WFr n (upR g k) ∧ ∀ i, i < 132 → Oz R Q i → upR g k i = 0 := by
    intro k
    induction k with
    | zero => exact fun hk => ⟨h2 0 (by omega) (by omega), fun i hi ho => h5 0 (by omega) (by omega) i hi ho⟩
    | succ k ih =>
      intro hk
      obtain ⟨i1, i2⟩ := ih (by omega)
      have w := h2 (k + 1) (by omega) (by omega)
      refine ⟨i1.absR w, fun i hi ho => ?_⟩
      exact absR_0 i1 w (i2 i hi ho) (h5 (k + 1) (by omega) (by omega) i hi ho) (fun h => ⟨i2 _ (by omega) (ho.back h hi), h5 (k + 1) (by omega) (by omega) _ (by omega) (ho.back h hi)⟩)
  exact fun k hk => (key k hk).2 i hi hO
theorem Wk.all {n R C Q m : Nat} {g : Nat → Int32} (h : Wk n R C Q m g) : Wk (n + 1) R C Q m (allU g (upR g (R - 1)) R) := by
  have H := h
  obtain ⟨φ, f1, L⟩ := h.lub
  obtain ⟨⟨a1, a2, a3, a4, a5, a6, a7, a8, a9⟩, h2, _, h4, h5, h6⟩ := h
  have re : ∀ t i, i < 132 → row (allU g (upR g (R - 1)) R) t i = if t < R then upR g (R - 1) i else row g t i := fun t i hi => allU_row _ _ _ _ _ hi
  refine ⟨⟨(allU_lo _ _ _ _ (by omega)).trans a1, (allU_lo _ _ _ _ (by omega)).trans a2, (allU_lo _ _ _ _ (by omega)).trans a3, (allU_lo _ _ _ _ (by omega)).trans a4, a5, a6, a7, a8, a9⟩, fun t ht hv => ?_, ⟨φ, fun t ht hv => ?_⟩, fun t ht hv i hi => ?_, fun t ht hv i hi ho => ?_, fun j hj => ?_⟩
  · by_cases q : t < R
    · exact (L.1.mono (by omega)).congr (fun i hi => by rw [re t i hi, if_pos q])
    · exact ((h2 t ht hv).mono (by omega)).congr (fun i hi => by rw [re t i hi, if_neg q])
  · by_cases q : t < R
    · exact L.2.1.congr (fun i hi => by rw [re t i hi, if_pos q])
    · exact (f1 t ht hv).congr (fun i hi => by rw [re t i hi, if_neg q])
  · rw [re t i (by omega), re (i % 4) i (by omega)]
    by_cases c : i % 4 < R
    · rw [if_pos c]
      by_cases q : t < R
      · rw [if_pos q]; exact Int.le_refl _
      · rw [if_neg q]; exact Int.le_trans (h4 t ht hv i hi) ((L.2.2.1 (i % 4) c).1 i hi)
    · rw [if_neg c]
      have o : Oz R Q i := Or.inl (by omega)
      rw [h5 (i % 4) (by omega) (by omega) i (by omega) o]
      by_cases q : t < R
      · rw [if_pos q, upR_0 H (by omega) o (R - 1) (by omega)]; exact Int.le_refl _
      · rw [if_neg q, h5 t ht hv i (by omega) o]; exact Int.le_refl _
  · rw [re t i hi]
    by_cases q : t < R
    · rw [if_pos q]; exact upR_0 H hi ho (R - 1) (by omega)
    · rw [if_neg q]; exact h5 t ht hv i hi ho
  · rw [allU_lo _ _ _ _ (by omega)]; exact h6 j hj
/-- one replica merged into another changes nothing of all of them together -/
theorem up_mer {n R C Q m t u : Nat} {g : Nat → Int32} (h : Wk n R C Q m g) (ht : t < R) (hu : u < R) : eqS (upR (put g t (absR (row g t) (row g u))) (R - 1)) (upR g (R - 1)) := by
  have H := h
  obtain ⟨φ, f1, L⟩ := h.lub
  obtain ⟨⟨a1, a2, a3, a4, a5, a6, a7, a8, a9⟩, h2, _, h4, h5, h6⟩ := h
  have wt := h2 t (by omega) (by omega)
  have wu := h2 u (by omega) (by omega)
  have wn : ∀ j, j < R → WFr n (row (put g t (absR (row g t) (row g u))) j) := fun j hj => by
    by_cases q : j = t
    · subst q; exact (wt.absR wu).congr (fun i hi => row_put hi)
    · exact (h2 j (by omega) (by omega)).congr (fun i hi => row_put_ne hi q)
  have fn : ∀ j, j < R → Ag φ (row (put g t (absR (row g t) (row g u))) j) := fun j hj => by
    by_cases q : j = t
    · subst q; exact ((f1 j (by omega) (by omega)).abs (f1 u (by omega) (by omega))).congr (fun i hi => row_put hi)
    · exact (f1 j (by omega) (by omega)).congr (fun i hi => row_put_ne hi q)
  have L' := Lub.up wn fn (R - 1) (by omega)
  rw [show R - 1 + 1 = R by omega] at L'
  refine Le.anti L'.1 L.1 L'.2.1 L.2.1 (L.2.2.2 _ (fun j hj => ?_)) (L'.2.2.2 _ (fun j hj => ?_))
  · have := L'.2.2.1 j hj
    by_cases q : j = t
    · subst q
      exact (this.congr (fun _ _ => rfl) (fun i hi => (row_put hi).symm)).trans (Le.absL wt wu)
    · exact this.congr (fun _ _ => rfl) (fun i hi => (row_put_ne hi q).symm)
  · by_cases q : j = t
    · subst q
      exact (Le.least wt wu (L.2.2.1 j hj) (L.2.2.1 u hu)).congr (fun _ _ => rfl) (fun i hi => row_put hi)
    · exact (L.2.2.1 j hj).congr (fun _ _ => rfl) (fun i hi => row_put_ne hi q)
