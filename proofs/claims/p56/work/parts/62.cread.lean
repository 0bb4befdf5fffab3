/-! THE CLASS'S READS, in the reference's words -/
noncomputable def b01 (P : Prop) : Int32 := @ite Int32 P (Classical.propDecidable P) 1 0
theorem b01_t {P : Prop} (h : P) : b01 P = 1 := by unfold b01; rw [if_pos h]
theorem b01_f {P : Prop} (h : ¬ P) : b01 P = 0 := by unfold b01; rw [if_neg h]
theorem b01_ite {P : Prop} [Decidable P] : (if P then (1 : Int32) else 0) = b01 P := by
  by_cases h : P
  · rw [if_pos h, b01_t h]
  · rw [if_neg h, b01_f h]
theorem b01_or (P : Prop) : b01 P = 0 ∨ b01 P = 1 := by
  by_cases h : P
  · exact Or.inr (b01_t h)
  · exact Or.inl (b01_f h)
theorem b01_0 (P : Prop) : (b01 P = 0) = ¬ P := by
  by_cases h : P
  · rw [b01_t h]; exact propext ⟨fun e => absurd e (by decide), fun e => absurd h e⟩
  · rw [b01_f h]; exact propext ⟨fun _ => h, fun _ => rfl⟩
theorem b01_c {P Q : Prop} (h : P ↔ Q) : b01 P = b01 Q := by rw [propext h]
theorem bx_l {α β γ : Type} (v : α) (M : β) (k : Nat → β → Option γ) (g : α → β → Option γ) : bx (some (.inl v, M)) k g = g v M := rfl
theorem bx_r {α β γ : Type} (v : Nat) (M : β) (k : Nat → β → Option γ) (g : α → β → Option γ) : bx (some (.inr v, M)) k g = k v M := rfl
theorem firstF_ex {α : Type} (p : Nat → Prop) [DecidablePred p] (a b : α) (n i : Nat) : (firstF p i n).elim a (fun _ => b) = @ite α (∃ j, i ≤ j ∧ j < i + n ∧ p j) (Classical.propDecidable _) b a := by
  induction n generalizing i with
  | zero => rw [if_neg (fun ⟨j, h1, h2, _⟩ => by omega)]; rfl
  | succ n ih =>
    unfold firstF
    by_cases h : p i
    · rw [if_pos h, if_pos ⟨i, by omega, by omega, h⟩]; rfl
    · rw [if_neg h, ih]
      by_cases e : ∃ j, i + 1 ≤ j ∧ j < i + 1 + n ∧ p j
      · rw [if_pos e, if_pos (by obtain ⟨j, h1, h2, h3⟩ := e; exact ⟨j, by omega, by omega, h3⟩)]
      · rw [if_neg e, if_neg (fun ⟨j, h1, h2, h3⟩ => e ⟨j, by by_cases q : j = i; exact absurd (q ▸ h3) h; omega, by omega, h3⟩)]
/-- between the calls, seen from the class: the current world w holds g -/
def Cx (x w : Nat) (p : Nat → Nat) (M : Mem) (g : Nat → Int32) (R C Q m k : Nat) : Prop := Fix x M ∧ mR M 134 x = some w ∧ RelP M w p g ∧ Cnt g R C Q m ∧ (∀ t, t < 10 → t < 4 + m → WFr k (row g t)) ∧ Place x w
theorem X2_same {M : Mem} {s c s' c' : Nat} (h : St M s c) (h' : St M s' c') : f_X2_sameAs s s' M = some (b01 (eqS (mA M c) (mA M c')), M) := by
  haveI := Classical.propDecidable (eqS (mA M c) (mA M c'))
  rw [X2_sameAs h h', b01_ite]
def valE (a : Nat → Int32) (q b : Nat) : Int32 := if a (100 + (4 * q + b)) ≤ 0 then -1 else a (116 + (4 * q + b))
def gmax (a : Nat → Int32) (q : Nat) : Nat → Int32
  | 0 => -1
  | n + 1 => if valE a q n ≤ gmax a q n then gmax a q n else valE a q n
def uns (a b : Nat → Int32) : Nat → Int32
  | 0 => 0
  | n + 1 => uns a b n + (if a n - b n ≤ 0 then 0 else a n - b n)
section CR
variable {x w : Nat} {p : Nat → Nat} {M : Mem} {g : Nat → Int32} {R C Q m k : Nat}
theorem Cx.k5 (h : Cx x w p M g R C Q m k) : (mK M x = 5) = True := eq_true h.1.1.1
theorem Cx.w134 (h : Cx x w p M g R C Q m k) : gRn 5 134 x M = some w := gRn_ok h.1.1.1 h.2.1
theorem Cx.r100 (h : Cx x w p M g R C Q m k) : gRn 4 100 w M = some (w + 1) := W100 h.2.2.1.1
theorem Cx.r101 (h : Cx x w p M g R C Q m k) : gRn 4 101 w M = some (w + 2) := W101 h.2.2.1.1
theorem Cx.r102 (h : Cx x w p M g R C Q m k) : gRn 4 102 w M = some (w + 3) := W102 h.2.2.1.1
theorem Cx.i96 (h : Cx x w p M g R C Q m k) : gI 4 96 w M = some (nI R) := by rw [WI h.2.2.1.1, h.2.2.1.2.1.1, h.2.2.2.1.1]
theorem Cx.i97 (h : Cx x w p M g R C Q m k) : gI 4 97 w M = some (nI C) := by rw [WI h.2.2.1.1, h.2.2.1.2.1.2.1, h.2.2.2.1.2.1]
theorem Cx.i98 (h : Cx x w p M g R C Q m k) : gI 4 98 w M = some (nI Q) := by rw [WI h.2.2.1.1, h.2.2.1.2.1.2.2.1, h.2.2.2.1.2.2.1]
theorem Cx.i99 (h : Cx x w p M g R C Q m k) : gI 4 99 w M = some (nI m) := by rw [WI h.2.2.1.1, h.2.2.1.2.1.2.2.2, h.2.2.2.1.2.2.2.1]
theorem Cx.cl (h : Cx x w p M g R C Q m k) {t : Nat} (ht : t < 4 + m) : St M (sto w p t) (clo w p t) ∧ (∀ i, i < 132 → mA M (clo w p t) i = row g t i) ∧ WFr k (row g t) := by
  have h10 : t < 10 := by have := h.2.2.2.1.2.2.2.2.2.2.2.2; omega
  exact ⟨h.2.2.1.1.row h10, h.2.2.1.2.2.1 t h10 (by rw [h.2.2.2.1.m]; exact ht), h.2.2.2.2.1 t h10 ht⟩
theorem Cx.Rle (h : Cx x w p M g R C Q m k) : 1 ≤ R ∧ R ≤ 4 ∧ C ≤ 4 ∧ Q ≤ 4 ∧ m ≤ 6 := h.2.2.2.1.2.2.2.2
/-- a row's reads -/
theorem dl {a r : Nat → Int32} {f f' : Nat} (e : ∀ i, i < 132 → a i = r i) (h : WFr k r) (hf : 36 ≤ f ∧ f + 4 ≤ 116) (e' : f' = f) : dts a f = lve r f' := by
  rw [← dts_lve h hf e']
  exact cnt_congr (fun j hj => by rw [e _ (by omega)])
theorem vl {a r : Nat → Int32} {q b : Nat} (e : ∀ i, i < 132 → a i = r i) (h : WFr k r) (hq : q < 4) (hb : b < 4) : val a q b = valE r q b := by
  unfold val valE
  rw [e _ (by omega), e _ (by omega), show 100 + (q * 4 + b) = 100 + (4 * q + b) by omega, show 116 + (q * 4 + b) = 116 + (4 * q + b) by omega]
  have := (h.2.2.1 (100 + (4 * q + b)) (by omega) (by omega)).1
  by_cases c : r (100 + (4 * q + b)) = 0
  · rw [if_pos c, if_pos (by rw [c]; decide)]
  · rw [if_neg c, if_neg (by rw [i32_le, i32_0]; rw [i32_eq, i32_0] at c; omega)]
theorem tot_congr {a b : Nat → Int32} {c : Nat} (e : ∀ i, i < 132 → a i = b i) (hc : c < 4) : ∀ n, n ≤ 4 → tot a c n = tot b c n := by
  intro n
  induction n with
  | zero => intro _; rfl
  | succ n ih => intro h; unfold tot; rw [ih (by omega), e _ (by omega), e _ (by omega)]
theorem absF_of {a b r s : Nat → Int32} (h1 : ∀ i, i < 132 → a i = r i) (h2 : ∀ i, i < 132 → b i = s i) (wr : WFr k r) (ws : WFr k s) {i : Nat} (hi : i < 132) : absF a b i = absR r s i := (absF_congr h1 h2 hi).trans (absR_absF wr ws hi).symm
theorem WFr.absR {a b : Nat → Int32} (ha : WFr k a) (hb : WFr k b) : WFr k (absR a b) := (ha.absF hb).congr (fun i hi => absR_absF ha hb hi)
theorem rep_ok (h : Cx x w p M g R C Q m k) {r : Nat} (hr : r < R) : f_X4_requireReplica x (nI r) M = some (.inl (), M) := by
  have := h.Rle
  simp (disch := omega) only [f_X4_requireReplica, h.w134, h.i96, Option.bind_some, lit_nI, nI_ltF, nI_ltT, if_true, if_false]
theorem rep_no (h : Cx x w p M g R C Q m k) {a : Int32} (hb : Bad a R) : f_X4_requireReplica x a M = some (.inr 0, M) := by
  rcases hb with hb | hb
  · simp only [f_X4_requireReplica, fj_X4_requireReplica_15, hb, if_true]
  · have h2 : ¬ a < nI R := Int32.not_lt.mpr hb
    by_cases c : a < 0
    · simp only [f_X4_requireReplica, fj_X4_requireReplica_15, c, if_true]
    · simp only [f_X4_requireReplica, fj_X4_requireReplica_15, h.w134, h.i96, Option.bind_some, c, h2, if_false]
theorem cou_ok (h : Cx x w p M g R C Q m k) {r : Nat} (hr : r < C) : f_X4_requireCounter x (nI r) M = some (.inl (), M) := by
  have := h.Rle
  simp (disch := omega) only [f_X4_requireCounter, h.w134, h.i97, Option.bind_some, lit_nI, nI_ltF, nI_ltT, if_true, if_false]
theorem cou_no (h : Cx x w p M g R C Q m k) {a : Int32} (hb : Bad a C) : f_X4_requireCounter x a M = some (.inr 0, M) := by
  rcases hb with hb | hb
  · simp only [f_X4_requireCounter, fj_X4_requireCounter_15, hb, if_true]
  · have h2 : ¬ a < nI C := Int32.not_lt.mpr hb
    by_cases c : a < 0
    · simp only [f_X4_requireCounter, fj_X4_requireCounter_15, c, if_true]
    · simp only [f_X4_requireCounter, fj_X4_requireCounter_15, h.w134, h.i97, Option.bind_some, c, h2, if_false]
theorem reg_ok (h : Cx x w p M g R C Q m k) {r : Nat} (hr : r < Q) : f_X4_requireRegister x (nI r) M = some (.inl (), M) := by
  have := h.Rle
  simp (disch := omega) only [f_X4_requireRegister, h.w134, h.i98, Option.bind_some, lit_nI, nI_ltF, nI_ltT, if_true, if_false]
theorem reg_no (h : Cx x w p M g R C Q m k) {a : Int32} (hb : Bad a Q) : f_X4_requireRegister x a M = some (.inr 0, M) := by
  rcases hb with hb | hb
  · simp only [f_X4_requireRegister, fj_X4_requireRegister_15, hb, if_true]
  · have h2 : ¬ a < nI Q := Int32.not_lt.mpr hb
    by_cases c : a < 0
    · simp only [f_X4_requireRegister, fj_X4_requireRegister_15, c, if_true]
    · simp only [f_X4_requireRegister, fj_X4_requireRegister_15, h.w134, h.i98, Option.bind_some, c, h2, if_false]
theorem mes_ok (h : Cx x w p M g R C Q m k) {r : Nat} (hr : r < m) : f_X4_requireMessage x (nI r) M = some (.inl (), M) := by
  have := h.Rle
  simp (disch := omega) only [f_X4_requireMessage, h.w134, h.i99, Option.bind_some, lit_nI, nI_ltF, nI_ltT, if_true, if_false]
theorem mes_no (h : Cx x w p M g R C Q m k) {a : Int32} (hb : Bad a m) : f_X4_requireMessage x a M = some (.inr 0, M) := by
  rcases hb with hb | hb
  · simp only [f_X4_requireMessage, fj_X4_requireMessage_15, hb, if_true]
  · have h2 : ¬ a < nI m := Int32.not_lt.mpr hb
    by_cases c : a < 0
    · simp only [f_X4_requireMessage, fj_X4_requireMessage_15, c, if_true]
    · simp only [f_X4_requireMessage, fj_X4_requireMessage_15, h.w134, h.i99, Option.bind_some, c, h2, if_false]
theorem tagc_ok {r : Nat} (hr : r < 16) : f_X4_requireTag x (nI r) M = some (.inl (), M) := by
  simp (disch := omega) only [f_X4_requireTag, lit_nI, nI_ltF, nI_ltT, if_true, if_false]
theorem tagc_no {a : Int32} (hb : Bad a 16) : f_X4_requireTag x a M = some (.inr 0, M) := by
  rcases hb with hb | hb
  · simp only [f_X4_requireTag, fj_X4_requireTag_10, hb, if_true]
  · have h2 : ¬ a < 16 := Int32.not_lt.mpr hb
    by_cases c : a < 0
    · simp only [f_X4_requireTag, fj_X4_requireTag_10, c, if_true]
    · simp only [f_X4_requireTag, fj_X4_requireTag_10, c, h2, if_false]
theorem slot_ok {r : Nat} (hr : r < 2) : f_X4_requireSlot x (nI r) M = some (.inl (), M) := by
  simp (disch := omega) only [f_X4_requireSlot, lit_nI, nI_ltF, nI_ltT, if_true, if_false]
theorem slot_no {a : Int32} (hb : Bad a 2) : f_X4_requireSlot x a M = some (.inr 0, M) := by
  rcases hb with hb | hb
  · simp only [f_X4_requireSlot, fj_X4_requireSlot_9, hb, if_true]
  · have h2 : ¬ a < 2 := Int32.not_lt.mpr hb
    by_cases c : a < 0
    · simp only [f_X4_requireSlot, fj_X4_requireSlot_9, c, if_true]
    · simp only [f_X4_requireSlot, fj_X4_requireSlot_9, c, h2, if_false]
theorem sta_ok (h : Cx x w p M g R C Q m k) {r : Nat} (hr : r < R) : f_X4_stateOf x (nI r) M = some (.inl (sto w p r), M) := by
  have := h.Rle
  simp (disch := omega) only [f_X4_stateOf, cK, h.k5, if_true, rep_ok h hr, bx_l, h.w134, h.r100, Option.bind_some, WB1 h.2.2.1.1]
theorem sta_no (h : Cx x w p M g R C Q m k) {a : Int32} (hb : Bad a R) : f_X4_stateOf x a M = some (.inr 0, M) := by
  simp only [f_X4_stateOf, cK, h.k5, if_true, rep_no h hb, bx_r]
theorem mesB (h : Cx x w p M g R C Q m k) {i : Nat} (hi : i < m) : gBn 10 (w + 2) (nI i) M = some (sto w p (4 + i)) := WB2 h.2.2.1.1 (by have := h.Rle; omega)
theorem repB (h : Cx x w p M g R C Q m k) {i : Nat} (hi : i < R) : gBn 10 (w + 1) (nI i) M = some (sto w p i) := WB1 h.2.2.1.1 (by have := h.Rle; omega)
theorem Cx.tr (h : Cx x w p M g R C Q m k) {M' : Mem} (hs : CSim x M M') : Cx x w p M' g R C Q m k := by
  obtain ⟨h1, h2, h3, h4, h5, h6⟩ := h
  have K := hs.keep
  obtain ⟨k1, k2, k3, k4, k5, k6⟩ := K
  have pl := h6
  unfold Place at pl
  exact ⟨h1.kp hs.keep, by rw [k3]; exact h2, h3.same (fun i _ => ⟨by rw [k1], by rw [k2], fun f => by rw [k3]⟩) (fun i hi => ⟨fun f => k6 f _ (by omega) (by omega), k5 _ (by omega) (by omega) (by omega) (by omega) (by omega), by rw [k4]⟩), h4, h5, h6⟩
theorem Cx.s3 (h : Cx x w p M g R C Q m k) {t : Nat} (ht : t < 4 + m) : (mK M (sto w p t) = 3) = True := eq_true (h.cl ht).1.1
theorem Cx.r138 (h : Cx x w p M g R C Q m k) : gRn 5 138 x M = some (x + 30) := gRn_ok h.1.1.1 h.1.1.2.2.2.2.2.1
theorem Cx.r139 (h : Cx x w p M g R C Q m k) : gRn 5 139 x M = some (x + 32) := gRn_ok h.1.1.1 h.1.1.2.2.2.2.2.2
theorem Cx.trial (h : Cx x w p M g R C Q m k) : St M (x + 30) (x + 31) := h.1.2.2.2.2.1
theorem Cx.trial2 (h : Cx x w p M g R C Q m k) : St M (x + 32) (x + 33) := h.1.2.2.2.2.2.1
theorem Cx.cne (h : Cx x w p M g R C Q m k) {t : Nat} (ht : t < 4 + m) : clo w p t ≠ x + 31 ∧ clo w p t ≠ x + 33 := by
  have h10 : t < 10 := by have := h.Rle; omega
  have := sto_lt h.2.2.1.1 h10
  have pl := h.2.2.2.2.2
  unfold Place at pl
  unfold clo; omega
theorem c_mot (h : Cx x w p M g R C Q m k) {t s : Nat} (ht : t < 4 + m) (hs : s < 4 + m) : ∃ T : Nat → Int32, f_X4_mergedOnTrial x (sto w p t) (sto w p s) M = some (x + 30, wA M (x + 31) T) ∧ ∀ i, i < 132 → T i = absR (row g t) (row g s) i := by
  obtain ⟨c1, c2, c3⟩ := h.cl ht
  obtain ⟨d1, d2, d3⟩ := h.cl hs
  have e1 := X2_copyFrom h.trial c1
  have q1 := CSim.one (x := x) (M := M) (f := fun i => if i < 132 then mA M (clo w p t) i else mA M (x + 31) i)
  have h1 := h.tr q1
  have e2 := X2_absorb h1.trial (h1.cl hs).1
  rw [wA_self, wA_again, mA_ne (h.cne hs).1] at e2
  refine ⟨absF (fun i => if i < 132 then mA M (clo w p t) i else mA M (x + 31) i) (mA M (clo w p s)), ?_, fun i hi => absF_of (r := row g t) (s := row g s) (fun i hi => ?_) d2 c3 d3 hi⟩
  · simp only [f_X4_mergedOnTrial, h.r138, h1.r138, cK, h.trial.1, h1.trial.1, if_true, e1, e2, Option.bind_some]
    have h2 := h.tr (CSim.one (x := x) (M := M) (f := Jvm.Pilot.COfflineNotesLaw_law_r8929_57547b.absF (fun i => if i < 132 then mA M (clo w p t) i else mA M (x + 31) i) (mA M (clo w p s))))
    simp only [h2.r138, Option.bind_some]
  · rw [if_pos hi]; exact c2 i hi
theorem c_know (h : Cx x w p M g R C Q m k) {t s : Nat} (ht : t < 4 + m) (hs : s < 4 + m) : ∃ T : Nat → Int32, f_X4_knowsAllOf x (sto w p t) (sto w p s) M = some (b01 (cov (row g t) (row g s)), wA M (x + 31) T) := by
  obtain ⟨T, e1, e2⟩ := c_mot h ht hs
  have h1 := h.tr (CSim.one (x := x) (M := M) (f := T))
  have e3 := X2_same h1.trial (h1.cl ht).1
  rw [wA_self, mA_ne (h.cne ht).1] at e3
  refine ⟨T, ?_⟩
  simp only [f_X4_knowsAllOf, cK, h.k5, if_true, e1, bn, h1.trial.1, e3, b01_or]
  rw [b01_c (P := eqS T (mA M (clo w p t))) (Q := cov (row g t) (row g s)) (eqS_congr e2 (h.cl ht).2.1)]
theorem WFr.upR (h : Cx x w p M g R C Q m k) : ∀ n, n < R → WFr k (upR g n) := by
  intro n
  induction n with
  | zero => intro _; exact (h.cl (by omega)).2.2
  | succ n ih => intro hn; exact (ih (by omega)).absR (h.cl (by have := h.Rle; omega)).2.2
theorem WFr.dnR (h : Cx x w p M g R C Q m k) : ∀ n, n < R → WFr k (dnR g R n) := by
  intro n
  have := h.Rle
  induction n with
  | zero => intro _; exact (h.cl (by omega)).2.2
  | succ n ih => intro hn; exact (ih (by omega)).absR (h.cl (by omega)).2.2
theorem c_all (h : Cx x w p M g R C Q m k) : ∃ T : Nat → Int32, f_X4_allMergedOnTrial x M = some (x + 30, wA M (x + 31) T) ∧ ∀ i, i < 132 → T i = Jvm.Pilot.COfflineNotesLaw_law_r8929_57547b.upR g (R - 1) i := by
  have hR := h.Rle
  have e1 := X2_empty h.trial
  have lp : ∃ y, fj_X4_allMergedOnTrial_9 x 0 (wA M (x + 31) (fun i => if i < 132 then 0 else mA M (x + 31) i)) = some y ∧ ∃ T : Nat → Int32, y = (x + 30, wA M (x + 31) T) ∧ ∀ i, i < 132 → T i = Jvm.Pilot.COfflineNotesLaw_law_r8929_57547b.upR g (R - 1) i := by
    unfold fj_X4_allMergedOnTrial_9
    refine loopM_inv (N := R) (P := fun n s => s.1 = nI n ∧ ∃ T : Nat → Int32, s.2 = wA M (x + 31) T ∧ (n = 0 → ∀ i, i < 132 → T i = 0) ∧ (∀ j, n = j + 1 → ∀ i, i < 132 → T i = Jvm.Pilot.COfflineNotesLaw_law_r8929_57547b.upR g j i)) ⟨rfl, _, rfl, fun _ i hi => if_pos hi, fun j hj => by omega⟩ (fun n s hn hp => ?_) (fun s hp => ?_) (FUn (by omega))
    · obtain ⟨n0, M1⟩ := s
      obtain ⟨f1, T, f2, f3, f4⟩ := hp
      dsimp only at f1 f2
      subst f1 f2
      have h1 := h.tr (CSim.one (x := x) (M := M) (f := T))
      have e2 := X2_absorb h1.trial (h1.cl (show n < 4 + m by omega)).1
      rw [wA_self, wA_again, mA_ne (h.cne (by omega)).1] at e2
      obtain ⟨d1, d2, d3⟩ := h.cl (show n < 4 + m by omega)
      refine ⟨(nI (n + 1), wA M (x + 31) (absF T (mA M (clo w p n)))), ?_, rfl, _, rfl, fun e => by omega, fun j hj i hi => ?_⟩
      · simp (disch := omega) only [fc_X4_allMergedOnTrial_9, h1.w134, h1.i96, h1.r138, h1.r100, repB h1 hn, Option.bind_some, nI_leF, if_false, cK, h1.trial.1, if_true, e2, lit_nI, nI_add]
      · obtain rfl : n = j := by omega
        by_cases c : n = 0
        · subst c
          rw [absF_congr (a' := fun _ => 0) (b' := row g 0) (f3 rfl) d2 hi, absF_zero d3 hi]; rfl
        · obtain ⟨l, rfl⟩ : ∃ l, n = l + 1 := ⟨n - 1, by omega⟩
          exact absF_of (f4 l rfl) d2 (WFr.upR h l (by omega)) d3 hi
    · obtain ⟨n0, M1⟩ := s
      obtain ⟨f1, T, f2, f3, f4⟩ := hp
      dsimp only at f1 f2
      subst f1 f2
      have h1 := h.tr (CSim.one (x := x) (M := M) (f := T))
      refine ⟨(x + 30, wA M (x + 31) T), ?_, T, rfl, f4 (R - 1) (by omega)⟩
      simp (disch := omega) only [fc_X4_allMergedOnTrial_9, fj_X4_allMergedOnTrial_42, h1.w134, h1.i96, h1.r138, Option.bind_some, nI_leT, if_true, Option.map_some]
  obtain ⟨y, e3, T, rfl, e4⟩ := lp
  refine ⟨T, ?_, e4⟩
  simp only [f_X4_allMergedOnTrial, h.r138, cK, h.trial.1, if_true, e1, Option.bind_some]
  exact e3
end CR
