/-! THE CLASS'S PARSER: the first line, the loop over the lines -/
theorem loopM_bn {S X α β : Type} {body : S → Option (S ⊕ X)} {o : Option (α × β)} {k : α → β → S} {f : Nat} {s : S} (h : body s = bn o fun v M => some (.inl (k v M))) : loopM body (f + 1) s = bn o fun v M => loopM body f (k v M) := by
  conv => lhs; unfold loopM
  rw [h]
  cases o <;> rfl
section CQ
variable {N : Mem} {pa ta L w : Nat} {c : GF} {q : Cur} {p : Nat → Nat} {g : GF}
def OutT (pa ta L w : Nat) (c : GF) (p : Nat → Nat) (N : Mem) (o : ER ⊕ GF) : Prop := (∀ k i, o = .inl (k, i) → CE pa ta L w c N k i) ∧ (∀ g', o = .inr g' → ∃ q', CG pa ta L w c p N g' q')
theorem OutT.er {k : Int32} {o : Nat} (h : CE pa ta L w c N k o) : OutT pa ta L w c p N (.inl (k, o)) := ⟨fun k i e => (by cases e; exact h), fun g' e => by cases e⟩
theorem OutT.ok {g' : GF} {q' : Cur} (h : CG pa ta L w c p N g' q') : OutT pa ta L w c p N (.inr g') := ⟨fun k i e => (by cases e), fun g' e => by cases e; exact ⟨q', h⟩⟩
theorem c_fol (h : CG pa ta L w c p N g q) : ∃ v N', f_X1_lineFollows pa N = some (v, N') ∧ FP w pa N N' ∧ (uT c L q = 3 → v = 1 ∧ CG pa ta L w c p N' g (uN c L q)) ∧ (uT c L q = 0 → v = 0 ∧ CG pa ta L w c p N' g (uN c L q)) ∧ (uT c L q ≠ 3 → uT c L q ≠ 0 → v = 0 ∧ CE pa ta L w c N' 1 (uS c L q)) := by
  obtain ⟨N1, e1, e2, e3⟩ := h.next
  have h1 := e3.cs
  have o44 : ∀ v : Int32, (v = 0 ∨ v = 1) → ∀ M : Mem, fj_X1_lineFollows_44 v M = some (v, M) := fun v hv M => by unfold fj_X1_lineFollows_44; rw [if_pos hv]
  by_cases t3 : uT c L q = 3
  · refine ⟨1, N1, ?_, e2, fun _ => ⟨rfl, h1⟩, fun e => absurd (t3.symm.trans e) (by decide), fun e => absurd t3 e⟩
    simp only [f_X1_lineFollows, fj_X1_lineFollows_24, cK, h.k2, if_true, e1, Option.bind_some, e3.1.i35, t3, h1.k2, h1.failed, bn, o44 1 (Or.inr rfl)]
  · by_cases t0 : uT c L q = 0
    · refine ⟨0, N1, ?_, e2, fun e => absurd e t3, fun _ => ⟨rfl, h1⟩, fun _ e => absurd t0 e⟩
      simp only [f_X1_lineFollows, fj_X1_lineFollows_24, fj_X1_lineFollows_43, cK, h.k2, if_true, e1, Option.bind_some, e3.1.i35, t0, h1.k2, h1.failed, bn, o44 0 (Or.inl rfl), show ((0 : Int32) = 3) = False from eq_false (by decide), if_false]
    · obtain ⟨N2, d1, d2, d3⟩ := e3.err (k := 1) (by decide)
      refine ⟨0, N2, ?_, e2.trans d2, fun e => absurd e t3, fun e => absurd e t0, fun _ _ => ⟨rfl, d3⟩⟩
      simp only [f_X1_lineFollows, fj_X1_lineFollows_24, fj_X1_lineFollows_43, cK, h.k2, if_true, e1, Option.bind_some, e3.1.i35, t0, t3, h1.k2, if_false, d1, d3.k2, d3.failed, bn, e10, o44 0 (Or.inl rfl)]
theorem CE.fol {k : Int32} {o : Nat} (h : CE pa ta L w c N k o) : f_X1_lineFollows pa N = some (0, N) := by
  have e1 := h.next
  have e2 := fun j => h.fail (j := j)
  have f24 : fj_X1_lineFollows_24 pa N = some (0, N) := by
    simp only [fj_X1_lineFollows_24, fj_X1_lineFollows_43, fj_X1_lineFollows_44, cK, h.k2, if_true, h.failed, bn, e10, if_false, true_or]
  obtain ⟨h1, h2, ty, st, en, h3, h4, h5, h6⟩ := id h
  by_cases t3 : ty = 3
  · simp only [f_X1_lineFollows, cK, h.k2, if_true, e1, Option.bind_some, h3.i35, t3, f24]
  · by_cases t0 : ty = 0
    · simp only [f_X1_lineFollows, cK, h.k2, if_true, e1, Option.bind_some, h3.i35, t0, f24, show ((0 : Int32) = 3) = False from eq_false (by decide), if_false]
    · simp only [f_X1_lineFollows, cK, h.k2, if_true, e1, Option.bind_some, h3.i35, t0, t3, if_false, e2, f24]
/-- the loop ends where no line follows -/
theorem lp_end {ln : Int32} {fuel : Nat} (hf : 0 < fuel) (hk : gI 2 33 pa N = some (nI L)) : loopM (fun q : (Int32 × Int32 × Mem) => fc_X1_parse_11 pa q.1 q.2.1 q.2.2) fuel (0, ln, N) = some N := by
  obtain ⟨f, rfl⟩ : ∃ f, fuel = f + 1 := ⟨fuel - 1, by omega⟩
  unfold loopM
  have : fc_X1_parse_11 pa 0 ln N = some (.inr N) := by
    by_cases c1 : nI L ≤ ln
    · simp only [fc_X1_parse_11, fj_X1_parse_38, hk, Option.bind_some, c1, if_true, Option.map_some]
    · simp only [fc_X1_parse_11, fj_X1_parse_38, hk, Option.bind_some, c1, if_true, if_false, Option.map_some]
  dsimp only
  rw [this]
theorem CE.i33 {k : Int32} {o : Nat} (h : CE pa ta L w c N k o) : gI 2 33 pa N = some (nI L) := by
  obtain ⟨h1, h2, ty, st, en, h3, _⟩ := h
  exact h3.i33
theorem CG.i33 (h : CG pa ta L w c p N g q) : gI 2 33 pa N = some (nI L) := by obtain ⟨⟨st, h1, _⟩, _⟩ := h; exact h1.i33
theorem CG.le (h : CG pa ta L w c p N g q) : q.2 ≤ L ∧ L ≤ 1000 := by obtain ⟨⟨st, h1, _, h3⟩, _⟩ := h; exact ⟨h3, h1.L1⟩
theorem c_loop (n : Nat) : ∀ {N : Mem} {g : GF} {q : Cur} {ln fuel k : Nat}, CG pa ta L w c p N g q → Wf k g → k + n ≤ 100000 → L < n + q.2 → ln ≤ q.2 → n < fuel → ∃ N2, (bn (cK 2 pa N (f_X1_lineFollows pa N)) fun v M => loopM (fun q : (Int32 × Int32 × Mem) => fc_X1_parse_11 pa q.1 q.2.1 q.2.2) fuel (v, nI ln, M)) = some N2 ∧ FP w pa N N2 ∧ OutT pa ta L w c p N2 (linesR c L n g q) := by
  induction n with
  | zero => intro N g q ln fuel k h hw hk h1 h2 h3; have := h.le; omega
  | succ n ih =>
    intro N g q ln fuel k h hw hk h1 h2 h3
    have hq := h.le
    have b1 := uN_le (c := c) hq.1
    obtain ⟨v, N1, e1, e2, e3, e4, e5⟩ := c_fol h
    rw [cK_ok (of_eq_true h.k2), e1, bn_some]
    unfold linesR
    by_cases t0 : uT c L q = 0
    · obtain ⟨rfl, d⟩ := e4 t0
      rw [cif_t t0]
      exact ⟨N1, lp_end (by omega) d.i33, e2, OutT.ok d⟩
    · rw [cif_f t0]
      by_cases t3 : uT c L q = 3
      · obtain ⟨rfl, d⟩ := e3 t3
        rw [cif_t t3]
        obtain ⟨N2, l1, l2, l3⟩ := c_line d hw
        have bt := uT_0 hq.1 t0
        obtain ⟨f, rfl⟩ : ∃ f, fuel = f + 1 := ⟨fuel - 1, by omega⟩
        have hl : ¬ (nI L ≤ nI ln) := nI_ge (by omega) (by omega)
        have k2 : (mK N2 pa = 2) = True := by
          cases ho : lineR c L g (uN c L q) with
          | inl e => obtain ⟨k, i⟩ := e; exact (l3.1 k i ho).k2
          | inr y => obtain ⟨g', q'⟩ := y; exact (l3.2 g' q' ho).k2
        have el : nI ln + 1 = nI (ln + 1) := nI_add ln 1
        have step : loopM (fun q : (Int32 × Int32 × Mem) => fc_X1_parse_11 pa q.1 q.2.1 q.2.2) (f + 1) (1, nI ln, N1) = bn (cK 2 pa N2 (f_X1_lineFollows pa N2)) fun v M => loopM (fun q : (Int32 × Int32 × Mem) => fc_X1_parse_11 pa q.1 q.2.1 q.2.2) f (v, nI (ln + 1), M) := by
          have eb : fc_X1_parse_11 pa 1 (nI ln) N1 = bn (f_X1_lineFollows pa N2) fun v8 M9 => some (.inl (v8, nI (ln + 1), M9)) := by
            simp only [fc_X1_parse_11, d.i33, Option.bind_some, hl, if_false, e10, cK, d.k2, if_true, l1, k2, el]
          rw [cK_ok (of_eq_true k2)]
          exact loopM_bn (k := fun v8 M9 => (v8, nI (ln + 1), M9)) eb
        rw [step]
        cases ho : lineR c L g (uN c L q) with
        | inl e =>
          obtain ⟨k', i⟩ := e
          have ce := l3.1 k' i ho
          rw [cK_ok (of_eq_true k2), ce.fol, bn_some]
          exact ⟨N2, lp_end (by omega) ce.i33, e2.trans l2, OutT.er ce⟩
        | inr y =>
          obtain ⟨g', q'⟩ := y
          have cg := l3.2 g' q' ho
          obtain ⟨w1, w2, w3⟩ := lineR_wf hw (by omega) b1.2.2 ho
          obtain ⟨N3, y1, y2, y3⟩ := ih (ln := ln + 1) (fuel := f) cg w1 (by omega) (by omega) (by omega) (by omega)
          exact ⟨N3, y1, (e2.trans l2).trans y2, y3⟩
      · obtain ⟨rfl, d⟩ := e5 t3 t0
        rw [cif_f t3]
        exact ⟨N1, lp_end (by omega) d.i33, e2, OutT.er d⟩
theorem RelP.some (h : WS N w p) : ∃ g, RelP N w p g := by
  refine ⟨fun q => if q = 0 then mI N 96 w else if q = 1 then mI N 97 w else if q = 2 then mI N 98 w else if q = 3 then mI N 99 w else if q < 10 then mA N (w + 3) (q - 4) else mA N (clo w p ((q - 10) / 132)) ((q - 10) % 132), h, ⟨rfl, rfl, rfl, rfl⟩, fun t ht _ i hi => ?_, fun j hj _ => ?_⟩
  · unfold row
    rw [bs_eq]
    dsimp only
    rw [if_neg (by omega), if_neg (by omega), if_neg (by omega), if_neg (by omega), if_neg (by omega), show (10 + 132 * t + i - 10) / 132 = t by omega, show (10 + 132 * t + i - 10) % 132 = i by omega]
  · dsimp only
    rw [if_neg (by omega), if_neg (by omega), if_neg (by omega), if_neg (by omega), if_pos (by omega), show 4 + j - 4 = j by omega]
theorem c_fline {z : GF} (hz : ∀ q, q < 1330 → z q = 0) (h : CG pa ta L w c p N g cur0) : ∃ N2, f_X1_runFirstLine pa N = some N2 ∧ FP w pa N N2 ∧ Out pa ta L w c p N2 (headR c L z) := by
  obtain ⟨N1, e1, e2, e3⟩ := h.next
  have h1 := e3.cs
  have W := c_isW e3 (i := 1) (by omega)
  unfold headR
  by_cases w1 : isW c L 1 cur0
  · rw [b01_t w1] at W
    rw [cif_t w1]
    have st : f_X1_runFirstLine pa N = fj_X1_runFirstLine_18 pa N1 := by
      simp only [f_X1_runFirstLine, cK, h.k2, h1.k2, if_true, e1, Option.bind_some, W, bn, e10, if_false]
    have key : ∃ N2, fj_X1_runFirstLine_18 pa N1 = some N2 ∧ FP w pa N1 N2 ∧ Out pa ta L w c p N2 (sb (numR c L (uN c L cur0) 1 4) fun a => sb (numR c L (uN c L (uN c L cur0)) 0 4) fun b => sb (numR c L (uN c L (uN c L (uN c L cur0))) 0 4) fun d => .inr (hdG z a b d, uN c L (uN c L (uN c L (uN c L cur0))))) := by
      unfold fj_X1_runFirstLine_18
      refine st_num h1 (fun a M1 n1 g1 => ?_) (fun v M1 k o he => ?_)
      · refine st_num g1 (fun b M2 n2 g2 => ?_) (fun v M2 k o he => ?_)
        · refine st_num g2 (fun d M3 n3 g3 => ?_) (fun v M3 k o he => ?_)
          · obtain ⟨M4, y1, y2, y3⟩ := X3_reset (a := a) (b := b) (c := d) g3.2.1.1 g3.2.2.2.2.1
            have k4 : (mK M3 w = 4) = True := eq_true g3.2.1.1.1.1
            refine ⟨M4, ?_, FP.fw y2, Out.ok ?_⟩
            · simp only [cK, g3.k2, g3.failed, bn, if_true, g3.wd, k4, Option.bind_some, y1, fj_X1_runFirstLine_56]
            · obtain ⟨⟨st, q1, q2, q3⟩, q4, q5⟩ := g3
              refine ⟨⟨st, q1.fw y2.1 q5, q2, q3⟩, y3 _ rfl rfl rfl (hz 3 (by omega)) (fun t ht i hi => ?_), q5.up y2.1.1⟩
              show hdG z a b d (bs t + i) = 0
              unfold hdG
              rw [bs_eq, if_neg (by omega), if_neg (by omega), if_neg (by omega), hz _ (by omega)]
          · simp only [cK, he.k2, he.failed, bn, if_true, e10, if_false, fj_X1_runFirstLine_56]
        · obtain ⟨v', e'⟩ := he.num 0 4
          simp only [cK, he.k2, e', he.failed, bn, if_true, e10, if_false, fj_X1_runFirstLine_56]
      · obtain ⟨v', e'⟩ := he.num 0 4
        simp only [cK, he.k2, e', he.failed, bn, if_true, e10, if_false, fj_X1_runFirstLine_56]
    obtain ⟨N2, y1, y2, y3⟩ := key
    exact ⟨N2, by rw [st]; exact y1, e2.trans y2, y3⟩
  · rw [b01_f w1] at W
    rw [cif_f w1]
    obtain ⟨N2, d1, d2, d3⟩ := e3.err (k := 1) (by decide)
    refine ⟨N2, ?_, e2.trans d2, Out.er d3⟩
    obtain ⟨v1, f1⟩ := d3.num 1 4
    obtain ⟨v2, f2⟩ := d3.num 0 4
    simp only [f_X1_runFirstLine, fj_X1_runFirstLine_18, fj_X1_runFirstLine_56, cK, h.k2, h1.k2, d3.k2, if_true, e1, Option.bind_some, W, bn, d1, f1, f2, d3.failed, e10, if_false]
theorem c_parse {z : GF} (hz : ∀ q, q < 1330 → z q = 0) (h : CG pa ta L w c p N g cur0) : ∃ N2, f_X1_parse pa N = some N2 ∧ FP w pa N N2 ∧ OutT pa ta L w c p N2 (textR c L z) := by
  obtain ⟨N1, e1, e2, e3⟩ := c_fline hz h
  have hL := h.le.2
  unfold textR
  cases ho : headR c L z with
  | inl e =>
    obtain ⟨k, i⟩ := e
    have ce := e3.1 k i ho
    refine ⟨N1, ?_, e2, OutT.er ce⟩
    simp only [f_X1_parse, cK, h.k2, if_true, e1, Option.bind_some, ce.k2, ce.fol, bn]
    exact lp_end (FUn (by omega)) ce.i33
  | inr y =>
    obtain ⟨g', q'⟩ := y
    have cg := e3.2 g' q' ho
    have wf := headR_wf hz ho
    obtain ⟨N2, y1, y2, y3⟩ := c_loop (L + 1) (ln := 0) (fuel := FU) cg wf.1 (by omega) (by omega) (by omega) (FUn (by omega))
    refine ⟨N2, ?_, e2.trans y2, y3⟩
    simp only [f_X1_parse, cK, h.k2, if_true, e1, Option.bind_some]
    exact y1
end CQ
