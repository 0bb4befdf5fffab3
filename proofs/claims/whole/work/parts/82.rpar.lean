/-! THE REFERENCE'S PARSER, in the words of what a text says -/
def RF (x : Nat) (N N' : Mem) : Prop := mK N' = mK N ∧ mN N' = mN N ∧ mR N' = mR N ∧ (∀ a, a ≠ x + 62 → mA N' a = mA N a) ∧ mB N' = mB N ∧ mL N' = mL N ∧ mZ N' = mZ N ∧ ∀ f a, ¬ (a = x + 60 ∧ 175 ≤ f) → mI N' f a = mI N f a
theorem RF.refl {x : Nat} {N : Mem} : RF x N N := ⟨rfl, rfl, rfl, fun _ _ => rfl, rfl, rfl, rfl, fun _ _ _ => rfl⟩
theorem RF.wI {x : Nat} {N : Mem} {f : Nat} {v : Int32} (h : 175 ≤ f) : RF x N (wI N f (x + 60) v) := ⟨rfl, rfl, rfl, fun _ _ => rfl, rfl, rfl, rfl, fun g a hn => by rw [mI_wI, if_neg (fun e => hn ⟨e.2, by rw [e.1]; exact h⟩)]⟩
theorem RF.wA {x : Nat} {N : Mem} {f : GF} : RF x N (Jvm.Pilot.COfflineNotesLaw_law_r8908_f384f3.wA N (x + 62) f) := ⟨rfl, rfl, rfl, fun a h => mA_ne h, rfl, rfl, rfl, fun g a hn => rfl⟩
theorem RI.rf {x : Nat} {N N' : Mem} (h : RI x N N') : RF x N N' := by
  obtain ⟨a1, a2, a3, a4, a5, a6, a7, a8⟩ := h
  exact ⟨a1, a2, a3, fun a _ => by rw [a4], a5, a6, a7, fun f a hn => a8 f a (fun e => hn ⟨e.1, e.2.1⟩)⟩
theorem RF.trans {x : Nat} {N N' N2 : Mem} (h : RF x N N') (k : RF x N' N2) : RF x N N2 := by
  obtain ⟨a1, a2, a3, a4, a5, a6, a7, a8⟩ := h
  obtain ⟨b1, b2, b3, b4, b5, b6, b7, b8⟩ := k
  exact ⟨b1.trans a1, b2.trans a2, b3.trans a3, fun a h => (b4 a h).trans (a4 a h), b5.trans a5, b6.trans a6, b7.trans a7, fun f a h => (b8 f a h).trans (a8 f a h)⟩
section RP
variable {x L : Nat} {c : GF} {N : Mem} {q : Cur} {g : GF}
theorem RB0.rf (h : RB0 x L c N) {N' : Mem} (r : RF x N N') : RB0 x L c N' := by
  obtain ⟨a1, a2, a3, a4, a5⟩ := h
  obtain ⟨k1, k2, k3, k4, k5, k6, k7, k8⟩ := r
  exact ⟨a1.same (fun i _ => ⟨by rw [k1], by rw [k2]⟩) (fun f i _ _ _ => by rw [k3]), by rw [k8 _ _ (by omega)]; exact a2, a3, by rw [k4 _ (by omega)]; exact a4, by rw [k4 _ (by omega)]; exact a5⟩
/-- goes well: q is the token before the one that is looked at; g: what is held -/
def RG (x L : Nat) (c : GF) (N : Mem) (g : GF) (q : Cur) : Prop := RB0 x L c N ∧ q.2 ≤ L ∧ RTok x N (uT c L q) (uS c L q) (uE c L q) c ∧ mI N 179 (x + 60) = 0 ∧ mA N (x + 62) = g
def RE (x L : Nat) (c : GF) (N : Mem) (k : Int32) (o : Nat) : Prop := RB0 x L c N ∧ k ≠ 0 ∧ mI N 179 (x + 60) = k ∧ mI N 180 (x + 60) = nI o
def OutR (x L : Nat) (c : GF) (N : Mem) (o : ER ⊕ (GF × Cur)) : Prop := (∀ k i, o = .inl (k, i) → RE x L c N k i) ∧ (∀ g' q', o = .inr (g', q') → RG x L c N g' q')
theorem OutR.er {k : Int32} {o : Nat} (h : RE x L c N k o) : OutR x L c N (.inl (k, o)) := ⟨fun k i e => (by cases e; exact h), fun g' q' e => by cases e⟩
theorem OutR.ok {g' : GF} {q' : Cur} (h : RG x L c N g' q') : OutR x L c N (.inr (g', q')) := ⟨fun k i e => (by cases e), fun g' q' e => by cases e; exact h⟩
theorem RG.k6 (h : RG x L c N g q) : (mK N (x + 60) = 6) = True := eq_true h.1.k6
theorem RE.k6 {k : Int32} {o : Nat} (h : RE x L c N k o) : (mK N (x + 60) = 6) = True := eq_true h.1.k6
theorem RG.next (h : RG x L c N g q) : ∃ N', f_X5_next (x + 60) N = some N' ∧ RF x N N' ∧ RG x L c N' g (uN c L q) := by
  obtain ⟨h1, h2, ⟨t1, t2, t3, t4⟩, h4, h5⟩ := h
  have b := uN_le (c := c) h2
  obtain ⟨N', a1, a2, a3⟩ := r_next h1 b.2.2 t1 t3
  exact ⟨N', a1, a2.rf, h1.ri a2, b.2.2, a3, by rw [a2.2.2.2.2.2.2.2 _ _ (by omega)]; exact h4, by rw [a2.2.2.2.1]; exact h5⟩
theorem RG.err (h : RG x L c N g q) {k : Int32} (hk : k ≠ 0) : ∃ N', f_X5_errs (x + 60) k N = some N' ∧ RF x N N' ∧ RE x L c N' k (uS c L q) := by
  obtain ⟨h1, h2, ⟨t1, t2, t3, t4⟩, h4, h5⟩ := h
  have r1 : RF x N (wI N 179 (x + 60) k) := RF.wI (by omega)
  have r2 : RF x N (wI (wI N 179 (x + 60) k) 180 (x + 60) (nI (uS c L q))) := r1.trans (RF.wI (by omega))
  refine ⟨_, ?_, r2, h1.rf r2, hk, ?_, ?_⟩
  · have e6 : mI (wI N 179 (x + 60) k) 176 (x + 60) = nI (uS c L q) := by rw [mI_wI, if_neg (by omega)]; exact t2
    simp only [f_X5_errs, fj_X5_errs_20, h1.gI, h4, Option.bind_some, if_true, h1.sI, (h1.rf r1).gI, e6, (h1.rf r1).sI]
  · rw [mI_wI, if_neg (by omega), mI_wI, if_pos ⟨rfl, rfl⟩]
  · rw [mI_wI, if_pos ⟨rfl, rfl⟩]
theorem RE.err {k : Int32} {o : Nat} (h : RE x L c N k o) {j : Int32} : f_X5_errs (x + 60) j N = some N := by
  simp only [f_X5_errs, fj_X5_errs_20, h.1.gI, h.2.2.1, Option.bind_some, h.2.1, if_false]
theorem RE.take {k : Int32} {o : Nat} (h : RE x L c N k o) {lo hi : Int32} : f_X5_takesNumber (x + 60) lo hi N = some (lo, N) := by
  simp only [f_X5_takesNumber, fj_X5_takesNumber_20, fj_X5_takesNumber_44, fj_X5_takesNumber_59, f_X5_goesOn, fj_X5_goesOn_11, h.1.gI, h.2.2.1, Option.bind_some, h.2.1, if_false, cK, h.1.k6, if_true]
theorem in_b01 {v lo hi : Int32} {M : Mem} : f_X5_in v lo hi M = some (b01 (lo ≤ v ∧ v ≤ hi), M) := by
  by_cases h1 : v < lo
  · rw [b01_f (fun e => Int32.not_lt.mpr e.1 h1)]; simp only [f_X5_in, fj_X5_in_14, fj_X5_in_15, h1, true_or, if_true]
  · by_cases h2 : hi < v
    · rw [b01_f (fun e => Int32.not_lt.mpr e.2 h2)]; simp only [f_X5_in, fj_X5_in_14, fj_X5_in_15, h1, h2, true_or, if_true, if_false]
    · rw [b01_t ⟨Int32.not_lt.mp h1, Int32.not_lt.mp h2⟩]; simp only [f_X5_in, fj_X5_in_15, h1, h2, or_true, if_true, if_false]
theorem r_take (h : RG x L c N g q) {lo hi : Int32} : ∃ v N', f_X5_takesNumber (x + 60) lo hi N = some (v, N') ∧ RF x N N' ∧ (∀ k o, numR c L q lo hi = .inl (k, o) → RE x L c N' k o) ∧ (∀ u, numR c L q lo hi = .inr u → u = v ∧ RG x L c N' g (uN c L q)) := by
  obtain ⟨N1, e1, e2, e3⟩ := h.next
  obtain ⟨h1, h2, ⟨t1, t2, t3, t4⟩, h4, h5⟩ := id h
  have fz : ∀ {M k o}, RE x L c M k o → fj_X5_takesNumber_44 (x + 60) lo M = some (lo, M) := fun {M k o} he => by
    simp only [fj_X5_takesNumber_44, fj_X5_takesNumber_59, f_X5_goesOn, fj_X5_goesOn_11, he.1.gI, he.2.2.1, Option.bind_some, he.2.1, if_false, cK, he.1.k6, if_true]
  by_cases c2 : uT c L q = 2
  · have ev := t4 c2
    by_cases r : lo ≤ uV c L q ∧ uV c L q ≤ hi
    · refine ⟨uV c L q, N1, ?_, e2, fun k o e => ?_, fun u e => ⟨(numR_inr e).2.2.2, e3⟩⟩
      · have hv : mI N 178 (x + 60) = uV c L q := ev
        simp only [f_X5_takesNumber, fj_X5_takesNumber_20, fj_X5_takesNumber_44, fj_X5_takesNumber_59, f_X5_goesOn, fj_X5_goesOn_11, h1.gI, h4, t1, c2, hv, Option.bind_some, if_true, in_b01, b01_t r, bn, e10, if_false, cK, h1.k6, e1]
      · unfold numR at e; rw [cif_t c2, cif_t r] at e; cases e
    · obtain ⟨N2, d1, d2, d3⟩ := h.err (k := 2) (by decide)
      refine ⟨lo, N2, ?_, d2, fun k o e => ?_, fun u e => absurd ⟨(by rw [← (numR_inr e).2.2.2]; exact (numR_inr e).2.1), (by rw [← (numR_inr e).2.2.2]; exact (numR_inr e).2.2.1)⟩ r⟩
      · have hv : mI N 178 (x + 60) = uV c L q := ev
        simp only [f_X5_takesNumber, fj_X5_takesNumber_20, h1.gI, h4, t1, c2, hv, Option.bind_some, if_true, in_b01, b01_f r, bn, cK, h1.k6, d1, fz d3]
      · unfold numR at e; rw [cif_t c2, cif_f r] at e; cases e; exact d3
  · obtain ⟨N2, d1, d2, d3⟩ := h.err (k := 1) (by decide)
    refine ⟨lo, N2, ?_, d2, fun k o e => ?_, fun u e => absurd (numR_inr e).1 c2⟩
    · simp only [f_X5_takesNumber, fj_X5_takesNumber_20, h1.gI, h4, t1, c2, Option.bind_some, if_true, if_false, cK, h1.k6, d1, d3.1.gI, d3.2.2.1, d3.2.1, fz d3]
    · unfold numR at e; rw [cif_f c2] at e; cases e; exact d3
theorem RB0.r162 (h : RB0 x L c N) : gRn 6 162 (x + 60) N = some (x + 62) := gRn_ok h.k6 h.1.2.2.2.2.2.2.1.2.2.1
theorem RB0.now (h : RB0 x L c N) {i : Nat} (hi : i < 1594) : gA 9 (x + 62) (nI i) N = some (mA N (x + 62) i) := by
  have b := h.1.rn
  unfold gA
  rw [if_pos ⟨b.2.2.1, by rw [b.2.2.2, inT (by omega) (by omega)]; exact not_false⟩, nI_cl (by omega)]
theorem RB0.now0 (h : RB0 x L c N) : gA 9 (x + 62) 0 N = some (mA N (x + 62) 0) := h.now (i := 0) (by omega)
theorem RB0.now1 (h : RB0 x L c N) : gA 9 (x + 62) 1 N = some (mA N (x + 62) 1) := h.now (i := 1) (by omega)
theorem RB0.now2 (h : RB0 x L c N) : gA 9 (x + 62) 2 N = some (mA N (x + 62) 2) := h.now (i := 2) (by omega)
theorem RB0.now3 (h : RB0 x L c N) : gA 9 (x + 62) 3 N = some (mA N (x + 62) 3) := h.now (i := 3) (by omega)
/-- a number is taken, and what follows -/
theorem st_take (h : RG x L c N g q) {K : Int32 → Mem → Option Mem} {sp : Int32 → ER ⊕ (GF × Cur)} {lo hi : Int32}
    (hk : ∀ v N', numR c L q lo hi = .inr v → RG x L c N' g (uN c L q) → ∃ N2, K v N' = some N2 ∧ RF x N' N2 ∧ OutR x L c N2 (sp v))
    (hf : ∀ v N' k o, RE x L c N' k o → ∃ N2, K v N' = some N2 ∧ RF x N' N2 ∧ RE x L c N2 k o) : ∃ N2, bn (cK 6 (x + 60) N (f_X5_takesNumber (x + 60) lo hi N)) K = some N2 ∧ RF x N N2 ∧ OutR x L c N2 (sb (numR c L q lo hi) sp) := by
  obtain ⟨v, N1, e1, e2, e3, e4⟩ := r_take h (lo := lo) (hi := hi)
  rw [cK_ok h.1.k6, e1, bn_some]
  cases hn : numR c L q lo hi with
  | inl e =>
    obtain ⟨k, o⟩ := e
    obtain ⟨N2, y1, y2, y3⟩ := hf v N1 k o (e3 k o hn)
    exact ⟨N2, y1, e2.trans y2, OutR.er y3⟩
  | inr u =>
    obtain ⟨rfl, d⟩ := e4 u hn
    obtain ⟨N2, k1, k2, k3⟩ := hk u N1 hn d
    exact ⟨N2, k1, e2.trans k2, k3⟩
theorem takesR_eq (h : RB0 x L c N) {K : Int32 → Mem → Option Mem} : bn (cK 6 (x + 60) N (f_X5_takesReplica (x + 60) N)) K = bn (cK 6 (x + 60) N (f_X5_takesNumber (x + 60) 0 (mA N (x + 62) 0 - 1) N)) K := by
  rw [cK_ok h.k6, cK_ok h.k6]
  simp only [f_X5_takesReplica, h.r162, h.now0, Option.bind_some, cK, h.k6, if_true]
  cases f_X5_takesNumber (x + 60) 0 (mA N (x + 62) 0 - 1) N <;> rfl
theorem RE.takeR {k : Int32} {o : Nat} (h : RE x L c N k o) {K : Int32 → Mem → Option Mem} : bn (cK 6 (x + 60) N (f_X5_takesReplica (x + 60) N)) K = K 0 N := by
  rw [takesR_eq h.1, cK_ok h.1.k6, h.take, bn_some]
theorem st_takeR (h : RG x L c N g q) {K : Int32 → Mem → Option Mem} {sp : Int32 → ER ⊕ (GF × Cur)}
    (hk : ∀ v N', numR c L q 0 (g 0 - 1) = .inr v → RG x L c N' g (uN c L q) → ∃ N2, K v N' = some N2 ∧ RF x N' N2 ∧ OutR x L c N2 (sp v))
    (hf : ∀ v N' k o, RE x L c N' k o → ∃ N2, K v N' = some N2 ∧ RF x N' N2 ∧ RE x L c N2 k o) : ∃ N2, bn (cK 6 (x + 60) N (f_X5_takesReplica (x + 60) N)) K = some N2 ∧ RF x N N2 ∧ OutR x L c N2 (sb (numR c L q 0 (g 0 - 1)) sp) := by
  rw [takesR_eq h.1, h.2.2.2.2]
  exact st_take h hk hf
theorem r_tag (h : RG x L c N g q) : ∃ v N', f_X5_tagHere (x + 60) N = some (v, N') ∧ RF x N N' ∧ (∀ k o, tagR c L q = .inl (k, o) → RE x L c N' k o) ∧ (∀ u, tagR c L q = .inr u → u = v ∧ N' = N) := by
  obtain ⟨h1, h2, ⟨t1, t2, t3, t4⟩, h4, h5⟩ := id h
  have b := uN_le (c := c) h2
  have bE : uE c L q ≤ L := b.2.2
  have L6 := h1.2.2.1
  have sub : nI (uE c L q) - nI (uS c L q) = nI (uE c L q - uS c L q) := nI_sub b.2.1
  obtain ⟨N2, d1, d2, d3⟩ := h.err (k := 1) (by decide)
  have f42 : fj_X5_tagHere_42 (x + 60) N = some (0, N2) := by
    simp only [fj_X5_tagHere_42, fj_X5_tagHere_47, fj_X5_tagHere_70, cK, h1.k6, if_true, d1, Option.bind_some, d3.1.gI, d3.2.2.1, d3.2.1, if_false]
  have bad : ¬ (uT c L q = 1 ∧ uE c L q - uS c L q = 1 ∧ c (uS c L q) < 113) → f_X5_tagHere (x + 60) N = some (0, N2) → ∃ v N', f_X5_tagHere (x + 60) N = some (v, N') ∧ RF x N N' ∧ (∀ k o, tagR c L q = .inl (k, o) → RE x L c N' k o) ∧ (∀ u, tagR c L q = .inr u → u = v ∧ N' = N) := fun hn e => by
    refine ⟨0, N2, e, d2, fun k o e => ?_, fun u e => absurd (tagR_inr e).1 hn⟩
    unfold tagR at e
    rw [cif_f hn] at e; cases e; exact d3
  by_cases c1 : uT c L q = 1
  · obtain ⟨hlt, hty⟩ := uT_w (Or.inl c1)
    rw [c1] at hty
    have eb : bq (c (uS c L q)) = c (uS c L q) := (h1.bqf hlt).2.2.2.2 (Or.inl hty)
    by_cases c2 : uE c L q - uS c L q = 1
    · have one : (nI 1 = 1) = True := eq_true rfl
      by_cases c3 : c (uS c L q) < 113
      · have le : (c (uS c L q) ≤ 112) = True := eq_true (by
          rw [i32_lt] at c3; rw [i32_le]
          have e113 : (113 : Int32).toInt = 113 := rfl
          have e112 : (112 : Int32).toInt = 112 := rfl
          omega)
        refine ⟨c (uS c L q) - 97, N, ?_, RF.refl, fun k o e => ?_, fun u e => ⟨(tagR_inr e).2, rfl⟩⟩
        · simp only [f_X5_tagHere, fj_X5_tagHere_47, fj_X5_tagHere_70, h1.gI, h4, t1, c1, t2, t3, sub, c2, one, Option.bind_some, if_true, h1.r168, h1.byt hlt, eb, le]
        · unfold tagR at e; rw [cif_t ⟨c1, c2, c3⟩] at e; cases e
      · have le : (c (uS c L q) ≤ 112) = False := eq_false (by
          rw [i32_lt] at c3; rw [i32_le]
          have e113 : (113 : Int32).toInt = 113 := rfl
          have e112 : (112 : Int32).toInt = 112 := rfl
          omega)
        refine bad (fun e => c3 e.2.2) ?_
        simp only [f_X5_tagHere, h1.gI, h4, t1, c1, t2, t3, sub, c2, one, Option.bind_some, if_true, h1.r168, h1.byt hlt, eb, le, if_false, f42]
    · refine bad (fun e => c2 e.2.1) ?_
      have : (nI (uE c L q - uS c L q) = 1) = False := nI_eqF (b := 1) c2 (by omega) (by omega)
      simp only [f_X5_tagHere, h1.gI, h4, t1, c1, t2, t3, sub, this, Option.bind_some, if_true, if_false, f42]
  · refine bad (fun e => c1 e.1) ?_
    simp only [f_X5_tagHere, h1.gI, h4, t1, c1, Option.bind_some, if_true, if_false, f42]
theorem RE.tag {k : Int32} {o : Nat} (h : RE x L c N k o) : f_X5_tagHere (x + 60) N = some (0, N) := by
  simp only [f_X5_tagHere, fj_X5_tagHere_47, fj_X5_tagHere_70, h.1.gI, h.2.2.1, Option.bind_some, h.2.1, if_false]
theorem st_tagH (h : RG x L c N g q) {K : Int32 → Mem → Option Mem} {sp : Int32 → ER ⊕ (GF × Cur)}
    (hk : ∀ v, tagR c L q = .inr v → ∃ N2, K v N = some N2 ∧ RF x N N2 ∧ OutR x L c N2 (sp v))
    (hf : ∀ v N' k o, RE x L c N' k o → ∃ N2, K v N' = some N2 ∧ RF x N' N2 ∧ RE x L c N2 k o) : ∃ N2, bn (cK 6 (x + 60) N (f_X5_tagHere (x + 60) N)) K = some N2 ∧ RF x N N2 ∧ OutR x L c N2 (sb (tagR c L q) sp) := by
  obtain ⟨v, N1, e1, e2, e3, e4⟩ := r_tag h
  rw [cK_ok h.1.k6, e1, bn_some]
  cases hn : tagR c L q with
  | inl e =>
    obtain ⟨k, o⟩ := e
    obtain ⟨N2, y1, y2, y3⟩ := hf v N1 k o (e3 k o hn)
    exact ⟨N2, y1, e2.trans y2, OutR.er y3⟩
  | inr u =>
    obtain ⟨rfl, rfl⟩ := e4 u hn
    exact hk u hn
/-- what is held changes -/
theorem RG.put (h : RG x L c N g q) {g' : GF} : RF x N (wA N (x + 62) g') ∧ RG x L c (wA N (x + 62) g') g' q := ⟨RF.wA, h.1.rf RF.wA, h.2.1, h.2.2.1, h.2.2.2.1, wA_self _ _ _⟩
theorem RG.eqN (h : RG x L c N g q) : wA N (x + 62) g = N := by rw [← h.2.2.2.2, wA_id]
theorem r_cnt (h : RG x L c N g q) {k : Nat} (hw : Wf k g) {up : Int32} {part : Nat} (hp : (up = 1 ∧ part = 4) ∨ (up = 0 ∧ part = 20)) : ∃ N2, f_X5_readsCount (x + 60) up N = some N2 ∧ RF x N N2 ∧ OutR x L c N2 (lCnt c L part g (uN c L q)) := by
  obtain ⟨⟨R, C, Q, m, d1, d2, d3, d4, x1, x2, x3, x4, x5⟩, hr⟩ := id hw
  obtain ⟨N0, e1, e2, h0⟩ := h.next
  unfold lCnt
  simp only [f_X5_readsCount, cK, h.k6, h0.k6, if_true, e1, Option.bind_some]
  have key := st_takeR h0 (K := fun v3 M4 => (gRn 6 162 (x + 60) M4).bind fun v5 => (gA 9 v5 1 M4).bind fun v6 => bn (cK 6 (x + 60) M4 (f_X5_takesNumber (x + 60) 0 (v6 - 1) M4)) fun v7 M8 => bn (cK 6 (x + 60) M8 (f_X5_takesNumber (x + 60) 1 99 M8)) fun v9 M10 => (gI 6 179 (x + 60) M10).bind fun v11 => (if v11 = 0 then (gRn 6 162 (x + 60) M10).bind fun v12 => (if up = 0 then bn (f_X5_less v3 v7 v3 M10) fun v13 M14 => fj_X5_readsCount_62 v9 v12 v13 M14 else bn (f_X5_more v3 v7 v3 M10) fun v17 M18 => fj_X5_readsCount_62 v9 v12 v17 M18) else fj_X5_readsCount_68 M10)) (sp := fun r => sb (numR c L (uN c L (uN c L q)) 0 (g 1 - 1)) fun k => sb (numR c L (uN c L (uN c L (uN c L q))) 1 99) fun a => .inr (cntG g part (tn r) (tn k) a, uN c L (uN c L (uN c L (uN c L q))))) (fun r N1 n1 h1 => ?_) (fun v N1 k o he => ?_)
  · obtain ⟨N2, a1, a2, a3⟩ := key
    refine ⟨N2, ?_, e2.trans a2, a3⟩
    rw [← a1, cK_ok h0.1.k6]
  · simp only [h1.1.r162, h1.1.now1, Option.bind_some]
    rw [h1.2.2.2.2]
    refine st_take h1 (fun s N2 n2 h2 => ?_) (fun v N2 k o he => ?_)
    · refine st_take h2 (fun a N3 n3 h3 => ?_) (fun v N3 k o he => ?_)
      · rw [d1] at n1; rw [d2] at n2
        obtain ⟨r, hr1, rfl⟩ := num_ix (by omega) n1
        obtain ⟨s, hs1, rfl⟩ := num_ix (by omega) n2
        rw [tn_nI (by omega), tn_nI (by omega)]
        obtain ⟨y1, y2⟩ := h3.put (g' := cntG g part r s a)
        refine ⟨_, ?_, y1, OutR.ok y2⟩
        have hb := bs_le (t := r) (by omega)
        have fin : fj_X5_readsCount_62 a (x + 62) (nI (bs r + (part + (4 * s + r)))) N3 = some (wA N3 (x + 62) (cntG g part r s a)) := by
          have hi : bs r + (part + (4 * s + r)) < 1594 := by omega
          have b := h3.1.1.rn
          have ea := h3.1.now hi
          rw [h3.2.2.2.2] at ea
          unfold fj_X5_readsCount_62
          rw [ea, Option.bind_some, sA_w, if_pos ⟨b.2.2.1, by rw [b.2.2.2, inT (by omega) (by omega)]; exact not_false⟩, nI_cl (by omega), Option.bind_some]
          unfold fj_X5_readsCount_68 cntG
          rw [h3.2.2.2.2, ← u1_g (show part + (4 * s + r) < 132 by omega)]
          rfl
        rcases hp with ⟨rfl, rfl⟩ | ⟨rfl, rfl⟩
        · simp only [h3.1.gI, h3.2.2.2.1, Option.bind_some, if_true, h3.1.r162, e10, if_false, X5_more, bn]
          exact fin
        · simp only [h3.1.gI, h3.2.2.2.1, Option.bind_some, if_true, h3.1.r162, X5_less, bn]
          exact fin
      · exact ⟨N3, by simp only [he.1.gI, he.2.2.1, Option.bind_some, he.2.1, if_false, fj_X5_readsCount_68], RF.refl, he⟩
    · exact ⟨N2, by simp only [cK, he.k6, if_true, he.take, bn, he.1.gI, he.2.2.1, Option.bind_some, he.2.1, if_false, fj_X5_readsCount_68], RF.refl, he⟩
  · exact ⟨N1, by simp only [he.1.r162, he.1.now1, Option.bind_some, cK, he.k6, if_true, he.take, bn, he.1.gI, he.2.2.1, he.2.1, if_false, fj_X5_readsCount_68], RF.refl, he⟩
theorem r_wri (h : RG x L c N g q) {k : Nat} (hw : Wf k g) : ∃ N2, f_X5_readsWrite (x + 60) N = some N2 ∧ RF x N N2 ∧ OutR x L c N2 (lWri c L g (uN c L q)) := by
  obtain ⟨⟨R, C, Q, m, d1, d2, d3, d4, x1, x2, x3, x4, x5⟩, hr⟩ := id hw
  obtain ⟨N0, e1, e2, h0⟩ := h.next
  unfold lWri
  unfold f_X5_readsWrite
  rw [cK_ok h.1.k6, e1, Option.bind_some]
  refine (fun ⟨N2, a1, a2, a3⟩ => ⟨N2, a1, e2.trans a2, a3⟩ : _ → _) (st_takeR h0 (fun r N1 n1 h1 => ?_) (fun v N1 k o he => ?_))
  · simp only [h1.1.r162, h1.1.now2, Option.bind_some]
    rw [h1.2.2.2.2]
    refine st_take h1 (fun s N2 n2 h2 => ?_) (fun v N2 k o he => ?_)
    · refine st_take h2 (fun a N3 n3 h3 => ?_) (fun v N3 k o he => ?_)
      · rw [d1] at n1; rw [d3] at n2
        obtain ⟨r, hr1, rfl⟩ := num_ix (by omega) n1
        obtain ⟨s, hs1, rfl⟩ := num_ix (by omega) n2
        rw [tn_nI (by omega), tn_nI (by omega)]
        obtain ⟨y1, y2⟩ := h3.put (g' := put g r (newN (row g r) (100 + 4 * s) r a 4))
        have op := X5_writesValue (g := g) (i := s) (v := a) h3.1.1.rn (t := r) (by omega) (by omega)
        rw [h3.eqN] at op
        exact ⟨_, by simp only [h3.1.gI, h3.2.2.2.1, Option.bind_some, if_true, cK, h3.k6, op, bn, fj_X5_readsWrite_47], y1, OutR.ok y2⟩
      · exact ⟨N3, by simp only [he.1.gI, he.2.2.1, Option.bind_some, he.2.1, if_false, fj_X5_readsWrite_47], RF.refl, he⟩
    · exact ⟨N2, by simp only [cK, he.k6, if_true, he.take, bn, he.1.gI, he.2.2.1, Option.bind_some, he.2.1, if_false, fj_X5_readsWrite_47], RF.refl, he⟩
  · exact ⟨N1, by simp only [he.1.r162, he.1.now2, Option.bind_some, cK, he.k6, if_true, he.take, bn, he.1.gI, he.2.2.1, he.2.1, if_false, fj_X5_readsWrite_47], RF.refl, he⟩
theorem r_mer (h : RG x L c N g q) {k : Nat} (hw : Wf k g) : ∃ N2, f_X5_readsMerge (x + 60) N = some N2 ∧ RF x N N2 ∧ OutR x L c N2 (lMer c L g (uN c L q)) := by
  obtain ⟨⟨R, C, Q, m, d1, d2, d3, d4, x1, x2, x3, x4, x5⟩, hr⟩ := id hw
  obtain ⟨N0, e1, e2, h0⟩ := h.next
  unfold lMer
  unfold f_X5_readsMerge
  rw [cK_ok h.1.k6, e1, Option.bind_some]
  refine (fun ⟨N2, a1, a2, a3⟩ => ⟨N2, a1, e2.trans a2, a3⟩ : _ → _) (st_takeR h0 (fun r N1 n1 h1 => ?_) (fun v N1 k o he => ?_))
  · refine st_takeR h1 (fun s N2 n2 h2 => ?_) (fun v N2 k o he => ?_)
    · rw [d1] at n1 n2
      obtain ⟨r, hr1, rfl⟩ := num_ix (by omega) n1
      obtain ⟨s, hs1, rfl⟩ := num_ix (by omega) n2
      rw [tn_nI (by omega), tn_nI (by omega)]
      obtain ⟨y1, y2⟩ := h2.put (g' := put g r (absR (row g r) (row g s)))
      have op := X5_merges (g := g) h2.1.1.rn (t := r) (by omega) (u := s) (by omega)
      rw [h2.eqN] at op
      exact ⟨_, by simp only [h2.1.gI, h2.2.2.2.1, Option.bind_some, if_true, cK, h2.k6, op, fj_X5_readsMerge_27], y1, OutR.ok y2⟩
    · exact ⟨N2, by simp only [he.1.gI, he.2.2.1, Option.bind_some, he.2.1, if_false, fj_X5_readsMerge_27], RF.refl, he⟩
  · exact ⟨N1, by rw [he.takeR]; simp only [he.1.gI, he.2.2.1, Option.bind_some, he.2.1, if_false, fj_X5_readsMerge_27], RF.refl, he⟩
theorem r_del (h : RG x L c N g q) {k : Nat} (hw : Wf k g) : ∃ N2, f_X5_readsDeliver (x + 60) N = some N2 ∧ RF x N N2 ∧ OutR x L c N2 (lDel c L g (uN c L q)) := by
  obtain ⟨⟨R, C, Q, m, d1, d2, d3, d4, x1, x2, x3, x4, x5⟩, hr⟩ := id hw
  obtain ⟨N0, e1, e2, h0⟩ := h.next
  unfold lDel
  unfold f_X5_readsDeliver
  rw [cK_ok h.1.k6, e1, Option.bind_some, h0.1.r162, Option.bind_some, h0.1.now3, Option.bind_some, h0.2.2.2.2]
  refine (fun ⟨N2, a1, a2, a3⟩ => ⟨N2, a1, e2.trans a2, a3⟩ : _ → _) (st_take h0 (fun s N1 n1 h1 => ?_) (fun v N1 k o he => ?_))
  · refine st_takeR h1 (fun r N2 n2 h2 => ?_) (fun v N2 k o he => ?_)
    · rw [d4] at n1; rw [d1] at n2
      obtain ⟨s, hs1, rfl⟩ := num_ix (by omega) n1
      obtain ⟨r, hr1, rfl⟩ := num_ix (by omega) n2
      rw [tn_nI (by omega), tn_nI (by omega)]
      obtain ⟨y1, y2⟩ := h2.put (g' := put g r (absR (row g r) (row g (4 + s))))
      have op := X5_merges (g := g) h2.1.1.rn (t := r) (by omega) (u := 4 + s) (by omega)
      rw [h2.eqN] at op
      have e4 : (4 : Int32) + nI s = nI (4 + s) := nI_add 4 s
      exact ⟨_, by simp only [h2.1.gI, h2.2.2.2.1, Option.bind_some, if_true, cK, h2.k6, e4, op, fj_X5_readsDeliver_38], y1, OutR.ok y2⟩
    · exact ⟨N2, by simp only [he.1.gI, he.2.2.1, Option.bind_some, he.2.1, if_false, fj_X5_readsDeliver_38], RF.refl, he⟩
  · exact ⟨N1, by rw [he.takeR]; simp only [he.1.gI, he.2.2.1, Option.bind_some, he.2.1, if_false, fj_X5_readsDeliver_38], RF.refl, he⟩
theorem r_add (h : RG x L c N g q) {k : Nat} (hw : Wf k g) : ∃ N2, f_X5_readsTag (x + 60) 1 N = some N2 ∧ RF x N N2 ∧ OutR x L c N2 (lAdd c L g (uN c L q)) := by
  obtain ⟨⟨R, C, Q, m, d1, d2, d3, d4, x1, x2, x3, x4, x5⟩, hr⟩ := id hw
  obtain ⟨N0, e1, e2, h0⟩ := h.next
  unfold lAdd
  unfold f_X5_readsTag
  rw [cK_ok h.1.k6, e1, Option.bind_some]
  refine (fun ⟨N2, a1, a2, a3⟩ => ⟨N2, a1, e2.trans a2, a3⟩ : _ → _) (st_takeR h0 (fun r N1 n1 h1 => ?_) (fun v N1 k o he => ?_))
  · refine st_tagH h1 (fun t n2 => ?_) (fun v N2 k o he => ?_)
    · rw [d1] at n1
      obtain ⟨r, hr1, rfl⟩ := num_ix (by omega) n1
      obtain ⟨t, ht1, rfl⟩ := tag_ix n2
      rw [tn_nI (by omega), tn_nI (by omega)]
      obtain ⟨y1, y2⟩ := h1.put (g' := put g r (newN (row g r) (36 + 4 * t) r 0 4))
      have op := X5_adds (g := g) h1.1.1.rn (t := r) (by omega) (i := t) (by omega)
      rw [h1.eqN] at op
      obtain ⟨N3, z1, z2, z3⟩ := y2.next
      exact ⟨N3, by simp only [fj_X5_readsTag_39, fj_X5_readsTag_65, fj_X5_readsTag_71, h1.1.gI, h1.2.2.2.1, Option.bind_some, if_true, e10, if_false, cK, h1.k6, op, bn, y2.k6, z1], y1.trans z2, OutR.ok z3⟩
    · exact ⟨N2, by simp only [fj_X5_readsTag_39, fj_X5_readsTag_71, he.1.gI, he.2.2.1, Option.bind_some, he.2.1, if_false], RF.refl, he⟩
  · exact ⟨N1, by simp only [fj_X5_readsTag_39, fj_X5_readsTag_71, cK, he.k6, if_true, he.tag, bn, he.1.gI, he.2.2.1, Option.bind_some, he.2.1, if_false], RF.refl, he⟩
theorem r_rem2 (h : RG x L c N g q) {k : Nat} (hw : Wf k g) : ∃ N2, f_X5_readsTag (x + 60) 0 N = some N2 ∧ RF x N N2 ∧ OutR x L c N2 (lRem c L g (uN c L q)) := by
  obtain ⟨⟨R, C, Q, m, d1, d2, d3, d4, x1, x2, x3, x4, x5⟩, hr⟩ := id hw
  obtain ⟨N0, e1, e2, h0⟩ := h.next
  unfold lRem
  unfold f_X5_readsTag
  rw [cK_ok h.1.k6, e1, Option.bind_some]
  refine (fun ⟨N2, a1, a2, a3⟩ => ⟨N2, a1, e2.trans a2, a3⟩ : _ → _) (st_takeR h0 (fun r N1 n1 h1 => ?_) (fun v N1 k o he => ?_))
  · refine st_tagH h1 (fun t n2 => ?_) (fun v N2 k o he => ?_)
    · rw [d1] at n1
      obtain ⟨r, hr1, rfl⟩ := num_ix (by omega) n1
      obtain ⟨t, ht1, rfl⟩ := tag_ix n2
      rw [tn_nI (by omega), tn_nI (by omega)]
      have lv := X5_live (g := g) h1.1.1.rn (t := r) (by omega) (i := t) (by omega)
      rw [h1.eqN] at lv
      have hl := lve_lt (row g r) (36 + 4 * t)
      by_cases z : lve (row g r) (36 + 4 * t) = 0
      · rw [if_pos z]
        obtain ⟨N3, f1, f2, f3⟩ := h1.err (k := 3) (by decide)
        have z0 : (nI (lve (row g r) (36 + 4 * t)) = 0) = True := eq_true (by rw [z]; rfl)
        exact ⟨N3, by simp only [fj_X5_readsTag_39, fj_X5_readsTag_71, h1.1.gI, h1.2.2.2.1, Option.bind_some, if_true, cK, h1.k6, lv, bn, z0, f1, f3.1.gI, f3.2.2.1, f3.2.1, if_false], f2, OutR.er f3⟩
      · rw [if_neg z]
        have z0 : (nI (lve (row g r) (36 + 4 * t)) = 0) = False := nI_eqF (b := 0) z (by omega) (by omega)
        obtain ⟨y1, y2⟩ := h1.put (g' := put g r (zap (row g r) (36 + 4 * t) 4))
        have op := X5_removes (g := g) h1.1.1.rn (t := r) (by omega) (i := t) (by omega)
        rw [h1.eqN] at op
        obtain ⟨N3, z1, z2, z3⟩ := y2.next
        exact ⟨N3, by simp only [fj_X5_readsTag_39, fj_X5_readsTag_65, fj_X5_readsTag_71, h1.1.gI, h1.2.2.2.1, Option.bind_some, if_true, z0, if_false, cK, h1.k6, lv, op, bn, y2.k6, z1], y1.trans z2, OutR.ok z3⟩
    · exact ⟨N2, by simp only [fj_X5_readsTag_39, fj_X5_readsTag_71, he.1.gI, he.2.2.1, Option.bind_some, he.2.1, if_false], RF.refl, he⟩
  · exact ⟨N1, by simp only [fj_X5_readsTag_39, fj_X5_readsTag_71, cK, he.k6, if_true, he.tag, bn, he.1.gI, he.2.2.1, Option.bind_some, he.2.1, if_false], RF.refl, he⟩
end RP
