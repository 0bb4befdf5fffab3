/-! THE REFERENCE'S PARSER: words, lines, the loop, the text -/
theorem key_tab : ∀ i : Fin 9, ∀ j : Fin 8, keyF (8 * i.val + j.val) = (if j.val < sLEN.getD (i.val + 1) 0 then jByt (i.val + 1) j.val else 0) ∧ (j.val < sLEN.getD (i.val + 1) 0 → ¬ jByt (i.val + 1) j.val = 0) := by decide +kernel
theorem key_len : ∀ i : Fin 9, sLEN.getD (i.val + 1) 0 ≤ 8 ∧ 0 < sLEN.getD (i.val + 1) 0 := by decide +kernel
theorem loopM_one {S X : Type} {body : S → Option (S ⊕ X)} {f : Nat} {s s' : S} (h : body s = some (.inl s')) : loopM body (f + 1) s = loopM body f s' := by
  conv => lhs; unfold loopM
  rw [h]
theorem loopM_fin {S X : Type} {body : S → Option (S ⊕ X)} {f : Nat} {s : S} {y : X} (h : body s = some (.inr y)) : loopM body (f + 1) s = some y := by
  unfold loopM
  rw [h]
section RK
variable {x L : Nat} {c : GF} {N : Mem} {q : Cur} {g : GF}
noncomputable def lt (c : GF) (L : Nat) (q : Cur) (j : Nat) : Int32 := @ite Int32 (uE c L q - uS c L q ≤ j) (Nat.decLe _ _) 0 (bq (c (uS c L q + j)))
theorem r_isKey (h : RG x L c N g q) {i : Nat} (hi : i < 9) : f_X5_isKey (x + 60) (nI i) N = some (b01 (isW c L (i + 1) q), N) := by
  obtain ⟨h1, h2, ⟨t1, t2, t3, t4⟩, h4, h5⟩ := id h
  have b := uN_le (c := c) h2
  have bE : uE c L q ≤ L := b.2.2
  have L6 := h1.2.2.1
  have sub : nI (uE c L q) - nI (uS c L q) = nI (uE c L q - uS c L q) := nI_sub b.2.1
  have kl := key_len ⟨i, hi⟩
  have kt := fun j (hj : j < 8) => key_tab ⟨i, hi⟩ ⟨j, hj⟩
  dsimp only at kl kt
  by_cases c1 : uT c L q = 1
  · have lw : ∀ j, uS c L q + j < uE c L q → bq (c (uS c L q + j)) = c (uS c L q + j) ∧ ¬ c (uS c L q + j) = 0 := fun j hj => by
      have ht := uT_all (Or.inl c1) (j := uS c L q + j) (Nat.le_add_right _ _) hj
      rw [c1] at ht
      refine ⟨(h1.bqf (by omega)).2.2.2.2 (Or.inl ht), fun e => ?_⟩
      have := (typ_1 ht).1
      rw [e] at this
      exact absurd this (by decide)
    by_cases c2 : uE c L q - uS c L q ≤ 8
    · have l8 : (nI (uE c L q - uS c L q) ≤ 8) = True := eq_true (nI_le (b := 8) c2 (by omega))
      have lp : fj_X5_isKey_26 (x + 60) (nI i) 0 N = some (b01 (isW c L (i + 1) q), N) := by
        haveI : DecidablePred (fun j => ¬ lt c L q j = keyF (8 * i + j)) := fun _ => Classical.propDecidable _
        have rk : gRn 6 160 (x + 60) N = some (x + 61) := gRn_ok h1.k6 h1.1.2.2.2.2.2.2.1.2.1
        have kb := h1.1.2.2.2.2.2.2.2.1.1
        have gk : ∀ j, j < 8 → gA 9 (x + 61) (8 * nI i + nI j) N = some (keyF (8 * i + j)) := fun j hj => by
          have e : 8 * nI i + nI j = nI (8 * i + j) := by rw [show (8 : Int32) = nI 8 from rfl, nI_mul, nI_add]
          unfold gA
          rw [e, if_pos ⟨kb.1, by rw [kb.2, inT (by omega) (by omega)]; exact not_false⟩, nI_cl (by omega), h1.2.2.2.2 _ (by omega)]
        have step : ∀ j, j < 8 → fc_X5_isKey_26 (x + 60) (nI i) (nI j) N = fj_X5_isKey_60 (x + 60) (nI i) (nI j) (lt c L q j) N := fun j hj => by
          have e8 : ¬ ((8 : Int32) ≤ nI j) := nI_ge (b := 8) hj (by omega)
          unfold lt
          by_cases c3 : uE c L q - uS c L q ≤ j
          · have l3 : nI (uE c L q - uS c L q) ≤ nI j := nI_le c3 (by omega)
            rw [if_pos c3]
            simp only [fc_X5_isKey_26, e8, if_false, h1.gI, t2, t3, Option.bind_some, sub, l3, if_true]
          · have l3 : ¬ (nI (uE c L q - uS c L q) ≤ nI j) := nI_ge (by omega) (by omega)
            have ea : nI (uS c L q) + nI j = nI (uS c L q + j) := nI_add _ _
            rw [if_neg c3]
            simp only [fc_X5_isKey_26, e8, if_false, h1.gI, t2, t3, Option.bind_some, sub, l3, h1.r168, ea, h1.byt (show uS c L q + j < L by omega)]
        unfold fj_X5_isKey_26
        refine Eq.trans (loopM_find (st := fun j => (nI j, N)) (k := 0) (N := 8) (fun j => ¬ lt c L q j = keyF (8 * i + j)) (hit := fun _ => some ((0 : Int32), N)) (miss := some ((1 : Int32), N)) rfl (fun j _ hj hp => ?_) (fun j _ hj hp => ?_) ?_ (Nat.zero_le _) (FUn (by omega))) ?_
        · have hp' : lt c L q j = keyF (8 * i + j) := Classical.not_not.mp hp
          have ej : nI j + 1 = nI (j + 1) := nI_add _ 1
          dsimp only
          rw [step j hj]
          simp only [fj_X5_isKey_60, rk, Option.bind_some, gk j hj, hp', if_true, ej]
        · dsimp only
          rw [step j hj]
          simp only [fj_X5_isKey_60, fj_X5_isKey_76, rk, Option.bind_some, gk j hj, hp, if_false, Option.map_some]
        · have : (8 : Int32) ≤ nI 8 := by decide
          simp only [fc_X5_isKey_26, fj_X5_isKey_84, this, if_true]
        · rw [firstF_ex]
          by_cases ex : ∃ j, 0 ≤ j ∧ j < 0 + (8 - 0) ∧ ¬ lt c L q j = keyF (8 * i + j)
          · rw [if_pos ex, b01_f (fun e => ?_)]
            obtain ⟨j, _, j2, j3⟩ := ex
            apply j3
            rw [(kt j (by omega)).1]
            unfold lt
            by_cases c3 : uE c L q - uS c L q ≤ j
            · rw [if_pos c3, if_neg (by have := e.2.1; omega)]
            · rw [if_neg c3, if_pos (by have := e.2.1; omega), (lw j (by omega)).1]; exact e.2.2 j (by have := e.2.1; omega)
          · rw [if_neg ex]
            have all : ∀ j, j < 8 → lt c L q j = keyF (8 * i + j) := fun j hj => Classical.not_not.mp (fun e => ex ⟨j, Nat.zero_le _, by omega, e⟩)
            have ln : uE c L q - uS c L q = sLEN.getD (i + 1) 0 := by
              rcases Nat.lt_trichotomy (uE c L q - uS c L q) (sLEN.getD (i + 1) 0) with d | d | d
              · have a := all (uE c L q - uS c L q) (by omega)
                unfold lt at a
                rw [if_pos (Nat.le_refl _), (kt _ (by omega)).1, if_pos d] at a
                exact absurd a.symm ((kt _ (by omega)).2 d)
              · exact d
              · have a := all (sLEN.getD (i + 1) 0) (by omega)
                unfold lt at a
                rw [if_neg (by omega), (kt _ (by omega)).1, if_neg (by omega), (lw _ (by omega)).1] at a
                exact absurd a (lw _ (by omega)).2
            rw [b01_t (show isW c L (i + 1) q from ⟨c1, ln, fun j hj => ?_⟩)]
            have a := all j (by omega)
            unfold lt at a
            rw [if_neg (by omega), (lw j (by omega)).1, (kt j (by omega)).1, if_pos hj] at a
            exact a
      simp only [f_X5_isKey, h1.gI, t1, c1, t2, t3, sub, l8, Option.bind_some, if_true, lp]
    · have l8 : (nI (uE c L q - uS c L q) ≤ 8) = False := eq_false (nI_ge (a := 8) (by omega) (by omega))
      rw [b01_f (fun e => by have := e.2.1; omega)]
      simp only [f_X5_isKey, fj_X5_isKey_22, h1.gI, t1, c1, t2, t3, sub, l8, Option.bind_some, if_true, if_false]
  · rw [b01_f (fun e => c1 e.1)]
    simp only [f_X5_isKey, fj_X5_isKey_22, h1.gI, t1, c1, Option.bind_some, if_false]
theorem r_sen (h : RG x L c N g q) {k : Nat} (hw : Wf k g) : ∃ N2, f_X5_readsSend (x + 60) N = some N2 ∧ RF x N N2 ∧ OutR x L c N2 (lSen c L g q) := by
  obtain ⟨⟨R, C, Q, m, d1, d2, d3, d4, x1, x2, x3, x4, x5⟩, hr⟩ := id hw
  have hm : mcn g = m := by unfold mcn; rw [d4, nI_cl (by omega)]
  unfold lSen
  unfold f_X5_readsSend
  rw [h.1.r162, Option.bind_some, h.1.now3, Option.bind_some, h.2.2.2.2]
  by_cases z : g 3 = 6
  · rw [if_pos z, if_pos z]
    obtain ⟨N3, f1, f2, f3⟩ := h.err (k := 4) (by decide)
    exact ⟨N3, by rw [cK_ok h.1.k6, f1]; rfl, f2, OutR.er f3⟩
  · rw [if_neg z, if_neg z]
    obtain ⟨N0, e1, e2, h0⟩ := h.next
    rw [cK_ok h.1.k6, e1, Option.bind_some]
    refine (fun ⟨N2, a1, a2, a3⟩ => ⟨N2, a1, e2.trans a2, a3⟩ : _ → _) (st_takeR h0 (fun r N1 n1 h1 => ?_) (fun v N1 k o he => ?_))
    · rw [d1] at n1
      obtain ⟨r, hr1, rfl⟩ := num_ix (by omega) n1
      rw [tn_nI (by omega)]
      have hm6 : m ≠ 6 := fun e => z (by rw [d4, e]; rfl)
      obtain ⟨y1, y2⟩ := h1.put (g' := sendG g r)
      have op := X5_sends (g := g) h1.1.1.rn (r := r) (by omega) (by omega) (by rw [hm]; exact d4)
      rw [h1.eqN] at op
      exact ⟨_, by simp only [h1.1.gI, h1.2.2.2.1, Option.bind_some, if_true, cK, h1.k6, op, fj_X5_readsSend_38], y1, OutR.ok y2⟩
    · exact ⟨N1, by simp only [he.1.gI, he.2.2.1, Option.bind_some, he.2.1, if_false, fj_X5_readsSend_38], RF.refl, he⟩
theorem r_line (h : RG x L c N g q) {k : Nat} (hw : Wf k g) : ∃ N2, f_X5_readsLine (x + 60) N = some N2 ∧ RF x N N2 ∧ OutR x L c N2 (lineR c L g q) := by
  have W1 : f_X5_isKey (x + 60) 1 N = some (b01 (isW c L 2 q), N) := r_isKey h (i := 1) (by omega)
  have W2 : f_X5_isKey (x + 60) 2 N = some (b01 (isW c L 3 q), N) := r_isKey h (i := 2) (by omega)
  have W3 : f_X5_isKey (x + 60) 3 N = some (b01 (isW c L 4 q), N) := r_isKey h (i := 3) (by omega)
  have W4 : f_X5_isKey (x + 60) 4 N = some (b01 (isW c L 5 q), N) := r_isKey h (i := 4) (by omega)
  have W5 : f_X5_isKey (x + 60) 5 N = some (b01 (isW c L 6 q), N) := r_isKey h (i := 5) (by omega)
  have W6 : f_X5_isKey (x + 60) 6 N = some (b01 (isW c L 7 q), N) := r_isKey h (i := 6) (by omega)
  have W7 : f_X5_isKey (x + 60) 7 N = some (b01 (isW c L 8 q), N) := r_isKey h (i := 7) (by omega)
  have W8 : f_X5_isKey (x + 60) 8 N = some (b01 (isW c L 9 q), N) := r_isKey h (i := 8) (by omega)
  have fin : ∀ {F : Mem → Option Mem} {o}, (∃ N2, F N = some N2 ∧ RF x N N2 ∧ OutR x L c N2 o) → ∃ N2, ((cK 6 (x + 60) N (F N)).bind fun M => fj_X5_readsLine_132 M) = some N2 ∧ RF x N N2 ∧ OutR x L c N2 o := fun ⟨N2, a, b, d⟩ => ⟨N2, by rw [cK_ok h.1.k6, a]; rfl, b, d⟩
  unfold lineR
  unfold f_X5_readsLine
  rw [cK_ok h.1.k6, W1, bn_some]
  by_cases w2 : isW c L 2 q
  · rw [b01_t w2, cif_t w2, if_neg (by decide)]; exact fin (r_cnt h hw (Or.inl ⟨rfl, rfl⟩))
  rw [b01_f w2, cif_f w2, if_pos rfl, cK_ok h.1.k6, W2, bn_some]
  by_cases w3 : isW c L 3 q
  · rw [b01_t w3, cif_t w3, if_neg (by decide)]; exact fin (r_cnt h hw (Or.inr ⟨rfl, rfl⟩))
  rw [b01_f w3, cif_f w3, if_pos rfl, cK_ok h.1.k6, W3, bn_some]
  by_cases w4 : isW c L 4 q
  · rw [b01_t w4, cif_t w4, if_neg (by decide)]; exact fin (r_add h hw)
  rw [b01_f w4, cif_f w4, if_pos rfl, cK_ok h.1.k6, W4, bn_some]
  by_cases w5 : isW c L 5 q
  · rw [b01_t w5, cif_t w5, if_neg (by decide)]; exact fin (r_rem2 h hw)
  rw [b01_f w5, cif_f w5, if_pos rfl, cK_ok h.1.k6, W5, bn_some]
  by_cases w6 : isW c L 6 q
  · rw [b01_t w6, cif_t w6, if_neg (by decide)]; exact fin (r_wri h hw)
  rw [b01_f w6, cif_f w6, if_pos rfl, cK_ok h.1.k6, W6, bn_some]
  by_cases w7 : isW c L 7 q
  · rw [b01_t w7, cif_t w7, if_neg (by decide)]; exact fin (r_mer h hw)
  rw [b01_f w7, cif_f w7, if_pos rfl, cK_ok h.1.k6, W7, bn_some]
  by_cases w8 : isW c L 8 q
  · rw [b01_t w8, cif_t w8, if_neg (by decide)]; exact fin (r_sen h hw)
  rw [b01_f w8, cif_f w8, if_pos rfl, cK_ok h.1.k6, W8, bn_some]
  by_cases w9 : isW c L 9 q
  · rw [b01_t w9, cif_t w9, if_neg (by decide)]; exact fin (r_del h hw)
  rw [b01_f w9, cif_f w9, if_pos rfl]
  obtain ⟨N2, d1, d2, d3⟩ := h.err (k := 1) (by decide)
  exact fin ⟨N2, d1, d2, OutR.er d3⟩
def OutS (x L : Nat) (c : GF) (N : Mem) (o : ER ⊕ GF) : Prop := (∀ k i, o = .inl (k, i) → RE x L c N k i) ∧ (∀ g', o = .inr g' → RB0 x L c N ∧ mI N 179 (x + 60) = 0 ∧ mA N (x + 62) = g')
theorem OutS.er {k : Int32} {o : Nat} (h : RE x L c N k o) : OutS x L c N (.inl (k, o)) := ⟨fun k i e => (by cases e; exact h), fun g' e => by cases e⟩
theorem OutS.ok {g' : GF} {q' : Cur} (h : RG x L c N g' q') : OutS x L c N (.inr g') := ⟨fun k i e => (by cases e), fun g' e => by cases e; exact ⟨h.1, h.2.2.2.1, h.2.2.2.2⟩⟩
theorem RE.lp {k : Int32} {o : Nat} (h : RE x L c N k o) {fuel : Nat} (hf : 0 < fuel) : loopM (fun q : Mem => fc_X5_readsText_102 (x + 60) q) fuel N = some N := by
  obtain ⟨f, rfl⟩ : ∃ f, fuel = f + 1 := ⟨fuel - 1, by omega⟩
  have e : fc_X5_readsText_102 (x + 60) N = some (.inr N) := by
    simp only [fc_X5_readsText_102, fj_X5_readsText_143, h.1.gI, h.2.2.1, Option.bind_some, h.2.1, if_false, Option.map_some]
  exact loopM_fin e
theorem r_loop (n : Nat) : ∀ {N : Mem} {g : GF} {q : Cur} {fuel k : Nat}, RG x L c N g q → Wf k g → k + n ≤ 100000 → L < n + q.2 → n + 1 < fuel → ∃ N2, loopM (fun q : Mem => fc_X5_readsText_102 (x + 60) q) fuel N = some N2 ∧ RF x N N2 ∧ OutS x L c N2 (linesR c L n g q) := by
  induction n with
  | zero => intro N g q fuel k h hw hk h1 h2; have := h.2.1; omega
  | succ n ih =>
    intro N g q fuel k h hw hk h1 h2
    obtain ⟨f, rfl⟩ : ∃ f, fuel = f + 1 := ⟨fuel - 1, by omega⟩
    have b1 := uN_le (c := c) h.2.1
    unfold linesR
    by_cases t0 : uT c L q = 0
    · rw [cif_t t0]
      have e : fc_X5_readsText_102 (x + 60) N = some (.inr N) := by
        simp only [fc_X5_readsText_102, fj_X5_readsText_143, h.1.gI, h.2.2.2.1, h.2.2.1.1, t0, Option.bind_some, if_true, Option.map_some]
      exact ⟨N, loopM_fin e, RF.refl, OutS.ok h⟩
    · rw [cif_f t0]
      by_cases t3 : uT c L q = 3
      · rw [cif_t t3]
        obtain ⟨N1, e1, e2, h'⟩ := h.next
        obtain ⟨N2, l1, l2, l3⟩ := r_line h' hw
        have bt := uT_0 h.2.1 t0
        have e : fc_X5_readsText_102 (x + 60) N = some (.inl N2) := by
          simp only [fc_X5_readsText_102, h.1.gI, h.2.2.2.1, h.2.2.1.1, t3, Option.bind_some, if_true, show ((3 : Int32) = 0) = False from eq_false (by decide), if_false, cK, h.k6, e1, h'.k6, l1]
        cases ho : lineR c L g (uN c L q) with
        | inl e' =>
          obtain ⟨k', i⟩ := e'
          have ce := l3.1 k' i ho
          exact ⟨N2, (loopM_one e).trans (ce.lp (by omega)), e2.trans l2, OutS.er ce⟩
        | inr y =>
          obtain ⟨g', q'⟩ := y
          have cg := l3.2 g' q' ho
          obtain ⟨w1, w2, w3⟩ := lineR_wf hw (by omega) b1.2.2 ho
          obtain ⟨N3, y1, y2, y3⟩ := ih (fuel := f) cg w1 (by omega) (by omega) (by omega)
          exact ⟨N3, (loopM_one e).trans y1, (e2.trans l2).trans y2, y3⟩
      · rw [cif_f t3]
        obtain ⟨N2, d1, d2, d3⟩ := h.err (k := 1) (by decide)
        have e : fc_X5_readsText_102 (x + 60) N = some (.inl N2) := by
          simp only [fc_X5_readsText_102, h.1.gI, h.2.2.2.1, h.2.2.1.1, t0, t3, Option.bind_some, if_true, if_false, cK, h.k6, d1]
        exact ⟨N2, (loopM_one e).trans (d3.lp (by omega)), d2, OutS.er d3⟩
/-- one of the first places of what is held -/
theorem RB0.sw (h : RB0 x L c N) {i : Nat} (hi : i < 1594) {v : Int32} : sA 9 (x + 62) (nI i) v N = some (wA N (x + 62) (u1 (mA N (x + 62)) i v)) := by
  have b := h.1.rn
  rw [sA_w, if_pos ⟨b.2.2.1, by rw [b.2.2.2, inT (by omega) (by omega)]; exact not_false⟩, nI_cl (by omega)]; rfl
theorem RE.sw {k : Int32} {o : Nat} (h : RE x L c N k o) {i : Nat} (hi : i < 1594) {v : Int32} : ∃ N', sA 9 (x + 62) (nI i) v N = some N' ∧ RF x N N' ∧ RE x L c N' k o := ⟨_, h.1.sw hi, RF.wA, h.1.rf RF.wA, h.2⟩
theorem RE.t66 {k : Int32} {o : Nat} (h : RE x L c N k o) : ∃ N2, fj_X5_readsText_66 (x + 60) N = some N2 ∧ RF x N N2 ∧ RE x L c N2 k o := by
  obtain ⟨N1, a1, a2, h1⟩ := h.sw (i := 0) (by omega) (v := 1)
  obtain ⟨N2, b1, b2, h2⟩ := h1.sw (i := 1) (by omega) (v := 0)
  obtain ⟨N3, c1, c2, h3⟩ := h2.sw (i := 2) (by omega) (v := 0)
  refine ⟨N3, ?_, (a2.trans b2).trans c2, h3⟩
  have a1' : sA 9 (x + 62) 0 1 N = some N1 := a1
  have b1' : sA 9 (x + 62) 1 0 N1 = some N2 := b1
  have c1' : sA 9 (x + 62) 2 0 N2 = some N3 := c1
  unfold fj_X5_readsText_66
  rw [h.1.r162, Option.bind_some, cK_ok h.1.k6, h.take, bn_some, a1', Option.bind_some, h1.1.r162, Option.bind_some, cK_ok h1.1.k6, h1.take, bn_some, b1', Option.bind_some, h2.1.r162, Option.bind_some, cK_ok h2.1.k6, h2.take, bn_some, c1', Option.bind_some]
  exact h3.lp (FUn (by decide))
end RK
