/-! THE LAW'S LOOK AT ONE REPLICA -/
theorem firstF_at {p : Nat → Prop} [DecidablePred p] {t : Nat} (h : p t) : ∀ (n i : Nat), i ≤ t → t < i + n → (∀ j, i ≤ j → j < t → ¬ p j) → firstF p i n = some t := by
  intro n
  induction n with
  | zero => intro i h1 h2; omega
  | succ n ih =>
    intro i h1 h2 h3
    unfold firstF
    by_cases c : i = t
    · subst c; rw [if_pos h]
    · rw [if_neg (h3 i (Nat.le_refl _) (by omega))]
      exact ih (i + 1) (by omega) (by omega) (fun j a b => h3 j (by omega) b)
theorem cnt_mono (p : Nat → Prop) [DecidablePred p] {i j : Nat} (h : i ≤ j) : cnt p i ≤ cnt p j := by
  obtain ⟨d, rfl⟩ : ∃ d, j = i + d := ⟨j - i, by omega⟩
  induction d with
  | zero => exact Nat.le_refl _
  | succ d ih => have := ih (by omega); show _ ≤ cnt p (i + d) + _; omega
theorem cnt_lt {p : Nat → Prop} [DecidablePred p] {i j : Nat} (h : i < j) (hp : p i) : cnt p i < cnt p j := by
  have := cnt_mono p (show i + 1 ≤ j from h)
  rw [cnt_t hp] at this; omega
theorem rkd_at {a : Nat → Int32} {t : Nat} (ht : t < 16) (h : tagE a t) : rkd a (nI (cnt (tagE a) t)) = some t := by
  unfold rkd
  refine @firstF_at _ (fun _ => Classical.propDecidable _) t ⟨h, rfl⟩ 16 0 (by omega) (by omega) (fun j _ hj e => ?_)
  have c1 := cnt_lt hj e.1
  have c2 := cnt_le (tagE a) t
  exact absurd ((nI_eq (by omega) (by omega)).mp e.2) (by omega)
theorem rkd_end {a : Nat → Int32} : rkd a (nI (cnt (tagE a) 16)) = none := by
  unfold rkd
  refine @firstF_none _ (fun _ => Classical.propDecidable _) 16 0 (fun j _ hj e => ?_)
  have c1 := cnt_lt (show j < 16 by omega) e.1
  have c2 := cnt_le (tagE a) 16
  exact absurd ((nI_eq (by omega) (by omega)).mp e.2) (by omega)
theorem tot_R {a : Nat → Int32} {c R : Nat} (h : ∀ i, i < 36 → R ≤ i % 4 → a i = 0) (hc : c < 4) (hR : R ≤ 4) : ∀ k, R + k ≤ 4 → tot a c (R + k) = tot a c R := by
  intro k
  induction k with
  | zero => intro _; rfl
  | succ k ih =>
    intro hk
    show tot a c (R + k) + (a (4 + c * 4 + (R + k)) - a (20 + c * 4 + (R + k))) = _
    rw [h _ (by omega) (by omega), h _ (by omega) (by omega), ih (by omega)]
    exact Int32.add_zero _
theorem lve_R {a : Nat → Int32} {f R : Nat} (h : ∀ j, R ≤ j → j < 4 → a (f + j) = 0) (hR : R ≤ 4) : cnt (fun j => 0 < a (f + j)) R = lve a f := by
  have key : ∀ k, R + k ≤ 4 → cnt (fun j => 0 < a (f + j)) (R + k) = cnt (fun j => 0 < a (f + j)) R := by
    intro k
    induction k with
    | zero => intro _; rfl
    | succ k ih =>
      intro hk
      rw [← ih (by omega)]
      exact cnt_f (n := R + k) (by rw [h _ (by omega) (by omega)]; decide)
  have := key (4 - R) (by omega)
  rw [show R + (4 - R) = 4 by omega] at this
  exact this.symm
theorem gmax_ge (a : Nat → Int32) (q : Nat) : ∀ n, (-1 : Int32) ≤ gmax a q n := by
  intro n
  induction n with
  | zero => exact Int32.le_refl _
  | succ n ih =>
    unfold gmax
    by_cases c : valE a q n ≤ gmax a q n
    · rw [if_pos c]; exact ih
    · rw [if_neg c]; exact Int32.le_trans ih (Int32.le_of_lt (Int32.not_le.mp c))
theorem gmax_R {a : Nat → Int32} {q R : Nat} (h : ∀ j, R ≤ j → j < 4 → a (100 + (4 * q + j)) = 0) (hR : R ≤ 4) : gmax a q R = gmax a q 4 := by
  have key : ∀ k, R + k ≤ 4 → gmax a q (R + k) = gmax a q R := by
    intro k
    induction k with
    | zero => intro _; rfl
    | succ k ih =>
      intro hk
      have ev : valE a q (R + k) = -1 := by unfold valE; rw [h _ (by omega) (by omega)]; exact if_pos (Int32.le_refl _)
      show (if valE a q (R + k) ≤ gmax a q (R + k) then gmax a q (R + k) else valE a q (R + k)) = _
      rw [ev, if_pos (gmax_ge a q _), ih (by omega)]
  have := key (4 - R) (by omega)
  rw [show R + (4 - R) = 4 by omega] at this
  exact this.symm
theorem confE_Q {a : Nat → Int32} {Q : Nat} (h : ∀ i, 100 ≤ i → i < 116 → Q ≤ (i - 100) / 4 → a i = 0) (hQ : Q ≤ 4) : cnt (confE a) Q = cnt (confE a) 4 := by
  have key : ∀ k, Q + k ≤ 4 → cnt (confE a) (Q + k) = cnt (confE a) Q := by
    intro k
    induction k with
    | zero => intro _; rfl
    | succ k ih =>
      intro hk
      rw [← ih (by omega)]
      refine cnt_f (n := Q + k) (fun e => ?_)
      have e0 : lve a (100 + 4 * (Q + k)) = 0 := by
        have z : ∀ n, n ≤ 4 → cnt (fun j => 0 < a (100 + 4 * (Q + k) + j)) n = 0 := by
          intro n
          induction n with
          | zero => intro _; rfl
          | succ n ih2 => intro hn; rw [cnt_f (by rw [h _ (by omega) (by omega) (by omega)]; decide), ih2 (by omega)]
        exact z 4 (Nat.le_refl _)
      unfold confE at e; omega
  have := key (4 - Q) (by omega)
  rw [show Q + (4 - Q) = 4 by omega] at this
  exact this.symm
section RPL
variable {n x w : Nat} {p : Nat → Nat} {M : Mem} {g : Nat → Int32} {R C Q m t : Nat}
theorem Wk.oc (h : Wk n R C Q m g) (ht : t < R) : ∀ i, i < 132 → R ≤ i % 4 → row g t i = 0 := fun i hi ho => h.2.2.2.2.1 t (by have := h.1.2.2.2.2; omega) (by have := h.1.2.2.2.2; omega) i hi (Or.inl ho)
theorem Wk.wr (h : Wk n R C Q m g) (ht : t < R) : WFr n (row g t) := h.2.1 t (by have := h.1.2.2.2.2; omega) (by have := h.1.2.2.2.2; omega)
theorem Wk.dg (h : Wk n R C Q m g) (ht : t < R) : ∀ i, i < 36 → ¬ (row g (i % 4) i < row g t i) := fun i hi => by
  rw [i32_lt]; have := h.2.2.2.1 t (by have := h.1.2.2.2.2; omega) (by have := h.1.2.2.2.2; omega) i hi; omega
theorem r_end (hx : Cx x w p M g R C Q m n) (hk : Wk n R C Q m g) (ht : t < R) : ∃ M', fj_L_replica_454 x (nI t) (nI R) (nI (cnt (tagE (row g t)) 16)) (nI (cnt (confE (row g t)) Q)) 1 M = some (1, M') ∧ Fr (kpP x) M M' := by
  have hR := hx.Rle
  have hx' : Cx x w p (setZ M (mZ M + 1)) g R C Q m n := hx
  have ec := confE_Q (a := row g t) (Q := Q) (fun i h1 h2 h3 => hk.2.2.2.2.1 t (by omega) (by omega) i (by omega) (Or.inr ⟨h1, by omega⟩)) (by omega)
  refine ⟨setZ M (mZ M + 1), ?_, setZ_fr⟩
  unfold fj_L_replica_454 fj_L_replica_457
  refine loopM_run (st := fun i => (1, nI i, M)) (N := R) rfl (fun i hi => ?_) ?_ (FUn (by omega))
  · have hl : ¬ (nI R ≤ nI i) := nI_ge hi (by omega)
    have ei : nI i + 1 = nI (i + 1) := nI_add i 1
    have hv := hk.dg ht i (by omega)
    rw [show i % 4 = i by omega] at hv
    simp only [fc_L_replica_457, fj_L_replica_491, cK, hx.k5, if_true, if_false, bq, bn, bx, Option.bind_some, Option.map_some, eq_self, reduceIte, hl, e10, q_ver hx ht hi, q_ver hx hi hi, hv, ei]
  · have hl : nI R ≤ nI R := Int32.le_refl _
    have et : f_X4_tagAt x (nI t) (nI (cnt (tagE (row g t)) 16)) M = some (.inr 0, M) := by rw [q_tagAt hx ht, rkd_end]; rfl
    simp only [fc_L_replica_457, fj_L_replica_499, fj_L_replica_539, cK, hx.k5, if_true, if_false, bq, bn, bx, Option.bind_some, Option.map_some, eq_self, reduceIte, hl, e10, q_tags hx ht, f_L_tagAt, et, hx'.k5, q_conf hx' ht, ec, or_true]
theorem r_regs (hx : Cx x w p M g R C Q m n) (hk : Wk n R C Q m g) (ht : t < R) : ∃ M', fj_L_replica_325 x (nI t) (nI R) (nI (cnt (tagE (row g t)) 16)) 0 1 M = some (1, M') ∧ Fr (kpP x) M M' := by
  have hR := hx.Rle
  obtain ⟨M', e, f⟩ := r_end hx hk ht
  refine ⟨M', ?_, f⟩
  have hw := hk.wr ht
  unfold fj_L_replica_325 fj_L_replica_328
  refine loopM_run (st := fun i => (nI (cnt (confE (row g t)) i), 1, nI i, M)) (N := Q) rfl (fun i hi => ?_) ?_ (FUn (by omega))
  · have hl : ¬ (nI Q ≤ nI i) := nI_ge hi (by omega)
    have ei : nI i + 1 = nI (i + 1) := nI_add i 1
    have cl : cnt (confE (row g t)) i ≤ i := cnt_le _ i
    have ll := lve_lt (row g t) (100 + 4 * i)
    have l4 : lve (row g t) (100 + 4 * i) ≤ 4 := cnt_le _ 4
    have eR := lve_R (a := row g t) (f := 100 + 4 * i) (R := R) (fun j h1 h2 => hk.oc ht _ (by omega) (by omega)) hR.2.1
    have gR := gmax_R (a := row g t) (q := i) (R := R) (fun j h1 h2 => hk.oc ht _ (by omega) (by omega)) hR.2.1
    simp only [fc_L_replica_328, cK, hx.k5, if_true, if_false, bq, bn, bx, Option.bind_some, Option.map_some, eq_self, reduceIte, q_Q hx, hl, e10]
    unfold fj_L_replica_351
    refine loopM_run (st := fun j => (nI (cnt (fun j => 0 < row g t (100 + 4 * i + j)) j), gmax (row g t) i j, nI j, M)) (N := R) rfl (fun j hj => ?_) ?_ (FUn (by omega))
    · have hl : ¬ (nI R ≤ nI j) := nI_ge hj (by omega)
      have ej : nI j + 1 = nI (j + 1) := nI_add j 1
      have ec : nI (cnt (fun j => 0 < row g t (100 + 4 * i + j)) j) + 1 = nI (cnt (fun j => 0 < row g t (100 + 4 * i + j)) j + 1) := nI_add _ 1
      have eg : (if gmax (row g t) i j < valE (row g t) i j then valE (row g t) i j else gmax (row g t) i j) = gmax (row g t) i (j + 1) := by
        show _ = if valE (row g t) i j ≤ gmax (row g t) i j then gmax (row g t) i j else valE (row g t) i j
        by_cases c : valE (row g t) i j ≤ gmax (row g t) i j
        · rw [if_pos c, if_neg (Int32.not_lt.mpr c)]
        · rw [if_neg c, if_pos (Int32.not_le.mp c)]
      have w5 := hw.2.2.2.2 (116 + (4 * i + j)) (by omega) (by omega)
      have ee : row g t (100 + 4 * i + j) = row g t (100 + (4 * i + j)) := congrArg (row g t) (by omega)
      by_cases c : row g t (100 + (4 * i + j)) ≤ 0
      · have hn : valE (row g t) i j < 0 := by unfold valE; rw [if_pos c]; decide
        have hc := cnt_f (p := fun j => 0 < row g t (100 + 4 * i + j)) (n := j) (by rw [ee]; exact Int32.not_lt.mpr c)
        rw [hc]
        simp only [fc_L_replica_351, fj_L_replica_376, cK, hx.k5, if_true, if_false, bq, bn, bx, Option.bind_some, Option.map_some, eq_self, reduceIte, hl, q_ent hx ht hi hj, hn, Int32.add_zero, eg, ej]
      · have hn : ¬ (valE (row g t) i j < 0) := by unfold valE; rw [if_neg c, i32_lt, i32_0]; omega
        have hc := cnt_t (p := fun j => 0 < row g t (100 + 4 * i + j)) (n := j) (by rw [ee]; exact Int32.not_le.mp c)
        rw [hc]
        simp only [fc_L_replica_351, fj_L_replica_376, cK, hx.k5, if_true, if_false, bq, bn, bx, Option.bind_some, Option.map_some, eq_self, reduceIte, hl, q_ent hx ht hi hj, hn, ec, eg, ej]
    · have hl : nI R ≤ nI R := Int32.le_refl _
      dsimp only
      rw [eR, gR]
      by_cases c : confE (row g t) i
      · have h1 : ¬ (nI (lve (row g t) (100 + 4 * i)) ≤ 1) := nI_ge (a := 1) (by unfold confE at c; omega) (by omega)
        have ec : nI (cnt (confE (row g t)) i) + 1 = nI (cnt (confE (row g t)) i + 1) := nI_add _ 1
        rw [cnt_t c]
        simp only [fc_L_replica_351, fj_L_replica_401, fj_L_replica_414, fj_L_replica_446, cK, hx.k5, if_true, if_false, bq, bn, bx, Option.bind_some, Option.map_some, eq_self, reduceIte, hl, h1, q_ents hx ht hi, q_great hx ht hi, ec, ei]
      · have h1 : nI (lve (row g t) (100 + 4 * i)) ≤ 1 := nI_le (b := 1) (by unfold confE at c; omega) (by omega)
        rw [cnt_f c]
        simp only [fc_L_replica_351, fj_L_replica_401, fj_L_replica_414, fj_L_replica_446, cK, hx.k5, if_true, if_false, bq, bn, bx, Option.bind_some, Option.map_some, eq_self, reduceIte, hl, h1, q_ents hx ht hi, q_great hx ht hi, Int32.add_zero, ei]
  · have hl : nI Q ≤ nI Q := Int32.le_refl _
    simp only [fc_L_replica_328, cK, hx.k5, if_true, if_false, bq, bn, bx, Option.bind_some, Option.map_some, eq_self, reduceIte, q_Q hx, hl, e]
theorem r_tags (hx : Cx x w p M g R C Q m n) (hk : Wk n R C Q m g) (ht : t < R) : ∃ M', fj_L_replica_158 x (nI t) (nI R) 0 0 1 M = some (1, M') ∧ Fr (kpP x) M M' := by
  have hR := hx.Rle
  obtain ⟨M', e, f⟩ := r_regs hx hk ht
  refine ⟨M', ?_, f⟩
  have hw := hk.wr ht
  unfold fj_L_replica_158 fj_L_replica_161
  refine loopM_run (st := fun i => (nI (cnt (tagE (row g t)) i), 1, nI i, M)) (N := 16) rfl (fun i hi => ?_) ?_ (FUn (by decide))
  · have hl : ¬ ((16 : Int32) ≤ nI i) := nI_ge (a := i) (b := 16) hi (by omega)
    have ei : nI i + 1 = nI (i + 1) := nI_add i 1
    have cl : cnt (tagE (row g t)) i ≤ i := cnt_le _ i
    have l4 : lve (row g t) (36 + 4 * i) ≤ 4 := cnt_le _ 4
    have eR := lve_R (a := row g t) (f := 36 + 4 * i) (R := R) (fun j h1 h2 => hk.oc ht _ (by omega) (by omega)) hR.2.1
    simp only [fc_L_replica_161, cK, hx.k5, if_true, if_false, bq, bn, bx, Option.bind_some, Option.map_some, eq_self, reduceIte, hl, e10]
    unfold fj_L_replica_179
    refine loopM_run (st := fun j => (1, nI (cnt (fun j => 0 < row g t (36 + 4 * i + j)) j), nI j, M)) (N := R) rfl (fun j hj => ?_) ?_ (FUn (by omega))
    · have hl : ¬ (nI R ≤ nI j) := nI_ge hj (by omega)
      have ej : nI j + 1 = nI (j + 1) := nI_add j 1
      have ec : nI (cnt (fun j => 0 < row g t (36 + 4 * i + j)) j) + 1 = nI (cnt (fun j => 0 < row g t (36 + 4 * i + j)) j + 1) := nI_add _ 1
      have w3 := hw.2.2.1 (36 + (4 * i + j)) (by omega) (by omega)
      rw [show (36 + (4 * i + j)) % 4 = j by omega] at w3
      have n0 : ¬ (row g t (36 + (4 * i + j)) < 0) := by rw [i32_lt, i32_0]; omega
      have nv : ¬ (row g t j < row g t (36 + (4 * i + j))) := by rw [i32_lt]; omega
      have ee : row g t (36 + 4 * i + j) = row g t (36 + (4 * i + j)) := congrArg (row g t) (by omega)
      by_cases c : row g t (36 + (4 * i + j)) ≤ 0
      · have hc := cnt_f (p := fun j => 0 < row g t (36 + 4 * i + j)) (n := j) (by rw [ee]; exact Int32.not_lt.mpr c)
        rw [hc]
        simp only [fc_L_replica_179, fj_L_replica_208, fj_L_replica_238, cK, hx.k5, if_true, if_false, bq, bn, bx, Option.bind_some, Option.map_some, eq_self, reduceIte, hl, q_tdot hx ht hi hj, c, e10, n0, q_ver hx ht hj, nv, Int32.add_zero, ej]
      · have hc := cnt_t (p := fun j => 0 < row g t (36 + 4 * i + j)) (n := j) (by rw [ee]; exact Int32.not_le.mp c)
        rw [hc]
        simp only [fc_L_replica_179, fj_L_replica_208, fj_L_replica_238, cK, hx.k5, if_true, if_false, bq, bn, bx, Option.bind_some, Option.map_some, eq_self, reduceIte, hl, q_tdot hx ht hi hj, c, e10, n0, q_ver hx ht hj, nv, ec, ej]
    · have hl : nI R ≤ nI R := Int32.le_refl _
      dsimp only
      rw [eR]
      by_cases c : tagE (row g t) i
      · have h1 : ¬ (nI (lve (row g t) (36 + 4 * i)) ≤ 0) := nI_ge (a := 0) (by unfold tagE at c; omega) (by omega)
        have h2 : ¬ (nI (lve (row g t) (36 + 4 * i)) = 0) := fun e => absurd ((nI_eq (b := 0) (by omega) (by omega)).mp e) (by unfold tagE at c; omega)
        have ec : nI (cnt (tagE (row g t)) i) + 1 = nI (cnt (tagE (row g t)) i + 1) := nI_add _ 1
        have et : f_X4_tagAt x (nI t) (nI (cnt (tagE (row g t)) i)) M = some (.inl (nI i), M) := by rw [q_tagAt hx ht, rkd_at hi c]; rfl
        have eh := q_has hx ht hi
        rw [b01_t c] at eh
        rw [cnt_t c]
        simp only [fc_L_replica_179, fj_L_replica_246, fj_L_replica_280, fj_L_replica_299, fj_L_replica_304, fj_L_replica_317, cK, hx.k5, if_true, if_false, bq, bn, bx, Option.bind_some, Option.map_some, eq_self, reduceIte, hl, e10, h1, h2, q_live hx ht hi, eh, f_L_tagAt_i, et, ec, ei]
      · have c0 : lve (row g t) (36 + 4 * i) = 0 := by unfold tagE at c; omega
        have h1 : (0 : Int32) ≤ 0 := Int32.le_refl _
        have h2 : nI 0 = 0 := rfl
        have eh := q_has hx ht hi
        rw [b01_f c] at eh
        have el := q_live hx ht hi
        rw [c0] at el ⊢
        rw [cnt_f c]
        simp only [fc_L_replica_179, fj_L_replica_246, fj_L_replica_280, fj_L_replica_299, fj_L_replica_304, fj_L_replica_317, cK, hx.k5, if_true, if_false, bq, bn, bx, Option.bind_some, Option.map_some, eq_self, reduceIte, hl, e10, h1, h2, el, eh, Int32.add_zero, ei]
  · have hl : (16 : Int32) ≤ nI 16 := Int32.le_refl _
    simp only [fc_L_replica_161, hl, if_true, e, Option.map_some]
theorem w_repl (hx : Cx x w p M g R C Q m n) (hk : Wk n R C Q m g) (ht : t < R) : ∃ M', f_L_replica x (nI t) M = some (1, M') ∧ Fr (kpP x) M M' := by
  have hR := hx.Rle
  obtain ⟨M', e, f⟩ := r_tags hx hk ht
  refine ⟨M', ?_, f⟩
  have lp : fj_L_replica_16 x (nI t) (nI R) 0 0 1 0 M = some (1, M') := by
    unfold fj_L_replica_16
    refine loopM_run (st := fun i => (1, nI i, M)) (N := C) rfl (fun i hi => ?_) ?_ (FUn (by omega))
    · have hl : ¬ (nI C ≤ nI i) := nI_ge hi (by omega)
      have ei : nI i + 1 = nI (i + 1) := nI_add i 1
      have eR := tot_R (a := row g t) (c := i) (R := R) (fun j h1 h2 => hk.oc ht j (by omega) h2) (by omega) hR.2.1 (4 - R) (by omega)
      rw [show R + (4 - R) = 4 by omega] at eR
      simp only [fc_L_replica_16, cK, hx.k5, if_true, if_false, bq, bn, bx, Option.bind_some, Option.map_some, eq_self, reduceIte, q_C hx, hl, e10]
      unfold fj_L_replica_36
      refine loopM_run (st := fun j => (1, tot (row g t) i j, nI j, M)) (N := R) rfl (fun j hj => ?_) ?_ (FUn (by omega))
      · have hl : ¬ (nI R ≤ nI j) := nI_ge hj (by omega)
        have ej : nI j + 1 = nI (j + 1) := nI_add j 1
        have d1 := hk.dg ht (4 + (4 * i + j)) (by omega)
        have d2 := hk.dg ht (20 + (4 * i + j)) (by omega)
        rw [show (4 + (4 * i + j)) % 4 = j by omega] at d1
        rw [show (20 + (4 * i + j)) % 4 = j by omega] at d2
        have et : tot (row g t) i j + (row g t (4 + (4 * i + j)) - row g t (20 + (4 * i + j))) = tot (row g t) i (j + 1) := by
          show _ = tot (row g t) i j + (row g t (4 + i * 4 + j) - row g t (20 + i * 4 + j))
          rw [show 4 + i * 4 + j = 4 + (4 * i + j) by omega, show 20 + i * 4 + j = 20 + (4 * i + j) by omega]
        simp only [fc_L_replica_36, fj_L_replica_120, cK, hx.k5, if_true, if_false, bq, bn, bx, Option.bind_some, Option.map_some, eq_self, reduceIte, hl, e10, q_inc hx ht hi hj, q_dec hx ht hi hj, q_inc hx hj hi hj, q_dec hx hj hi hj, d1, d2, et, ej]
      · have hl : nI R ≤ nI R := Int32.le_refl _
        dsimp only
        rw [← eR]
        simp only [fc_L_replica_36, fj_L_replica_128, fj_L_replica_150, cK, hx.k5, if_true, if_false, bq, bn, bx, Option.bind_some, Option.map_some, eq_self, reduceIte, hl, e10, q_val hx ht hi, ei]
    · have hl : nI C ≤ nI C := Int32.le_refl _
      simp only [fc_L_replica_16, cK, hx.k5, if_true, if_false, bq, bn, bx, Option.bind_some, Option.map_some, eq_self, reduceIte, q_C hx, hl, e]
  simp only [f_L_replica, cK, hx.k5, if_true, if_false, bq, bn, bx, Option.bind_some, Option.map_some, eq_self, reduceIte, q_R hx, lp]
end RPL
