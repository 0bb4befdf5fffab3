/-! THE LAW'S LOOK AT PAIRS -/
theorem i32_sub {x y : Int32} (h : -2147483648 ≤ x.toInt - y.toInt ∧ x.toInt - y.toInt < 2147483648) : (x - y).toInt = x.toInt - y.toInt := by
  rw [Int32.toInt_sub]; exact Int.bmod_eq_of_le (by omega) (by omega)
theorem uns_0 {k l : Nat} {a b : Nat → Int32} (ha : WFr k a) (hb : WFr l b) (hk : k < 1000000) (hl : l < 1000000) (h : ∀ j, j < 4 → (a j).toInt ≤ (b j).toInt) : ∀ j, j ≤ 4 → uns a b j = 0 := by
  intro j
  induction j with
  | zero => intro _; rfl
  | succ j ih =>
    intro hj
    have x1 := ha.1 j (by omega)
    have x2 := hb.1 j (by omega)
    have x3 := h j (by omega)
    unfold uns
    rw [ih (by omega), if_pos (by rw [i32_le, i32_sub (by omega), i32_0]; omega)]; rfl
theorem uns_R {a b : Nat → Int32} {R : Nat} (h : ∀ j, R ≤ j → j < 4 → a j = 0 ∧ b j = 0) (hR : R ≤ 4) : uns a b R = uns a b 4 := by
  have key : ∀ k, R + k ≤ 4 → uns a b (R + k) = uns a b R := by
    intro k
    induction k with
    | zero => intro _; rfl
    | succ k ih =>
      intro hk
      obtain ⟨e1, e2⟩ := h (R + k) (by omega) (by omega)
      show uns a b (R + k) + (if a (R + k) - b (R + k) ≤ 0 then 0 else a (R + k) - b (R + k)) = _
      rw [e1, e2, ih (by omega), if_pos (by decide)]
      exact Int32.add_zero _
  have := key (4 - R) (by omega)
  rw [show R + (4 - R) = 4 by omega] at this
  exact this.symm
theorem dlv_0 {a b : Nat → Int32} (h : ∀ i, i < 116 → ¬ newsP a b i) : dlv a b = 0 := by
  have key : ∀ n, n ≤ 116 → @cnt (newsP a b) (fun _ => Classical.propDecidable _) n = 0 := by
    intro n
    induction n with
    | zero => intro _; rfl
    | succ n ih => intro hn; rw [@cnt_f _ (fun _ => Classical.propDecidable _) n (h n (by omega)), ih (by omega)]
  exact key 116 (Nat.le_refl _)
theorem dlv_no {a b : Nat → Int32} (h : dlv a b = 0) : ∀ i, i < 116 → ¬ newsP a b i := fun i hi e => by
  have := @cnt_lt (newsP a b) (fun _ => Classical.propDecidable _) i 116 hi e
  unfold dlv at h; omega
theorem cov_news {k l : Nat} {a b : Nat → Int32} (hb : WFr l b) (h : Le a b) : ∀ i, i < 116 → ¬ newsP b a i := fun i hi => by
  unfold newsP
  by_cases c : i < 36
  · rw [if_pos c, i32_lt]; have := h.1 i c; omega
  · rw [if_neg c, i32_lt]
    have := h.1 (i % 4) (by omega)
    have := hb.2.2.1 i (by omega) hi
    omega
theorem miss_0 {a b : Nat → Int32} (h : ∀ i, i < 132 → a i = b i) : cnt (missE a b) 16 = 0 := by
  rw [missE_congr (a' := b) (b' := b) h (fun _ _ => rfl)]
  have key : ∀ n, cnt (missE b b) n = 0 := by
    intro n
    induction n with
    | zero => rfl
    | succ n ih => rw [cnt_f (by unfold missE tagE; omega), ih]
  exact key 16
theorem fp34 : ∀ a : Fin 5, ∀ b : Fin 5, 1 ≤ b.val → Op.cmpValue (FP.fcmp (FP.fdiv (FP.i2f (nI a.val)) (FP.i2f (nI b.val))) (FP.fdiv (FP.i2f (nI a.val)) (FP.i2f (nI b.val)))) CmpOp.l = 0 := by decide
section PRS
variable {n x w : Nat} {p : Nat → Nat} {M : Mem} {g : Nat → Int32} {R C Q m t u : Nat}
theorem Wk.covL (hk : Wk n R C Q m g) : ∀ {t u : Nat}, t < 4 + m → u < 4 + m → (cov (row g t) (row g u) ↔ Le (row g t) (row g u)) := fun {t u} ht hu => by
  obtain ⟨h1, h2, ⟨φ, h3⟩, _⟩ := hk
  have := h1.2.2.2.2
  exact cov_Le (h2 t (by omega) ht) (h2 u (by omega) hu) (h3 t (by omega) ht) (h3 u (by omega) hu)
theorem Wk.eqL (hk : Wk n R C Q m g) {t u : Nat} (ht : t < 4 + m) (hu : u < 4 + m) : eqS (row g t) (row g u) ↔ (cov (row g t) (row g u) ∧ cov (row g u) (row g t)) := by
  rw [hk.covL ht hu, hk.covL hu ht]
  constructor
  · intro e
    exact ⟨(Le.refl (row g u)).congr e (fun _ _ => rfl), (Le.refl (row g u)).congr (fun _ _ => rfl) e⟩
  · intro ⟨a, b⟩
    obtain ⟨h1, h2, ⟨φ, h3⟩, _⟩ := hk
    have := h1.2.2.2.2
    exact Le.anti (h2 t (by omega) ht) (h2 u (by omega) hu) (h3 t (by omega) ht) (h3 u (by omega) hu) a b
theorem eqS_symm {a b : Nat → Int32} : eqS a b ↔ eqS b a := ⟨fun h i hi => (h i hi).symm, fun h i hi => (h i hi).symm⟩
theorem p_tail (hx : Cx x w p M g R C Q m n) (hk : Wk n R C Q m g) (hn : n < 1000000) (ht : t < R) (hu : u < R) {A : Prop} (x2 x3 : Int32) : ∃ M', fj_L_pairs_107 x (nI R) x2 x3 (nI t) (b01 A) (nI u) (uns (row g u) (row g t) 4) M = some (.inl (1, b01 (A ∧ cov (row g t) (row g u)), nI (u + 1), M')) ∧ CSim x M M' := by
  have hR := hx.Rle
  have wt := hk.wr ht
  have wu := hk.wr hu
  have eu : nI u + 1 = nI (u + 1) := nI_add u 1
  have dl : dlv (row g u) (row g t) < 2147483648 := Nat.lt_of_le_of_lt (@cnt_le (newsP (row g u) (row g t)) (fun _ => Classical.propDecidable _) 116) (by decide)
  obtain ⟨M1, e1, s1⟩ := q_cov hx ht hu
  have hx1 := hx.tr s1
  have es : b01 (eqS (row g u) (row g t)) = b01 (eqS (row g t) (row g u)) := b01_c eqS_symm
  have eE := hk.eqL (show t < 4 + m by omega) (show u < 4 + m by omega)
  -- the end
  have last : ∀ (N : Mem) (x6 : Int32), Cx x w p N g R C Q m n → ∀ s, fj_L_pairs_251 x (nI R) x2 x3 (nI t) x6 (nI u) (uns (row g u) (row g t) 4) s s N = some (.inl (1, x6, nI (u + 1), N)) := fun N x6 hN s => by
    by_cases c : uns (row g u) (row g t) 4 ≤ 0
    · have h1 : ¬ (nI (dlv (row g u) (row g t)) < 0) := nI_pos dl
      simp only [fj_L_pairs_251, fj_L_pairs_272, fj_L_pairs_299, cK, hN.k5, if_true, if_false, bq, Option.bind_some, eq_self, q_delta hN hu ht, c, h1, q_eq hN ht hu, q_eq hN hu ht, es, eu]
    · have h0 : dlv (row g u) (row g t) ≠ 0 := fun e => by
        have hs := dlv_no e
        refine c ?_
        rw [uns_0 wu wt hn hn (fun j hj => ?_) 4 (Nat.le_refl _)]
        · exact Int32.le_refl _
        · have := hs j (by omega)
          unfold newsP at this
          rw [if_pos (by omega), i32_lt] at this; omega
      have h1 : ¬ (nI (dlv (row g u) (row g t)) < 1) := nI_nlt (b := 1) (by omega) dl
      simp only [fj_L_pairs_251, fj_L_pairs_272, fj_L_pairs_299, cK, hN.k5, if_true, if_false, bq, Option.bind_some, eq_self, q_delta hN hu ht, c, h1, q_eq hN ht hu, q_eq hN hu ht, es, eu]
  by_cases c1 : cov (row g t) (row g u)
  · rw [b01_t c1] at e1
    have L := (hk.covL (show t < 4 + m by omega) (show u < 4 + m by omega)).mp c1
    have eu0 : uns (row g u) (row g t) 4 = 0 := uns_0 wu wt hn hn (fun j hj => L.1 j (by omega)) 4 (Nat.le_refl _)
    have ed0 : dlv (row g u) (row g t) = 0 := dlv_0 (cov_news (k := n) wu L)
    obtain ⟨M2, e2, s2⟩ := q_gain hx1 ht hu
    rw [miss_0 (b := row g t) c1] at e2
    have hx2 := hx1.tr s2
    obtain ⟨M3, e3, s3⟩ := q_lost hx2 ht hu
    rw [miss_0 (b := absR (row g t) (row g u)) (fun i hi => (c1 i hi).symm)] at e3
    have hx3 := hx2.tr s3
    obtain ⟨M4, e4, s4⟩ := q_cov hx3 hu ht
    have hx4 := hx3.tr s4
    obtain ⟨M5, e5, s5⟩ := q_con hx4 ht hu
    rw [b01_f (fun h => h.1 c1)] at e5
    have hx5 := hx4.tr s5
    have ed : f_X4_deltaSize x (nI u) (nI t) M1 = some (.inl (nI 0), M1) := by rw [q_delta hx1 hu ht, ed0]
    have z0 : nI 0 = 0 := rfl
    have aA : ∀ q : Prop, b01 (q ∧ cov (row g t) (row g u)) = b01 q := fun q => b01_c ⟨fun h => h.1, fun h => ⟨h, c1⟩⟩
    refine ⟨M5, ?_, s1.trans (s2.trans (s3.trans (s4.trans s5)))⟩
    have mid : ∀ x6 : Int32, fj_L_pairs_132 x (nI R) x2 x3 (nI t) (nI u) (uns (row g u) (row g t) 4) 1 x6 M1 = some (.inl (1, x6, nI (u + 1), M5)) := fun x6 => by
      by_cases c2 : cov (row g u) (row g t)
      · rw [b01_t c2] at e4
        have eq3 := q_eq hx3 ht hu
        rw [b01_t (eE.mpr ⟨c1, c2⟩)] at eq3
        have l5 := last M5 x6 hx5 0
        rw [eu0] at l5
        simp only [fj_L_pairs_132, fj_L_pairs_190, fj_L_pairs_219, fj_L_pairs_250, cK, hx1.k5, hx2.k5, hx3.k5, hx4.k5, if_true, if_false, bq, Option.bind_some, eq_self, e10, z0, q_uns hx1 hu ht, eu0, ed, e2, e3, eq3, e4, e5, l5]
      · rw [b01_f c2] at e4
        have eq3 := q_eq hx3 ht hu
        rw [b01_f (fun h => c2 (eE.mp h).2)] at eq3
        have l5 := last M5 x6 hx5 0
        rw [eu0] at l5
        simp only [fj_L_pairs_132, fj_L_pairs_190, fj_L_pairs_218, fj_L_pairs_219, fj_L_pairs_250, cK, hx1.k5, hx2.k5, hx3.k5, hx4.k5, if_true, if_false, bq, Option.bind_some, eq_self, e10, z0, q_uns hx1 hu ht, eu0, ed, e2, e3, eq3, e4, e5, l5]
    rw [aA]
    by_cases cA : A
    · rw [b01_t cA]
      simp only [fj_L_pairs_107, cK, hx.k5, if_true, if_false, bq, e1, e10, mid]
    · rw [b01_f cA]
      simp only [fj_L_pairs_107, fj_L_pairs_131, cK, hx.k5, if_true, if_false, bq, e1, e10, mid, eq_self]
  · rw [b01_f c1] at e1
    obtain ⟨M2, e2, s2⟩ := q_con hx1 ht hu
    have hx2 := hx1.tr s2
    obtain ⟨M3, e3, s3⟩ := q_cov hx2 hu ht
    have hx3 := hx2.tr s3
    have eq1 := q_eq hx1 ht hu
    rw [b01_f (fun h => c1 (eE.mp h).1)] at eq1
    refine ⟨M3, ?_, s1.trans (s2.trans s3)⟩
    have mid : fj_L_pairs_132 x (nI R) x2 x3 (nI t) (nI u) (uns (row g u) (row g t) 4) 0 0 M1 = some (.inl (1, 0, nI (u + 1), M3)) := by
      by_cases c2 : cov (row g u) (row g t)
      · rw [b01_t c2] at e3
        rw [b01_f (fun h => h.2 c2)] at e2
        simp only [fj_L_pairs_132, fj_L_pairs_190, fj_L_pairs_218, fj_L_pairs_219, fj_L_pairs_250, cK, hx1.k5, hx2.k5, if_true, if_false, bq, Option.bind_some, eq_self, e10, q_uns hx1 hu ht, eq1, e2, e3, last M3 0 hx3 0]
      · rw [b01_f c2] at e3
        rw [b01_t ⟨c1, c2⟩] at e2
        simp only [fj_L_pairs_132, fj_L_pairs_190, fj_L_pairs_218, fj_L_pairs_219, fj_L_pairs_250, cK, hx1.k5, hx2.k5, if_true, if_false, bq, Option.bind_some, eq_self, e10, q_uns hx1 hu ht, eq1, e2, e3, last M3 0 hx3 1]
    rw [b01_f (P := A ∧ cov (row g t) (row g u)) (fun h => c1 h.2)]
    by_cases cA : A
    · rw [b01_t cA]
      simp only [fj_L_pairs_107, fj_L_pairs_131, cK, hx.k5, if_true, if_false, bq, e1, e10, mid, eq_self]
    · rw [b01_f cA]
      simp only [fj_L_pairs_107, fj_L_pairs_131, cK, hx.k5, if_true, if_false, bq, e1, e10, mid, eq_self]
theorem p_by (hx : Cx x w p M g R C Q m n) (hk : Wk n R C Q m g) (hn : n < 1000000) (ht : t < R) (hu : u < R) {A : Prop} (x2 x3 : Int32) : ∃ M', fj_L_pairs_69 x (nI R) x2 x3 (nI t) (b01 A) (nI u) 0 0 M = some (.inl (1, b01 (A ∧ cov (row g t) (row g u)), nI (u + 1), M')) ∧ CSim x M M' := by
  have hR := hx.Rle
  obtain ⟨M', e, cs⟩ := p_tail hx hk hn ht hu (A := A) x2 x3
  refine ⟨M', ?_, cs⟩
  have eR := uns_R (a := row g u) (b := row g t) (R := R) (fun j h1 h2 => ⟨hk.oc hu j (by omega) (by omega), hk.oc ht j (by omega) (by omega)⟩) hR.2.1
  unfold fj_L_pairs_69
  refine loopM_run (st := fun i => (uns (row g u) (row g t) i, nI i, M)) (N := R) rfl (fun i hi => ?_) ?_ (FUn (by omega))
  · have hl : ¬ (nI R ≤ nI i) := nI_ge hi (by omega)
    have ei : nI i + 1 = nI (i + 1) := nI_add i 1
    have ed : uns (row g u) (row g t) i + (if 0 < row g u i - row g t i then row g u i - row g t i else 0) = uns (row g u) (row g t) (i + 1) := by
      show _ = uns (row g u) (row g t) i + (if row g u i - row g t i ≤ 0 then 0 else row g u i - row g t i)
      by_cases c : row g u i - row g t i ≤ 0
      · rw [if_pos c, if_neg (Int32.not_lt.mpr c)]
      · rw [if_neg c, if_pos (Int32.not_le.mp c)]
    simp only [fc_L_pairs_69, cK, hx.k5, if_true, if_false, bq, bn, bx, Option.bind_some, Option.map_some, eq_self, reduceIte, hl, q_ver hx hu hi, q_ver hx ht hi, ed, ei]
  · have hl : nI R ≤ nI R := Int32.le_refl _
    dsimp only
    rw [eR]
    simp only [fc_L_pairs_69, hl, if_true, e, Option.map_some]
theorem p_o (hx : Cx x w p M g R C Q m n) (hk : Wk n R C Q m g) (hn : n < 1000000) (ht : t < R) (c s : Nat) : ∃ y, fj_L_pairs_52 x (nI R) (nI c) (nI s) (nI t) 1 1 0 M = some y ∧ ∃ M', y = .inl (nI (c + if b01 (allC g t R) = 0 then 0 else 1), nI s, 1, nI (t + 1), M') ∧ CSim x M M' := by
  have hR := hx.Rle
  have et : nI t + 1 = nI (t + 1) := nI_add t 1
  unfold fj_L_pairs_52
  refine loopM_inv (N := R) (P := fun i q => q.1 = 1 ∧ q.2.1 = b01 (allC g t i) ∧ q.2.2.1 = nI i ∧ CSim x M q.2.2.2) ⟨rfl, (b01_t (fun j hj => absurd hj (by omega))).symm, rfl, CSim.refl⟩ (fun i q hi hp => ?_) (fun q hp => ?_) (FUn (by omega))
  · obtain ⟨q1, q2, q3, M1⟩ := q
    obtain ⟨a0, a1, a2, a3⟩ := hp
    dsimp only at a0 a1 a2 a3
    subst a0 a1 a2
    have hl : ¬ (nI R ≤ nI i) := nI_ge hi (by omega)
    obtain ⟨M', e, cs⟩ := p_by (hx.tr a3) hk hn ht hi (A := allC g t i) (nI c) (nI s)
    refine ⟨(1, b01 (allC g t i ∧ cov (row g t) (row g i)), nI (i + 1), M'), ?_, rfl, b01_c ⟨fun h j hj => ?_, fun h => ⟨fun j hj => h j (by omega), h i (by omega)⟩⟩, rfl, a3.trans cs⟩
    · simp only [fc_L_pairs_52, hl, if_false, e10, e]
    · by_cases q : j = i
      · subst q; exact h.2
      · exact h.1 j (by omega)
  · obtain ⟨q1, q2, q3, M1⟩ := q
    obtain ⟨a0, a1, a2, a3⟩ := hp
    dsimp only at a0 a1 a2 a3
    subst a0 a1 a2
    have hl : nI R ≤ nI R := Int32.le_refl _
    refine ⟨_, ?_, M1, rfl, a3⟩
    have ec : nI c + 1 = nI (c + 1) := nI_add c 1
    rcases b01_or (allC g t R) with cb | cb
    · rw [cb]
      simp only [fc_L_pairs_52, fj_L_pairs_307, fj_L_pairs_318, hl, if_true, eq_self, Int32.add_zero, Nat.add_zero, et, Option.map_some]
    · rw [cb]
      simp only [fc_L_pairs_52, fj_L_pairs_307, fj_L_pairs_318, hl, if_true, if_false, e10, ec, et, Option.map_some]
theorem dif_pos {g : Nat → Int32} {R : Nat} (hR : 0 < R) : 1 ≤ dif g R := by
  have e : dif g 1 = 1 := dif_t (k := 0) (fun ⟨j, h1, h2, _⟩ => by omega)
  have := @cnt_mono (fun k => ¬ sees g k k) (fun _ => Classical.propDecidable _) 1 R hR
  unfold dif at *; omega
theorem p_end (hx : Cx x w p M g R C Q m n) : ∃ M', fj_L_pairs_326 x (nI R) (nI (shr g R R)) (nI (sm (fun j => cnt (tagE (row g j)) 16) R)) 1 M = some (1, M') ∧ CSim x M M' := by
  have hR := hx.Rle
  have hS : shr g R R ≤ 4 := Nat.le_trans (@cnt_le (fun k => allC g k R) (fun _ => Classical.propDecidable _) R) hR.2.1
  have hT := tags64 g R
  obtain ⟨f1, f2, f3⟩ := fp33 ⟨shr g R R, by omega⟩ ⟨R, by omega⟩ hR.1
  have f4 := fp34 ⟨shr g R R, by omega⟩ ⟨R, by omega⟩ hR.1
  obtain ⟨g1, g2⟩ := fp32 ⟨sm (fun j => cnt (tagE (row g j)) 16) R, by omega⟩ ⟨R, by omega⟩ hR.1
  dsimp only at f1 f2 f3 f4 g1 g2
  obtain ⟨M1, e1, s1⟩ := q_share hx
  have hx1 := hx.tr s1
  have dp := dif_pos (g := g) hR.1
  have dR : dif g R ≤ R := @cnt_le (fun k => ¬ sees g k k) (fun _ => Classical.propDecidable _) R
  have d1 : ¬ (nI (dif g R) < 1) := nI_nlt (b := 1) dp (by omega)
  have d2 : ¬ (nI R < nI (dif g R)) := nI_nlt dR (by omega)
  refine ⟨M1, ?_, s1⟩
  simp only [fj_L_pairs_326, fj_L_pairs_378, cK, hx.k5, hx1.k5, if_true, if_false, bn, Option.bind_some, eq_self, e10, or_true, e1, f1, f4, q_mean hx1, g1, g2, q_diff hx1, d1, d2]
theorem w_pairs (hx : Cx x w p M g R C Q m n) (hk : Wk n R C Q m g) (hn : n < 1000000) : ∃ M', f_L_pairs x M = some (1, M') ∧ CSim x M M' := by
  have hR := hx.Rle
  obtain ⟨M1, e1, s1⟩ := q_conv hx
  have hx1 := hx.tr s1
  have cv : eqS (upR g (R - 1)) (dnR g R (R - 1)) := by
    obtain ⟨φ, f1, _⟩ := hk.lub
    exact conv_ok (fun t ht => hk.wr ht) (fun t ht => f1 t (by omega) (by omega)) hR.1
  rw [b01_f (fun h => h cv)] at e1
  have lp : ∃ y, fj_L_pairs_26 x (nI R) 0 0 1 0 M1 = some y ∧ ∃ M', y = (1, M') ∧ CSim x M1 M' := by
    unfold fj_L_pairs_26
    refine loopM_inv (N := R) (P := fun i q => q.1 = nI (shr g R i) ∧ q.2.1 = nI (sm (fun j => cnt (tagE (row g j)) 16) i) ∧ q.2.2.1 = 1 ∧ q.2.2.2.1 = nI i ∧ CSim x M1 q.2.2.2.2) ⟨rfl, rfl, rfl, rfl, CSim.refl⟩ (fun i q hi hp => ?_) (fun q hp => ?_) (FUn (by omega))
    · obtain ⟨q1, q2, q3, q4, M2⟩ := q
      obtain ⟨a0, a1, a2, a3, a4⟩ := hp
      dsimp only at a0 a1 a2 a3 a4
      subst a0 a1 a2 a3
      have hl : ¬ (nI R ≤ nI i) := nI_ge hi (by omega)
      have hx2 := hx1.tr a4
      obtain ⟨y, e, M', rfl, cs⟩ := p_o hx2 hk hn hi (shr g R i) (sm (fun j => cnt (tagE (row g j)) 16) (i + 1))
      refine ⟨(nI (shr g R i + if b01 (allC g i R) = 0 then 0 else 1), nI (sm (fun j => cnt (tagE (row g j)) 16) (i + 1)), 1, nI (i + 1), M'), ?_, ?_, rfl, rfl, rfl, a4.trans cs⟩
      · simp only [fc_L_pairs_26, cK, hx.k5, if_true, if_false, bq, bn, bx, Option.bind_some, Option.map_some, eq_self, reduceIte, hl, e10, hx2.k5, q_tags hx2 hi, nI_add]
        exact e
      · by_cases c : allC g i R
        · rw [shr_t c, b01_t c, if_neg (by decide)]
        · rw [shr_f c, b01_f c, if_pos rfl]; rfl
    · obtain ⟨q1, q2, q3, q4, M2⟩ := q
      obtain ⟨a0, a1, a2, a3, a4⟩ := hp
      dsimp only at a0 a1 a2 a3 a4
      subst a0 a1 a2 a3
      have hl : nI R ≤ nI R := Int32.le_refl _
      obtain ⟨M', e, cs⟩ := p_end (hx1.tr a4)
      refine ⟨_, ?_, M', rfl, a4.trans cs⟩
      simp only [fc_L_pairs_26, hl, if_true, e, Option.map_some]
  obtain ⟨y, e, M', rfl, cs⟩ := lp
  refine ⟨M', ?_, s1.trans cs⟩
  simp only [f_L_pairs, fj_L_pairs_21, cK, hx.k5, if_true, if_false, bq, bn, bx, Option.bind_some, Option.map_some, eq_self, reduceIte, q_R hx, e1, e]
end PRS
