/-! HOW MANY DIFFERENT STATES; MEANS AND SHARES -/
theorem fp32 : ∀ a : Fin 65, ∀ b : Fin 5, 1 ≤ b.val → nd (FP.ddiv (FP.i2d (nI a.val)) (FP.i2d (nI b.val))) = some (FP.ddiv (FP.i2d (nI a.val)) (FP.i2d (nI b.val))) ∧ Op.cmpValue (FP.dcmp (FP.ddiv (FP.i2d (nI a.val)) (FP.i2d (nI b.val))) (FP.ddiv (FP.i2d (nI a.val)) (FP.i2d (nI b.val)))) CmpOp.l = 0 := by decide
theorem fp33 : ∀ a : Fin 5, ∀ b : Fin 5, 1 ≤ b.val → nf (FP.fdiv (FP.i2f (nI a.val)) (FP.i2f (nI b.val))) = some (FP.fdiv (FP.i2f (nI a.val)) (FP.i2f (nI b.val))) ∧ nd (FP.f2d (FP.fdiv (FP.i2f (nI a.val)) (FP.i2f (nI b.val)))) = some (FP.f2d (FP.fdiv (FP.i2f (nI a.val)) (FP.i2f (nI b.val)))) ∧ Op.cmpValue (FP.dcmp (FP.f2d (FP.fdiv (FP.i2f (nI a.val)) (FP.i2f (nI b.val)))) (FP.f2d (FP.fdiv (FP.i2f (nI a.val)) (FP.i2f (nI b.val))))) CmpOp.l = 0 := by decide
section C5
variable {n x : Nat} {M : Mem}
def sees (g : Nat → Int32) (k i : Nat) : Prop := ∃ j, 0 ≤ j ∧ j < 0 + i ∧ eqS (row g j) (row g k)
noncomputable def dif (g : Nat → Int32) (n : Nat) : Nat := @cnt (fun k => ¬ sees g k k) (fun _ => Classical.propDecidable _) n
theorem dif_t {g : Nat → Int32} {k : Nat} (h : ¬ sees g k k) : dif g (k + 1) = dif g k + 1 := @cnt_t (fun k => ¬ sees g k k) (fun _ => Classical.propDecidable _) k h
theorem dif_f {g : Nat → Int32} {k : Nat} (h : sees g k k) : dif g (k + 1) = dif g k := @cnt_f (fun k => ¬ sees g k k) (fun _ => Classical.propDecidable _) k (fun e => e h)
theorem c_first {w : Nat} {p : Nat → Nat} {g : Nat → Int32} {R C Q m k : Nat} (h : Cx x w p M g R C Q m k) {r : Nat} (hr : r < R) : f_X4_isFirstOfItsKind x (nI r) M = some (b01 (¬ sees g r r), M) := by
  have hR := h.Rle
  haveI : DecidablePred (fun j => eqS (row g j) (row g r)) := fun _ => Classical.propDecidable _
  unfold f_X4_isFirstOfItsKind fj_X4_isFirstOfItsKind_2
  refine Eq.trans (loopM_find (st := fun i => (nI i, M)) (k := 0) (N := r) (fun j => eqS (row g j) (row g r)) (hit := fun i => some (0, M)) (miss := some (1, M)) rfl (fun i _ hi q => ?_) (fun i _ hi q => ?_) ?_ (by omega) (FUn (by omega))) ?_
  · have hl : ¬ (nI r ≤ nI i) := nI_ge hi (by omega)
    have es := X2_same (h.cl (show i < 4 + m by omega)).1 (h.cl (show r < 4 + m by omega)).1
    rw [b01_c (eqS_congr (h.cl (show i < 4 + m by omega)).2.1 (h.cl (show r < 4 + m by omega)).2.1), b01_f q] at es
    have ei : nI i + 1 = nI (i + 1) := nI_add i 1
    simp only [fc_X4_isFirstOfItsKind_2, hl, if_false, h.w134, h.r100, repB h (show i < R by omega), repB h hr, Option.bind_some, cK, h.s3 (show i < 4 + m by omega), if_true, es, bn, ei]
  · have hl : ¬ (nI r ≤ nI i) := nI_ge hi (by omega)
    have es := X2_same (h.cl (show i < 4 + m by omega)).1 (h.cl (show r < 4 + m by omega)).1
    rw [b01_c (eqS_congr (h.cl (show i < 4 + m by omega)).2.1 (h.cl (show r < 4 + m by omega)).2.1), b01_t q] at es
    simp only [fc_X4_isFirstOfItsKind_2, fj_X4_isFirstOfItsKind_31, hl, if_false, h.w134, h.r100, repB h (show i < R by omega), repB h hr, Option.bind_some, cK, h.s3 (show i < 4 + m by omega), if_true, es, bn, e10, Option.map_some]
  · have hl : nI r ≤ nI r := Int32.le_refl _
    simp only [fc_X4_isFirstOfItsKind_2, fj_X4_isFirstOfItsKind_39, hl, if_true, Option.map_some]
  · refine (firstF_ex (fun j => eqS (row g j) (row g r)) (some ((1 : Int32), M)) (some (0, M)) (r - 0) 0).trans ?_
    by_cases c : sees g r r
    · rw [if_pos (show ∃ j, 0 ≤ j ∧ j < 0 + (r - 0) ∧ eqS (row g j) (row g r) from c), b01_f (fun e => e c)]
    · rw [if_neg (show ¬ ∃ j, 0 ≤ j ∧ j < 0 + (r - 0) ∧ eqS (row g j) (row g r) from c), b01_t c]
theorem case_11 (hI : Inv n x M) : fk_law_11 x (x + 60) (x + 68) M (Inv (n + 1) x) := by
  obtain ⟨w, p, R, C, Q, m, hx⟩ := hI.cx
  have hR := hx.Rle
  have hc := hx.2.2.2.1
  refine lw_plain (F := f_X4_differentStates x M) (G := f_X5_differentStates (x + 60)) hI ⟨nI (dif (mA M (x + 62)) R), M, ?_, CSim.refl, fun M2 f2 => ⟨mA M (x + 62), ?_, fun q _ => rfl⟩⟩
  · unfold f_X4_differentStates fj_X4_differentStates_4
    refine loopM_run (st := fun i => (nI (dif (mA M (x + 62)) i), nI i, M)) (N := R) rfl (fun i hi => ?_) ?_ (FUn (by omega))
    · have hl : ¬ (nI R ≤ nI i) := nI_ge hi (by omega)
      have ei : nI i + 1 = nI (i + 1) := nI_add i 1
      by_cases c : sees (mA M (x + 62)) i i
      · have e := c_first hx hi
        rw [b01_f (fun e => e c)] at e
        rw [dif_f c]
        simp only [fc_X4_differentStates_4, fj_X4_differentStates_26, cK, hx.k5, if_true, if_false, bx_l, bx_r, bn, Option.bind_some, Option.map_some, b01_or, hx.w134, hx.r100, hx.r101, hx.r102, hx.i96, hx.i97, hx.i98, hx.i99, hl, e, ei]
      · have e := c_first hx hi
        rw [b01_t c] at e
        have ed : nI (dif (mA M (x + 62)) i) + 1 = nI (dif (mA M (x + 62)) i + 1) := nI_add _ 1
        rw [dif_t c]
        simp only [fc_X4_differentStates_4, fj_X4_differentStates_26, cK, hx.k5, if_true, if_false, bx_l, bx_r, bn, Option.bind_some, Option.map_some, b01_or, hx.w134, hx.r100, hx.r101, hx.r102, hx.i96, hx.i97, hx.i98, hx.i99, hl, e, e10, ei, ed]
    · have hl : nI R ≤ nI R := Int32.le_refl _
      simp only [fc_X4_differentStates_4, fj_X4_differentStates_32, cK, hx.k5, if_true, if_false, bx_l, bx_r, bn, Option.bind_some, Option.map_some, b01_or, hx.w134, hx.r100, hx.r101, hx.r102, hx.i96, hx.i97, hx.i98, hx.i99, hl]
  · have g0 : gA 9 (x + 62) 0 (wA M2 (x + 62) (mA M (x + 62))) = some (nI R) := by rw [← hc.1]; exact gNow f2.rn (i := 0) (by omega)
    have inner : ∀ k acc, k < R → fj_X5_differentStates_19 (x + 60) (nI acc) (nI k) 0 0 (wA M2 (x + 62) (mA M (x + 62))) = some (.inl (nI (acc + @ite Nat (sees (mA M (x + 62)) k k) (Classical.propDecidable _) 0 1), nI (k + 1), wA M2 (x + 62) (mA M (x + 62)))) := by
      intro k acc hk
      unfold fj_X5_differentStates_19
      refine loopM_run (st := fun i => (b01 (sees (mA M (x + 62)) k i), nI i, wA M2 (x + 62) (mA M (x + 62)))) (N := k) ?_ (fun i hi => ?_) ?_ (FUn (by omega))
      · show _ = (b01 (sees (mA M (x + 62)) k 0), nI 0, _)
        rw [b01_f (fun ⟨j, _, h, _⟩ => by omega)]; rfl
      · have hl : ¬ (nI k ≤ nI i) := nI_ge hi (by omega)
        have ei : nI i + 1 = nI (i + 1) := nI_add i 1
        by_cases c : sees (mA M (x + 62)) k i
        · have c' : sees (mA M (x + 62)) k (i + 1) := by obtain ⟨j, h1, h2, h3⟩ := c; exact ⟨j, h1, by omega, h3⟩
          rw [b01_t c, b01_t c']
          simp only [fc_X5_differentStates_19, fj_X5_differentStates_39, fj_X5_differentStates_44, hl, if_false, e10, ei]
        · have ea := X5_alike (g := mA M (x + 62)) f2.rn (t := i) (u := k) (by omega) (by omega)
          by_cases c2 : eqS (row (mA M (x + 62)) i) (row (mA M (x + 62)) k)
          · have c' : sees (mA M (x + 62)) k (i + 1) := ⟨i, by omega, by omega, c2⟩
            rw [b01_t c2] at ea
            rw [b01_f c, b01_t c']
            simp only [fc_X5_differentStates_19, fj_X5_differentStates_39, fj_X5_differentStates_44, cK, kM f2.rn, if_true, if_false, bn, Option.bind_some, Option.map_some, told_eq f2.rn, refuse_eq f2.rn, refuses_eq f2.rn, e10, b01_or, true_or, or_true, hl, ea, ei]
          · have c' : ¬ sees (mA M (x + 62)) k (i + 1) := fun ⟨j, h1, h2, h3⟩ => by
              by_cases e : j = i
              · subst e; exact c2 h3
              · exact c ⟨j, h1, by omega, h3⟩
            rw [b01_f c2] at ea
            rw [b01_f c, b01_f c']
            simp only [fc_X5_differentStates_19, fj_X5_differentStates_39, fj_X5_differentStates_44, cK, kM f2.rn, if_true, if_false, bn, Option.bind_some, Option.map_some, told_eq f2.rn, refuse_eq f2.rn, refuses_eq f2.rn, e10, b01_or, true_or, or_true, hl, ea, ei]
      · have hl : nI k ≤ nI k := Int32.le_refl _
        have ek : nI k + 1 = nI (k + 1) := nI_add k 1
        have ea : nI acc + 1 = nI (acc + 1) := nI_add acc 1
        by_cases c : sees (mA M (x + 62)) k k
        · rw [b01_t c, if_pos c]
          simp only [fc_X5_differentStates_19, fj_X5_differentStates_51, fj_X5_differentStates_61, hl, if_true, e10, if_false, ek, Int32.add_zero, Option.map_some, Nat.add_zero]
        · rw [b01_f c, if_neg c]
          simp only [fc_X5_differentStates_19, fj_X5_differentStates_51, fj_X5_differentStates_61, hl, if_true, ek, ea, Option.map_some]
    unfold f_X5_differentStates fj_X5_differentStates_4
    refine loopM_run (st := fun i => (nI (dif (mA M (x + 62)) i), nI i, wA M2 (x + 62) (mA M (x + 62)))) (N := R) rfl (fun i hi => ?_) ?_ (FUn (by omega))
    · have hl : ¬ (nI R ≤ nI i) := nI_ge hi (by omega)
      simp only [fc_X5_differentStates_4, gW f2.rn, Option.bind_some, g0, hl, if_false, inner i _ hi]
      by_cases c : sees (mA M (x + 62)) i i
      · rw [if_pos c, dif_f c]; rfl
      · rw [if_neg c, dif_t c]
    · have hl : nI R ≤ nI R := Int32.le_refl _
      simp only [fc_X5_differentStates_4, fj_X5_differentStates_69, gW f2.rn, Option.bind_some, g0, hl, cK, kM f2.rn, if_true, if_false, bn, Option.bind_some, Option.map_some, told_eq f2.rn, refuse_eq f2.rn, refuses_eq f2.rn, e10, b01_or, true_or, or_true]
theorem case_32 (hI : Inv n x M) : fk_law_32 x (x + 60) (x + 68) M (Inv (n + 1) x) := by
  obtain ⟨w, p, R, C, Q, m, hx⟩ := hI.cx
  have hR := hx.Rle
  have hc := hx.2.2.2.1
  have fx := hI.fix
  let S : Nat → Nat := sm (fun j => cnt (tagE (row (mA M (x + 62)) j)) 16)
  have hS : S R ≤ 64 := by
    have : ∀ i, S i ≤ 16 * i := by
      intro i
      induction i with
      | zero => exact Nat.le_refl 0
      | succ i ih => show S i + cnt _ 16 ≤ _; have := cnt_le (tagE (row (mA M (x + 62)) i)) 16; omega
    have := this R; omega
  obtain ⟨f1, f2'⟩ := fp32 ⟨S R, by omega⟩ ⟨R, by omega⟩ hR.1
  dsimp only at f1 f2'
  have e1 : f_X4_meanTags x M = some (FP.ddiv (FP.i2d (nI (S R))) (FP.i2d (nI R)), M) := by
    unfold f_X4_meanTags fj_X4_meanTags_4
    refine loopM_run (st := fun i => (nI (S i), nI i, M)) (N := R) rfl (fun i hi => ?_) ?_ (FUn (by omega))
    · have hl : ¬ (nI R ≤ nI i) := nI_ge hi (by omega)
      have ei : nI i + 1 = nI (i + 1) := nI_add i 1
      obtain ⟨c0, d0, e0⟩ := hx.cl (show i < 4 + m by omega)
      have et := X2_presentTags c0
      rw [tags_eq d0 e0] at et
      simp only [fc_X4_meanTags_4, cK, hx.k5, if_true, if_false, bx_l, bx_r, bn, Option.bind_some, Option.map_some, b01_or, hx.w134, hx.r100, hx.r101, hx.r102, hx.i96, hx.i97, hx.i98, hx.i99, hl, repB hx hi, hx.s3 (show i < 4 + m by omega), et, ei, nI_add]
      rfl
    · have hl : nI R ≤ nI R := Int32.le_refl _
      simp only [fc_X4_meanTags_4, fj_X4_meanTags_36, cK, hx.k5, if_true, if_false, bx_l, bx_r, bn, Option.bind_some, Option.map_some, b01_or, hx.w134, hx.r100, hx.r101, hx.r102, hx.i96, hx.i97, hx.i98, hx.i99, hl, f1]
  have e2 : f_X5_meanTags (x + 60) M = some (FP.ddiv (FP.i2d (nI (S R))) (FP.i2d (nI R)), wI M 161 (x + 60) 0) := by
    have rn := fx.rn
    have em : wI M 161 (x + 60) 0 = wA (wI M 161 (x + 60) 0) (x + 62) (mA M (x + 62)) := (wA_id (wI M 161 (x + 60) 0) (x + 62)).symm
    have rn2 : Rn (wI M 161 (x + 60) 0) (x + 60) (x + 62) := rn
    have g0 : gA 9 (x + 62) 0 (wA (wI M 161 (x + 60) 0) (x + 62) (mA M (x + 62))) = some (nI R) := by rw [← hc.1]; exact gNow rn2 (i := 0) (by omega)
    have lp : fj_X5_meanTags_9 (x + 60) 0 0 (wA (wI M 161 (x + 60) 0) (x + 62) (mA M (x + 62))) = some (FP.ddiv (FP.i2d (nI (S R))) (FP.i2d (nI R)), wA (wI M 161 (x + 60) 0) (x + 62) (mA M (x + 62))) := by
      unfold fj_X5_meanTags_9
      refine loopM_run (st := fun i => (nI (S i), nI i, wA (wI M 161 (x + 60) 0) (x + 62) (mA M (x + 62)))) (N := R) rfl (fun i hi => ?_) ?_ (FUn (by omega))
      · have hl : ¬ (nI R ≤ nI i) := nI_ge hi (by omega)
        have ei : nI i + 1 = nI (i + 1) := nI_add i 1
        simp only [fc_X5_meanTags_9, gW rn2, g0, Option.bind_some, hl, if_false, cK, kM rn2, if_true, X5_tagsIn rn2 (show i < 12 by omega), bn, ei, nI_add]
        rfl
      · have hl : nI R ≤ nI R := Int32.le_refl _
        simp only [fc_X5_meanTags_9, fj_X5_meanTags_33, gW rn2, g0, Option.bind_some, hl, if_true, f1, Option.map_some]
    have k6 : (mK M (x + 60) = 6) = True := eq_true rn.1
    simp only [f_X5_meanTags, sI_w, k6, if_true, Option.bind_some]
    rw [em, lp]
  refine ⟨wI M 161 (x + 60) 0, ?_, (hI.sim (M' := wI M 161 (x + 60) 0) ?_).mono (by omega)⟩
  · have k6 : (mK M (x + 60) = 6) = True := eq_true fx.rn.1
    have k5 : (mK M x = 5) = True := eq_true fx.1.1
    simp only [fr_law_32, cK, k5, k6, if_true, bn, e1, e2, f2']
  · have := Sim.told (x := x) (M := M) (v := 0) (g := mA M (x + 62)) (fun q _ => rfl)
    rwa [show wA (wI M 161 (x + 60) 0) (x + 62) (mA M (x + 62)) = wI M 161 (x + 60) 0 from wA_id (wI M 161 (x + 60) 0) (x + 62)] at this
def allC (g : Nat → Int32) (k i : Nat) : Prop := ∀ j, j < i → cov (row g k) (row g j)
noncomputable def shr (g : Nat → Int32) (R n : Nat) : Nat := @cnt (fun k => allC g k R) (fun _ => Classical.propDecidable _) n
theorem shr_t {g : Nat → Int32} {k R : Nat} (h : allC g k R) : shr g R (k + 1) = shr g R k + 1 := @cnt_t (fun k => allC g k R) (fun _ => Classical.propDecidable _) k h
theorem shr_f {g : Nat → Int32} {k R : Nat} (h : ¬ allC g k R) : shr g R (k + 1) = shr g R k := @cnt_f (fun k => allC g k R) (fun _ => Classical.propDecidable _) k h
theorem c_every {w : Nat} {p : Nat → Nat} {g : Nat → Int32} {R C Q m k : Nat} (h : Cx x w p M g R C Q m k) {r : Nat} (hr : r < R) : ∃ M', f_X4_knowsEveryState x (sto w p r) M = some (b01 (allC g r R), M') ∧ CSim x M M' := by
  have hR := h.Rle
  have key : ∀ (c j fuel : Nat) (M1 : Mem), c + j = R → c < fuel → CSim x M M1 → allC g r j → ∃ M', loopM (fun q : (Int32 × Mem) => fc_X4_knowsEveryState_2 x (sto w p r) q.1 q.2) fuel (nI j, M1) = some (b01 (allC g r R), M') ∧ CSim x M M' := by
    intro c
    induction c with
    | zero =>
      intro j fuel M1 e hf hs ha
      obtain ⟨f, rfl⟩ : ∃ f, fuel = f + 1 := ⟨fuel - 1, by omega⟩
      have h1 := h.tr hs
      obtain rfl : j = R := by omega
      refine ⟨M1, ?_, hs⟩
      unfold loopM
      have hl : nI j ≤ nI j := Int32.le_refl _
      simp only [fc_X4_knowsEveryState_2, fj_X4_knowsEveryState_38, h1.w134, h1.i96, Option.bind_some, hl, if_true, Option.map_some, b01_t ha]
    | succ c ih =>
      intro j fuel M1 e hf hs ha
      obtain ⟨f, rfl⟩ : ∃ f, fuel = f + 1 := ⟨fuel - 1, by omega⟩
      have h1 := h.tr hs
      obtain ⟨T, ek⟩ := c_know h1 (show r < 4 + m by omega) (show j < 4 + m by omega)
      have hs2 : CSim x M (wA M1 (x + 31) T) := hs.trans CSim.one
      have hl : ¬ (nI R ≤ nI j) := nI_ge (by omega) (by omega)
      have ej : nI j + 1 = nI (j + 1) := nI_add j 1
      unfold loopM
      by_cases cv : cov (row g r) (row g j)
      · rw [b01_t cv] at ek
        obtain ⟨M', a1, a2⟩ := ih (j + 1) f _ (by omega) (by omega) hs2 (fun i hi => by
          by_cases q : i = j
          · rw [q]; exact cv
          · exact ha i (by omega))
        refine ⟨M', ?_, a2⟩
        rw [← a1]
        simp only [fc_X4_knowsEveryState_2, h1.w134, h1.i96, h1.r100, repB h1 (show j < R by omega), Option.bind_some, hl, if_false, cK, h1.k5, if_true, ek, bn, e10, ej]
      · rw [b01_f cv] at ek
        refine ⟨_, ?_, hs2⟩
        simp only [fc_X4_knowsEveryState_2, fj_X4_knowsEveryState_30, h1.w134, h1.i96, h1.r100, repB h1 (show j < R by omega), Option.bind_some, hl, if_false, cK, h1.k5, if_true, ek, bn, Option.map_some]
        rw [b01_f (fun a => cv (a j (by omega)))]
  exact key R 0 FU M rfl (FUn (by omega)) CSim.refl (fun i hi => by omega)
theorem case_33 (hI : Inv n x M) : fk_law_33 x (x + 60) (x + 68) M (Inv (n + 1) x) := by
  obtain ⟨w, p, R, C, Q, m, hx⟩ := hI.cx
  have hR := hx.Rle
  have hc := hx.2.2.2.1
  have fx := hI.fix
  have hS : shr (mA M (x + 62)) R R ≤ 4 := Nat.le_trans (@cnt_le (fun k => allC (mA M (x + 62)) k R) (fun _ => Classical.propDecidable _) R) hR.2.1
  obtain ⟨f1, f2', f3'⟩ := fp33 ⟨shr (mA M (x + 62)) R R, by omega⟩ ⟨R, by omega⟩ hR.1
  dsimp only at f1 f2' f3'
  have e1 : ∃ y, f_X4_completeShare x M = some y ∧ (y.1 = FP.fdiv (FP.i2f (nI (shr (mA M (x + 62)) R R))) (FP.i2f (nI R)) ∧ CSim x M y.2) := by
    unfold f_X4_completeShare fj_X4_completeShare_4
    refine loopM_inv (N := R) (P := fun i s => s.1 = nI (shr (mA M (x + 62)) R i) ∧ s.2.1 = nI i ∧ CSim x M s.2.2) ⟨rfl, rfl, CSim.refl⟩ (fun i s hi hp => ?_) (fun s hp => ?_) (FUn (by omega))
    · obtain ⟨s1, s2, M1⟩ := s
      obtain ⟨a1, a2, a3⟩ := hp
      dsimp only at a1 a2 a3
      subst a1 a2
      have h1 := hx.tr a3
      obtain ⟨M', ek, ec⟩ := c_every h1 hi
      have hl : ¬ (nI R ≤ nI i) := nI_ge hi (by omega)
      have ei : nI i + 1 = nI (i + 1) := nI_add i 1
      have ea : nI (shr (mA M (x + 62)) R i) + 1 = nI (shr (mA M (x + 62)) R i + 1) := nI_add _ 1
      by_cases c : allC (mA M (x + 62)) i R
      · rw [b01_t c] at ek
        refine ⟨(nI (shr (mA M (x + 62)) R (i + 1)), nI (i + 1), M'), ?_, rfl, rfl, a3.trans ec⟩
        rw [shr_t c]
        simp only [fc_X4_completeShare_4, fj_X4_completeShare_34, h1.w134, h1.i96, h1.r100, repB h1 hi, Option.bind_some, hl, if_false, cK, h1.k5, if_true, ek, bn, e10, ei, ea]
      · rw [b01_f c] at ek
        refine ⟨(nI (shr (mA M (x + 62)) R (i + 1)), nI (i + 1), M'), ?_, rfl, rfl, a3.trans ec⟩
        rw [shr_f c]
        simp only [fc_X4_completeShare_4, fj_X4_completeShare_34, h1.w134, h1.i96, h1.r100, repB h1 hi, Option.bind_some, hl, if_false, cK, h1.k5, if_true, ek, bn, ei]
    · obtain ⟨s1, s2, M1⟩ := s
      obtain ⟨a1, a2, a3⟩ := hp
      dsimp only at a1 a2 a3
      subst a1 a2
      have h1 := hx.tr a3
      have hl : nI R ≤ nI R := Int32.le_refl _
      refine ⟨(FP.fdiv (FP.i2f (nI (shr (mA M (x + 62)) R R))) (FP.i2f (nI R)), M1), ?_, rfl, a3⟩
      simp only [fc_X4_completeShare_4, fj_X4_completeShare_40, h1.w134, h1.i96, Option.bind_some, hl, if_true, f1, Option.map_some]
  obtain ⟨⟨v1, M1⟩, e1, rfl, cs⟩ := e1
  have fx1 := fx.sim cs.sim
  have e2 : ∃ y, f_X5_completeShare (x + 60) M1 = some y ∧ (∃ g' : Nat → Int32, y = (FP.fdiv (FP.i2f (nI (shr (mA M (x + 62)) R R))) (FP.i2f (nI R)), wA (wI M1 161 (x + 60) 0) (x + 62) g') ∧ ∀ q, q < 1330 → g' q = mA M1 (x + 62) q) := by
    have rn := fx1.rn
    have rn2 : Rn (wI M1 161 (x + 60) 0) (x + 60) (x + 62) := rn
    have em : wI M1 161 (x + 60) 0 = wA (wI M1 161 (x + 60) 0) (x + 62) (mA M1 (x + 62)) := (wA_id (wI M1 161 (x + 60) 0) (x + 62)).symm
    have en := cs.now
    have g0 : ∀ g' : Nat → Int32, (∀ q, q < 1330 → g' q = mA M1 (x + 62) q) → gA 9 (x + 62) 0 (wA (wI M1 161 (x + 60) 0) (x + 62) g') = some (nI R) := fun g' hg => by
      rw [← hc.1, ← en, ← hg 0 (by omega)]; exact gNow rn2 (i := 0) (by omega)
    have rc : ∀ g' : Nat → Int32, (∀ q, q < 1330 → g' q = mA M1 (x + 62) q) → ∀ t, t < 10 → ∀ i, i < 132 → row g' t i = row (mA M (x + 62)) t i := fun g' hg t ht i hi => by
      rw [← en]; exact hg _ (by rw [bs_eq]; omega)
    have inner : ∀ k acc g', k < R → (∀ q, q < 1330 → g' q = mA M1 (x + 62) q) → ∃ y, fj_X5_completeShare_24 (x + 60) (nI acc) (nI k) 1 0 (wA (wI M1 161 (x + 60) 0) (x + 62) g') = some y ∧ (∃ g'' : Nat → Int32, y = .inl (nI (acc + @ite Nat (allC (mA M (x + 62)) k R) (Classical.propDecidable _) 1 0), nI (k + 1), wA (wI M1 161 (x + 60) 0) (x + 62) g'') ∧ ∀ q, q < 1330 → g'' q = mA M1 (x + 62) q) := by
      intro k acc g' hk hg
      unfold fj_X5_completeShare_24
      refine loopM_inv (N := R) (P := fun i s => s.1 = b01 (allC (mA M (x + 62)) k i) ∧ s.2.1 = nI i ∧ ∃ g'' : Nat → Int32, s.2.2 = wA (wI M1 161 (x + 60) 0) (x + 62) g'' ∧ ∀ q, q < 1330 → g'' q = mA M1 (x + 62) q) ⟨(b01_t (fun j hj => by omega)).symm, rfl, g', rfl, hg⟩ (fun i s hi hp => ?_) (fun s hp => ?_) (FUn (by omega))
      · obtain ⟨s1, s2, s3⟩ := s
        obtain ⟨a1, a2, g2, a3, a4⟩ := hp
        dsimp only at a1 a2 a3
        subst a1 a2 a3
        have hl : ¬ (nI R ≤ nI i) := nI_ge hi (by omega)
        have ei : nI i + 1 = nI (i + 1) := nI_add i 1
        by_cases c : allC (mA M (x + 62)) k i
        · have ec := X5_covd (g := g2) rn2 (show i < 10 by omega) (show k < 10 by omega)
          rw [b01_c (cov_congr (rc g2 a4 k (by omega)) (rc g2 a4 i (by omega)))] at ec
          by_cases c2 : cov (row (mA M (x + 62)) k) (row (mA M (x + 62)) i)
          · rw [b01_t c2] at ec
            refine ⟨(1, nI (i + 1), wA (wI M1 161 (x + 60) 0) (x + 62) (put g2 10 (absR (row g2 k) (row g2 i)))), ?_, (b01_t (fun j hj => by by_cases q : j = i; rw [q]; exact c2; exact c j (by omega))).symm, rfl, put g2 10 (absR (row g2 k) (row g2 i)), rfl, fun q hq => (put_hi (by omega) hq).trans (a4 q hq)⟩
            rw [b01_t c]
            simp only [fc_X5_completeShare_24, fj_X5_completeShare_54, gW rn2, g0 g2 a4, Option.bind_some, hl, if_false, e10, cK, kM rn2, if_true, ec, bn, ei]
          · rw [b01_f c2] at ec
            refine ⟨(0, nI (i + 1), wA (wI M1 161 (x + 60) 0) (x + 62) (put g2 10 (absR (row g2 k) (row g2 i)))), ?_, (b01_f (fun a => c2 (a i (by omega)))).symm, rfl, put g2 10 (absR (row g2 k) (row g2 i)), rfl, fun q hq => (put_hi (by omega) hq).trans (a4 q hq)⟩
            rw [b01_t c]
            simp only [fc_X5_completeShare_24, fj_X5_completeShare_53, fj_X5_completeShare_54, gW rn2, g0 g2 a4, Option.bind_some, hl, if_false, e10, cK, kM rn2, if_true, ec, bn, ei]
        · refine ⟨(0, nI (i + 1), wA (wI M1 161 (x + 60) 0) (x + 62) g2), ?_, (b01_f (fun a => c (fun j hj => a j (by omega)))).symm, rfl, g2, rfl, a4⟩
          rw [b01_f c]
          simp only [fc_X5_completeShare_24, fj_X5_completeShare_53, fj_X5_completeShare_54, gW rn2, g0 g2 a4, Option.bind_some, hl, if_false, if_true, ei]
      · obtain ⟨s1, s2, s3⟩ := s
        obtain ⟨a1, a2, g2, a3, a4⟩ := hp
        dsimp only at a1 a2 a3
        subst a1 a2 a3
        have hl : nI R ≤ nI R := Int32.le_refl _
        have ek : nI k + 1 = nI (k + 1) := nI_add k 1
        have ea : nI acc + 1 = nI (acc + 1) := nI_add acc 1
        refine ⟨_, ?_, g2, rfl, a4⟩
        by_cases c : allC (mA M (x + 62)) k R
        · rw [b01_t c, if_pos c]
          simp only [fc_X5_completeShare_24, fj_X5_completeShare_61, fj_X5_completeShare_71, gW rn2, g0 g2 a4, Option.bind_some, hl, if_true, e10, if_false, ek, ea, Option.map_some]
        · rw [b01_f c, if_neg c]
          simp only [fc_X5_completeShare_24, fj_X5_completeShare_61, fj_X5_completeShare_71, gW rn2, g0 g2 a4, Option.bind_some, hl, if_true, ek, Int32.add_zero, Option.map_some, Nat.add_zero]
    have lp : ∃ y, fj_X5_completeShare_9 (x + 60) 0 0 (wI M1 161 (x + 60) 0) = some y ∧ (∃ g' : Nat → Int32, y = (FP.fdiv (FP.i2f (nI (shr (mA M (x + 62)) R R))) (FP.i2f (nI R)), wA (wI M1 161 (x + 60) 0) (x + 62) g') ∧ ∀ q, q < 1330 → g' q = mA M1 (x + 62) q) := by
      unfold fj_X5_completeShare_9
      refine loopM_inv (N := R) (P := fun i s => s.1 = nI (shr (mA M (x + 62)) R i) ∧ s.2.1 = nI i ∧ ∃ g'' : Nat → Int32, s.2.2 = wA (wI M1 161 (x + 60) 0) (x + 62) g'' ∧ ∀ q, q < 1330 → g'' q = mA M1 (x + 62) q) ⟨rfl, rfl, mA M1 (x + 62), em, fun q _ => rfl⟩ (fun i s hi hp => ?_) (fun s hp => ?_) (FUn (by omega))
      · obtain ⟨s1, s2, s3⟩ := s
        obtain ⟨a1, a2, g2, a3, a4⟩ := hp
        dsimp only at a1 a2 a3
        subst a1 a2 a3
        have hl : ¬ (nI R ≤ nI i) := nI_ge hi (by omega)
        obtain ⟨y, b1, g3, rfl, b2⟩ := inner i (shr (mA M (x + 62)) R i) g2 hi a4
        refine ⟨(nI (shr (mA M (x + 62)) R (i + 1)), nI (i + 1), wA (wI M1 161 (x + 60) 0) (x + 62) g3), ?_, rfl, rfl, g3, rfl, b2⟩
        simp only [fc_X5_completeShare_9, gW rn2, g0 g2 a4, Option.bind_some, hl, if_false, b1]
        by_cases c : allC (mA M (x + 62)) i R
        · rw [if_pos c, shr_t c]
        · rw [if_neg c, shr_f c]; rfl
      · obtain ⟨s1, s2, s3⟩ := s
        obtain ⟨a1, a2, g2, a3, a4⟩ := hp
        dsimp only at a1 a2 a3
        subst a1 a2 a3
        have hl : nI R ≤ nI R := Int32.le_refl _
        refine ⟨_, ?_, g2, rfl, a4⟩
        simp only [fc_X5_completeShare_9, fj_X5_completeShare_79, gW rn2, g0 g2 a4, Option.bind_some, hl, if_true, f1, Option.map_some]
    have k6 : (mK M1 (x + 60) = 6) = True := eq_true rn.1
    simp only [f_X5_completeShare, sI_w, k6, if_true, Option.bind_some]
    exact lp
  obtain ⟨y, e2, g', rfl, hg⟩ := e2
  refine ⟨wA (wI M1 161 (x + 60) 0) (x + 62) g', ?_, ((hI.sim cs.sim).sim (Sim.told hg)).mono (by omega)⟩
  have k5 : (mK M x = 5) = True := eq_true fx.1.1
  have k6 : (mK M1 (x + 60) = 6) = True := eq_true fx1.rn.1
  simp only [fr_law_33, cK, k5, k6, if_true, bn, e1, e2, f2', f3', Option.bind_some]
end C5
