/-! THE READS THAT TRY A MERGE, COUNT OR SEARCH -/
section C3
variable {n x : Nat} {M : Mem}
abbrev missE (a b : Nat → Int32) (i : Nat) : Prop := tagE a i ∧ lve b (36 + 4 * i) = 0
theorem miss_eq {k : Nat} {a b r s : Nat → Int32} (e : ∀ i, i < 132 → a i = r i) (h : WFr k r) (e' : ∀ i, i < 132 → b i = s i) (h' : WFr k s) : cnt (missP a b) 16 = cnt (missE r s) 16 := cnt_congr (fun i hi => by
  unfold missP missE tagP tagE
  rw [dl (f := 36 + i * 4) (f' := 36 + 4 * i) e h (by omega) (by omega), dl (f := 36 + i * 4) (f' := 36 + 4 * i) e' h' (by omega) (by omega)])
theorem lve_congr {a b : Nat → Int32} {f : Nat} (e : ∀ i, i < 132 → a i = b i) (hf : f + 4 ≤ 132) : lve a f = lve b f := cnt_congr (fun j hj => by rw [e _ (by omega)])
theorem X5_only {m w t u : Nat} {g : Nat → Int32} (hR : Rn M m w) (ht : t < 12) (hu : u < 12) : f_X5_tagsOnlyIn m (nI t) (nI u) (wA M w g) = some (nI (cnt (missE (row g t) (row g u)) 16), wA M w g) := by
  unfold f_X5_tagsOnlyIn fj_X5_tagsOnlyIn_5
  refine loopM_run (st := fun i => (nI (cnt (missE (row g t) (row g u)) i), nI i, wA M w g)) (N := 16) rfl (fun i hi => ?_) ?_ (FUn (by decide))
  · have hl := lve_lt (row g t) (36 + 4 * i)
    have hl' := lve_lt (row g u) (36 + 4 * i)
    by_cases q : tagE (row g t) i
    · by_cases q2 : lve (row g u) (36 + 4 * i) = 0
      · rw [cnt_t ⟨q, q2⟩]
        simp (disch := omega) only [fc_X5_tagsOnlyIn_5, fj_X5_tagsOnlyIn_38, X5_live hR ht hi, X5_live hR hu hi, cK, kM hR, nI_add, nI_mul, nI_sub, nI_div, nI_leT, nI_leF, nI_ltT, nI_ltF, nI_eqT, nI_eqF, nI_neg, nI_cl, lit_nI, nI_nlt0, if_true, if_false, if_pos, if_neg, true_and, and_true, not_false_eq_true, or_self, or_false, false_or, reduceIte, and_self, not_true_eq_false, ne_eq, bn, if_true]
      · rw [cnt_f (fun e => q2 e.2)]
        simp (disch := omega) only [fc_X5_tagsOnlyIn_5, fj_X5_tagsOnlyIn_37, fj_X5_tagsOnlyIn_38, X5_live hR ht hi, X5_live hR hu hi, cK, kM hR, nI_add, nI_mul, nI_sub, nI_div, nI_leT, nI_leF, nI_ltT, nI_ltF, nI_eqT, nI_eqF, nI_neg, nI_cl, lit_nI, nI_nlt0, if_true, if_false, if_pos, if_neg, true_and, and_true, not_false_eq_true, or_self, or_false, false_or, reduceIte, and_self, not_true_eq_false, ne_eq, bn, if_true, Nat.add_zero]
    · rw [cnt_f (fun e => q e.1)]
      simp (disch := omega) only [fc_X5_tagsOnlyIn_5, fj_X5_tagsOnlyIn_37, fj_X5_tagsOnlyIn_38, X5_live hR ht hi, X5_live hR hu hi, cK, kM hR, nI_add, nI_mul, nI_sub, nI_div, nI_leT, nI_leF, nI_ltT, nI_ltF, nI_eqT, nI_eqF, nI_neg, nI_cl, lit_nI, nI_nlt0, if_true, if_false, if_pos, if_neg, true_and, and_true, not_false_eq_true, or_self, or_false, false_or, reduceIte, and_self, not_true_eq_false, ne_eq, bn, if_true, Nat.add_zero]
  · simp (disch := omega) only [fc_X5_tagsOnlyIn_5, fj_X5_tagsOnlyIn_46, nI_add, nI_mul, nI_sub, nI_div, nI_leT, nI_leF, nI_ltT, nI_ltF, nI_eqT, nI_eqF, nI_neg, nI_cl, lit_nI, nI_nlt0, if_true, if_false, if_pos, if_neg, true_and, and_true, not_false_eq_true, or_self, or_false, false_or, reduceIte, and_self, not_true_eq_false, ne_eq, Option.map_some]
theorem trial_ref {m w t s : Nat} {g : Nat → Int32} (hR : Rn M m w) (ht : t < 10) (hs : s < 10) : f_X5_copies m 10 (nI t) (wA M w g) = some (wA M w (put g 10 (row g t))) ∧ f_X5_merges m 10 (nI s) (wA M w (put g 10 (row g t))) = some (wA M w (put g 10 (absR (row g t) (row g s)))) := by
  refine ⟨X5_copies (t := 10) hR (by omega) (by omega), ?_⟩
  have e2 := X5_merges (g := put g 10 (row g t)) hR (t := 10) (by omega) (u := s) (by omega)
  have e3 : put (put g 10 (row g t)) 10 (absR (row (put g 10 (row g t)) 10) (row (put g 10 (row g t)) s)) = put g 10 (absR (row g t) (row g s)) := by
    rw [put_put]; exact put_congr (fun i hi => absR_congr (fun i hi => row_put hi) (fun i hi => row_put_ne hi (by omega)) hi)
  rw [e3] at e2
  exact e2
theorem missE_congr {a b a' b' : Nat → Int32} (e : ∀ i, i < 132 → a i = a' i) (e' : ∀ i, i < 132 → b i = b' i) : cnt (missE a b) 16 = cnt (missE a' b') 16 := cnt_congr (fun i hi => by
  unfold missE tagE
  rw [lve_congr e (by omega), lve_congr e' (by omega)])
theorem case_26 (hI : Inv n x M) {a b : Int32} : fk_law_26 x (x + 60) (x + 68) a b M (Inv (n + 1) x) := by
  obtain ⟨w, p, R, C, Q, m, hx⟩ := hI.cx
  have hR := hx.Rle
  have hc := hx.2.2.2.1
  refine lw_int (H := hnd1 0) (F := f_X4_tagsGained x a b M) (G := f_X5_tagsGained (x + 60) a b) (E := 0) (kx := 1) hI (by decide) (fun M => rfl) ?_
  rcases rng a R (by omega) with ⟨r, hr, rfl⟩ | ha
  · rcases rng b R (by omega) with ⟨s, hs, rfl⟩ | hb
    · obtain ⟨c0, d0, e0⟩ := hx.cl (show r < 4 + m by omega)
      obtain ⟨c1, d1, e1⟩ := hx.cl (show s < 4 + m by omega)
      obtain ⟨T, ek, et⟩ := c_mot hx (show r < 4 + m by omega) (show s < 4 + m by omega)
      have hx1 := hx.tr (CSim.one (x := x) (M := M) (f := T))
      have ew := X2_tagsMissingIn hx1.trial (hx1.cl (show r < 4 + m by omega)).1
      rw [wA_self, mA_ne (hx.cne (show r < 4 + m by omega)).1, miss_eq et (e0.absR e1) d0 e0] at ew
      have k3 : (mK (wA M (x + 31) T) (x + 30) = 3) = True := eq_true hx1.trial.1
      refine Or.inl ⟨nI (cnt (missE (absR (row (mA M (x + 62)) r) (row (mA M (x + 62)) s)) (row (mA M (x + 62)) r)) 16), wA M (x + 31) T, ?_, CSim.one, fun M2 f2 => ⟨put (mA M (x + 62)) 10 (absR (row (mA M (x + 62)) r) (row (mA M (x + 62)) s)), ?_, fun q hq => put_hi (by omega) hq⟩⟩
      · simp only [f_X4_tagsGained, cK, hx.k5, if_true, if_false, bx_l, bx_r, bn, Option.bind_some, Option.map_some, b01_or, hx.w134, hx.r100, hx.r101, hx.r102, hx.i96, hx.i97, hx.i98, hx.i99, sta_ok hx hr, sta_ok hx hs, ek, k3, ew]
      · obtain ⟨t1, t2⟩ := trial_ref (g := mA M (x + 62)) f2.rn (show r < 10 by omega) (show s < 10 by omega)
        have t3 : f_X5_tagsOnlyIn (x + 60) 10 (nI r) (wA M2 (x + 62) (put (mA M (x + 62)) 10 (absR (row (mA M (x + 62)) r) (row (mA M (x + 62)) s)))) = _ := X5_only f2.rn (t := 10) (u := r) (by omega) (by omega)
        rw [missE_congr (fun i hi => row_put hi) (fun i hi => row_put_ne hi (show r ≠ 10 by omega))] at t3
        simp only [f_X5_tagsGained, cK, kM f2.rn, if_true, if_false, bn, Option.bind_some, Option.map_some, told_eq f2.rn, refuse_eq f2.rn, refuses_eq f2.rn, e10, b01_or, true_or, or_true, areR_ok f2.rn hr hs hR.2.1 hc.1, t1, t2, t3]
    · refine Or.inr ⟨M, ?_, CSim.refl, fun M2 f2 => ⟨0, mA M (x + 62), ?_, fun q _ => rfl⟩⟩
      · simp only [f_X4_tagsGained, cK, hx.k5, if_true, if_false, bx_l, bx_r, bn, Option.bind_some, Option.map_some, b01_or, hx.w134, hx.r100, hx.r101, hx.r102, hx.i96, hx.i97, hx.i98, hx.i99, sta_ok hx hr, sta_no hx hb]
      · simp only [f_X5_tagsGained, cK, kM f2.rn, if_true, if_false, bn, Option.bind_some, Option.map_some, told_eq f2.rn, refuse_eq f2.rn, refuses_eq f2.rn, e10, b01_or, true_or, or_true, areR_no f2.rn (Or.inr hb) hR.2.1 hc.1]
  · refine Or.inr ⟨M, ?_, CSim.refl, fun M2 f2 => ⟨0, mA M (x + 62), ?_, fun q _ => rfl⟩⟩
    · simp only [f_X4_tagsGained, cK, hx.k5, if_true, if_false, bx_l, bx_r, bn, Option.bind_some, Option.map_some, b01_or, hx.w134, hx.r100, hx.r101, hx.r102, hx.i96, hx.i97, hx.i98, hx.i99, sta_no hx ha]
    · simp only [f_X5_tagsGained, cK, kM f2.rn, if_true, if_false, bn, Option.bind_some, Option.map_some, told_eq f2.rn, refuse_eq f2.rn, refuses_eq f2.rn, e10, b01_or, true_or, or_true, areR_no f2.rn (Or.inl ha) hR.2.1 hc.1]
theorem case_27 (hI : Inv n x M) {a b : Int32} : fk_law_27 x (x + 60) (x + 68) a b M (Inv (n + 1) x) := by
  obtain ⟨w, p, R, C, Q, m, hx⟩ := hI.cx
  have hR := hx.Rle
  have hc := hx.2.2.2.1
  refine lw_int (H := hnd1 0) (F := f_X4_tagsLost x a b M) (G := f_X5_tagsLost (x + 60) a b) (E := 0) (kx := 1) hI (by decide) (fun M => rfl) ?_
  rcases rng a R (by omega) with ⟨r, hr, rfl⟩ | ha
  · rcases rng b R (by omega) with ⟨s, hs, rfl⟩ | hb
    · obtain ⟨c0, d0, e0⟩ := hx.cl (show r < 4 + m by omega)
      obtain ⟨c1, d1, e1⟩ := hx.cl (show s < 4 + m by omega)
      obtain ⟨T, ek, et⟩ := c_mot hx (show r < 4 + m by omega) (show s < 4 + m by omega)
      have hx1 := hx.tr (CSim.one (x := x) (M := M) (f := T))
      have ew := X2_tagsMissingIn (hx1.cl (show r < 4 + m by omega)).1 hx1.trial
      rw [wA_self, mA_ne (hx.cne (show r < 4 + m by omega)).1, miss_eq d0 e0 et (e0.absR e1)] at ew
      have k3 := hx1.s3 (show r < 4 + m by omega)
      refine Or.inl ⟨nI (cnt (missE (row (mA M (x + 62)) r) (absR (row (mA M (x + 62)) r) (row (mA M (x + 62)) s))) 16), wA M (x + 31) T, ?_, CSim.one, fun M2 f2 => ⟨put (mA M (x + 62)) 10 (absR (row (mA M (x + 62)) r) (row (mA M (x + 62)) s)), ?_, fun q hq => put_hi (by omega) hq⟩⟩
      · simp only [f_X4_tagsLost, cK, hx.k5, if_true, if_false, bx_l, bx_r, bn, Option.bind_some, Option.map_some, b01_or, hx.w134, hx.r100, hx.r101, hx.r102, hx.i96, hx.i97, hx.i98, hx.i99, sta_ok hx hr, sta_ok hx hs, ek, k3, ew]
      · obtain ⟨t1, t2⟩ := trial_ref (g := mA M (x + 62)) f2.rn (show r < 10 by omega) (show s < 10 by omega)
        have t3 : f_X5_tagsOnlyIn (x + 60) (nI r) 10 (wA M2 (x + 62) (put (mA M (x + 62)) 10 (absR (row (mA M (x + 62)) r) (row (mA M (x + 62)) s)))) = _ := X5_only f2.rn (t := r) (u := 10) (by omega) (by omega)
        rw [missE_congr (fun i hi => row_put_ne hi (show r ≠ 10 by omega)) (fun i hi => row_put hi)] at t3
        simp only [f_X5_tagsLost, cK, kM f2.rn, if_true, if_false, bn, Option.bind_some, Option.map_some, told_eq f2.rn, refuse_eq f2.rn, refuses_eq f2.rn, e10, b01_or, true_or, or_true, areR_ok f2.rn hr hs hR.2.1 hc.1, t1, t2, t3]
    · refine Or.inr ⟨M, ?_, CSim.refl, fun M2 f2 => ⟨0, mA M (x + 62), ?_, fun q _ => rfl⟩⟩
      · simp only [f_X4_tagsLost, cK, hx.k5, if_true, if_false, bx_l, bx_r, bn, Option.bind_some, Option.map_some, b01_or, hx.w134, hx.r100, hx.r101, hx.r102, hx.i96, hx.i97, hx.i98, hx.i99, sta_ok hx hr, sta_no hx hb]
      · simp only [f_X5_tagsLost, cK, kM f2.rn, if_true, if_false, bn, Option.bind_some, Option.map_some, told_eq f2.rn, refuse_eq f2.rn, refuses_eq f2.rn, e10, b01_or, true_or, or_true, areR_no f2.rn (Or.inr hb) hR.2.1 hc.1]
  · refine Or.inr ⟨M, ?_, CSim.refl, fun M2 f2 => ⟨0, mA M (x + 62), ?_, fun q _ => rfl⟩⟩
    · simp only [f_X4_tagsLost, cK, hx.k5, if_true, if_false, bx_l, bx_r, bn, Option.bind_some, Option.map_some, b01_or, hx.w134, hx.r100, hx.r101, hx.r102, hx.i96, hx.i97, hx.i98, hx.i99, sta_no hx ha]
    · simp only [f_X5_tagsLost, cK, kM f2.rn, if_true, if_false, bn, Option.bind_some, Option.map_some, told_eq f2.rn, refuse_eq f2.rn, refuses_eq f2.rn, e10, b01_or, true_or, or_true, areR_no f2.rn (Or.inl ha) hR.2.1 hc.1]
theorem case_28 (hI : Inv n x M) {a : Int32} : fk_law_28 x (x + 60) (x + 68) a M (Inv (n + 1) x) := by
  obtain ⟨w, p, R, C, Q, m, hx⟩ := hI.cx
  have hR := hx.Rle
  have hc := hx.2.2.2.1
  refine lw_int (H := hnd1 0) (F := f_X4_mergedValue x a M) (G := f_X5_mergedValue (x + 60) a) (E := 0) (kx := 1) hI (by decide) (fun M => rfl) ?_
  rcases rng a C (by omega) with ⟨r, hr, rfl⟩ | ha
  · obtain ⟨T, ek, et⟩ := c_all hx
    have hx1 := hx.tr (CSim.one (x := x) (M := M) (f := T))
    have ew := X2_total (j := r) hx1.trial (by omega)
    rw [wA_self, tot_congr (c := r) et (by omega) 4 (by omega)] at ew
    have k3 : (mK (wA M (x + 31) T) (x + 30) = 3) = True := eq_true hx1.trial.1
    refine Or.inl ⟨tot (upR (mA M (x + 62)) (R - 1)) r 4, wA M (x + 31) T, ?_, CSim.one, fun M2 f2 => ⟨put (mA M (x + 62)) 10 (upR (mA M (x + 62)) (R - 1)), ?_, fun q hq => put_hi (by omega) hq⟩⟩
    · simp only [f_X4_mergedValue, cK, hx.k5, if_true, if_false, bx_l, bx_r, bn, Option.bind_some, Option.map_some, b01_or, hx.w134, hx.r100, hx.r101, hx.r102, hx.i96, hx.i97, hx.i98, hx.i99, cou_ok hx hr, ek, k3, ew]
    · have t1 := X5_mergesUp (g := mA M (x + 62)) f2.rn hR.1 hR.2.1 hc.1
      have t3 : f_X5_worth (x + 60) 10 (nI r) (wA M2 (x + 62) (put (mA M (x + 62)) 10 (upR (mA M (x + 62)) (R - 1)))) = _ := X5_worth f2.rn (t := 10) (i := r) (by omega) (by omega)
      rw [tot_congr (b := upR (mA M (x + 62)) (R - 1)) (fun i hi => row_put hi) (show r < 4 by omega) 4 (by omega)] at t3
      simp only [f_X5_mergedValue, cK, kM f2.rn, if_true, if_false, bn, Option.bind_some, Option.map_some, told_eq f2.rn, refuse_eq f2.rn, refuses_eq f2.rn, e10, b01_or, true_or, or_true, isC_ok f2.rn hr hR.2.2.1 hc.2.1, t1, t3]
  · refine Or.inr ⟨M, ?_, CSim.refl, fun M2 f2 => ⟨0, mA M (x + 62), ?_, fun q _ => rfl⟩⟩
    · simp only [f_X4_mergedValue, cK, hx.k5, if_true, if_false, bx_l, bx_r, bn, Option.bind_some, Option.map_some, b01_or, hx.w134, hx.r100, hx.r101, hx.r102, hx.i96, hx.i97, hx.i98, hx.i99, cou_no hx ha]
    · simp only [f_X5_mergedValue, cK, kM f2.rn, if_true, if_false, bn, Option.bind_some, Option.map_some, told_eq f2.rn, refuse_eq f2.rn, refuses_eq f2.rn, e10, b01_or, true_or, or_true, isC_no f2.rn ha hR.2.2.1 hc.2.1]
theorem tagE_congr {a b : Nat → Int32} (e : ∀ i, i < 132 → a i = b i) : cnt (tagE a) 16 = cnt (tagE b) 16 := cnt_congr (fun i hi => by unfold tagE; rw [lve_congr e (by omega)])
theorem confE_congr {a b : Nat → Int32} (e : ∀ i, i < 132 → a i = b i) : cnt (confE a) 4 = cnt (confE b) 4 := cnt_congr (fun i hi => by unfold confE; rw [lve_congr e (by omega)])
theorem case_29 (hI : Inv n x M) : fk_law_29 x (x + 60) (x + 68) M (Inv (n + 1) x) := by
  obtain ⟨w, p, R, C, Q, m, hx⟩ := hI.cx
  have hR := hx.Rle
  have hc := hx.2.2.2.1
  obtain ⟨T, ek, et⟩ := c_all hx
  have hx1 := hx.tr (CSim.one (x := x) (M := M) (f := T))
  have ew := X2_presentTags hx1.trial
  rw [wA_self, tags_eq et (WFr.upR hx (R - 1) (by omega))] at ew
  have k3 : (mK (wA M (x + 31) T) (x + 30) = 3) = True := eq_true hx1.trial.1
  refine lw_plain (F := f_X4_mergedTags x M) (G := f_X5_mergedTags (x + 60)) hI ⟨nI (cnt (tagE (upR (mA M (x + 62)) (R - 1))) 16), wA M (x + 31) T, ?_, CSim.one, fun M2 f2 => ⟨put (mA M (x + 62)) 10 (upR (mA M (x + 62)) (R - 1)), ?_, fun q hq => put_hi (by omega) hq⟩⟩
  · simp only [f_X4_mergedTags, cK, hx.k5, if_true, if_false, bx_l, bx_r, bn, Option.bind_some, Option.map_some, b01_or, hx.w134, hx.r100, hx.r101, hx.r102, hx.i96, hx.i97, hx.i98, hx.i99, ek, k3, ew]
  · have t1 := X5_mergesUp (g := mA M (x + 62)) f2.rn hR.1 hR.2.1 hc.1
    have t3 : f_X5_tagsIn (x + 60) 10 (wA M2 (x + 62) (put (mA M (x + 62)) 10 (upR (mA M (x + 62)) (R - 1)))) = _ := X5_tagsIn f2.rn (t := 10) (by omega)
    rw [tagE_congr (b := upR (mA M (x + 62)) (R - 1)) (fun i hi => row_put hi)] at t3
    simp only [f_X5_mergedTags, cK, kM f2.rn, if_true, if_false, bn, Option.bind_some, Option.map_some, told_eq f2.rn, refuse_eq f2.rn, refuses_eq f2.rn, e10, b01_or, true_or, or_true, t1, t3]
theorem case_30 (hI : Inv n x M) : fk_law_30 x (x + 60) (x + 68) M (Inv (n + 1) x) := by
  obtain ⟨w, p, R, C, Q, m, hx⟩ := hI.cx
  have hR := hx.Rle
  have hc := hx.2.2.2.1
  obtain ⟨T, ek, et⟩ := c_all hx
  have hx1 := hx.tr (CSim.one (x := x) (M := M) (f := T))
  have ew := X2_registersInConflict hx1.trial
  rw [wA_self, confs_eq et (WFr.upR hx (R - 1) (by omega))] at ew
  have k3 : (mK (wA M (x + 31) T) (x + 30) = 3) = True := eq_true hx1.trial.1
  refine lw_plain (F := f_X4_mergedConflicts x M) (G := f_X5_mergedConflicts (x + 60)) hI ⟨nI (cnt (confE (upR (mA M (x + 62)) (R - 1))) 4), wA M (x + 31) T, ?_, CSim.one, fun M2 f2 => ⟨put (mA M (x + 62)) 10 (upR (mA M (x + 62)) (R - 1)), ?_, fun q hq => put_hi (by omega) hq⟩⟩
  · simp only [f_X4_mergedConflicts, cK, hx.k5, if_true, if_false, bx_l, bx_r, bn, Option.bind_some, Option.map_some, b01_or, hx.w134, hx.r100, hx.r101, hx.r102, hx.i96, hx.i97, hx.i98, hx.i99, ek, k3, ew]
  · have t1 := X5_mergesUp (g := mA M (x + 62)) f2.rn hR.1 hR.2.1 hc.1
    have t3 : f_X5_conflictsIn (x + 60) 10 (wA M2 (x + 62) (put (mA M (x + 62)) 10 (upR (mA M (x + 62)) (R - 1)))) = _ := X5_conflictsIn f2.rn (t := 10) (by omega)
    rw [confE_congr (b := upR (mA M (x + 62)) (R - 1)) (fun i hi => row_put hi)] at t3
    simp only [f_X5_mergedConflicts, cK, kM f2.rn, if_true, if_false, bn, Option.bind_some, Option.map_some, told_eq f2.rn, refuse_eq f2.rn, refuses_eq f2.rn, e10, b01_or, true_or, or_true, t1, t3]
theorem case_36 (hI : Inv n x M) {a b : Int32} : fk_law_36 x (x + 60) (x + 68) a b M (Inv (n + 1) x) := by
  obtain ⟨w, p, R, C, Q, m, hx⟩ := hI.cx
  have hR := hx.Rle
  have hc := hx.2.2.2.1
  refine lw_bool (F := f_X4_isNews x a b M) (G := f_X5_isNews (x + 60) a b) hI ?_
  rcases rng a m (by omega) with ⟨r, hr, rfl⟩ | ha
  · rcases rng b R (by omega) with ⟨s, hs, rfl⟩ | hb
    · obtain ⟨T, ek⟩ := c_know hx (show s < 4 + m by omega) (show 4 + r < 4 + m by omega)
      have i4 : (4 : Int32) + nI r = nI (4 + r) := nI_add 4 r
      by_cases c : cov (row (mA M (x + 62)) s) (row (mA M (x + 62)) (4 + r))
      · rw [b01_t c] at ek
        refine Or.inl ⟨0, wA M (x + 31) T, Or.inl rfl, ?_, CSim.one, fun M2 f2 => ⟨put (mA M (x + 62)) 10 (absR (row (mA M (x + 62)) s) (row (mA M (x + 62)) (4 + r))), ?_, fun q hq => put_hi (by omega) hq⟩⟩
        · simp only [f_X4_isNews, fj_X4_isNews_31, cK, hx.k5, if_true, if_false, bx_l, bx_r, bn, Option.bind_some, Option.map_some, b01_or, hx.w134, hx.r100, hx.r101, hx.r102, hx.i96, hx.i97, hx.i98, hx.i99, mes_ok hx hr, sta_ok hx hs, mesB hx hr, ek, e10, true_or]
        · have e1 := X5_covd (g := mA M (x + 62)) f2.rn (show 4 + r < 10 by omega) (show s < 10 by omega)
          rw [b01_t c] at e1
          simp only [f_X5_isNews, fj_X5_isNews_33, fj_X5_isNews_43, cK, kM f2.rn, if_true, if_false, bn, Option.bind_some, Option.map_some, told_eq f2.rn, refuse_eq f2.rn, refuses_eq f2.rn, e10, b01_or, true_or, or_true, isM_ok f2.rn hr hR.2.2.2.2 hc.2.2.2.1, isR_ok f2.rn hs hR.2.1 hc.1, i4, e1, says_eq f2.rn (Or.inl rfl)]
      · rw [b01_f c] at ek
        refine Or.inl ⟨1, wA M (x + 31) T, Or.inr rfl, ?_, CSim.one, fun M2 f2 => ⟨put (mA M (x + 62)) 10 (absR (row (mA M (x + 62)) s) (row (mA M (x + 62)) (4 + r))), ?_, fun q hq => put_hi (by omega) hq⟩⟩
        · simp only [f_X4_isNews, fj_X4_isNews_31, cK, hx.k5, if_true, if_false, bx_l, bx_r, bn, Option.bind_some, Option.map_some, b01_or, hx.w134, hx.r100, hx.r101, hx.r102, hx.i96, hx.i97, hx.i98, hx.i99, mes_ok hx hr, sta_ok hx hs, mesB hx hr, ek, or_true]
        · have e1 := X5_covd (g := mA M (x + 62)) f2.rn (show 4 + r < 10 by omega) (show s < 10 by omega)
          rw [b01_f c] at e1
          simp only [f_X5_isNews, fj_X5_isNews_33, fj_X5_isNews_43, cK, kM f2.rn, if_true, if_false, bn, Option.bind_some, Option.map_some, told_eq f2.rn, refuse_eq f2.rn, refuses_eq f2.rn, e10, b01_or, true_or, or_true, isM_ok f2.rn hr hR.2.2.2.2 hc.2.2.2.1, isR_ok f2.rn hs hR.2.1 hc.1, i4, e1, says_eq f2.rn (Or.inr rfl)]
    · refine Or.inr ⟨M, ?_, CSim.refl, fun M2 f2 => ⟨0, mA M (x + 62), ?_, fun q _ => rfl⟩⟩
      · simp only [f_X4_isNews, cK, hx.k5, if_true, if_false, bx_l, bx_r, bn, Option.bind_some, Option.map_some, b01_or, hx.w134, hx.r100, hx.r101, hx.r102, hx.i96, hx.i97, hx.i98, hx.i99, mes_ok hx hr, sta_no hx hb]
      · simp only [f_X5_isNews, fj_X5_isNews_39, fj_X5_isNews_43, cK, kM f2.rn, if_true, if_false, bn, Option.bind_some, Option.map_some, told_eq f2.rn, refuse_eq f2.rn, refuses_eq f2.rn, e10, b01_or, true_or, or_true, isM_ok f2.rn hr hR.2.2.2.2 hc.2.2.2.1, isR_no f2.rn hb hR.2.1 hc.1]
  · refine Or.inr ⟨M, ?_, CSim.refl, fun M2 f2 => ⟨0, mA M (x + 62), ?_, fun q _ => rfl⟩⟩
    · simp only [f_X4_isNews, cK, hx.k5, if_true, if_false, bx_l, bx_r, bn, Option.bind_some, Option.map_some, b01_or, hx.w134, hx.r100, hx.r101, hx.r102, hx.i96, hx.i97, hx.i98, hx.i99, mes_no hx ha]
    · simp only [f_X5_isNews, fj_X5_isNews_39, fj_X5_isNews_43, cK, kM f2.rn, if_true, if_false, bn, Option.bind_some, Option.map_some, told_eq f2.rn, refuse_eq f2.rn, refuses_eq f2.rn, e10, b01_or, true_or, or_true, isM_no f2.rn ha hR.2.2.2.2 hc.2.2.2.1]
theorem c_down {w : Nat} {p : Nat → Nat} {g : Nat → Int32} {R C Q m k : Nat} (h : Cx x w p M g R C Q m k) (v1 : Nat) : ∃ T : Nat → Int32, fj_X4_convergenceErrors_24 x v1 (x + 32) (nI R - 1) (wA M (x + 33) (fun i => if i < 132 then 0 else mA M (x + 33) i)) = fj_X4_convergenceErrors_47 v1 (x + 32) (wA M (x + 33) T) ∧ ∀ i, i < 132 → T i = dnR g R (R - 1) i := by
  have hR := h.Rle
  have cs : ∀ T, CSim x M (wA M (x + 33) T) := fun T => ⟨mA M (x + 31), T, by rw [wA_id]⟩
  have key : ∀ (c j fuel : Nat) (T : Nat → Int32), c + j = R → c < fuel → (j = 0 → ∀ i, i < 132 → T i = 0) → (∀ l, j = l + 1 → ∀ i, i < 132 → T i = dnR g R l i) → ∃ T', loopM (fun q : (Int32 × Mem) => fc_X4_convergenceErrors_24 x v1 (x + 32) q.1 q.2) fuel (nI c - 1, wA M (x + 33) T) = fj_X4_convergenceErrors_47 v1 (x + 32) (wA M (x + 33) T') ∧ ∀ i, i < 132 → T' i = dnR g R (R - 1) i := by
    intro c
    induction c with
    | zero =>
      intro j fuel T e hf t0 t1
      obtain ⟨f, rfl⟩ : ∃ f, fuel = f + 1 := ⟨fuel - 1, by omega⟩
      refine ⟨T, ?_, t1 (R - 1) (by omega)⟩
      unfold loopM
      have : nI 0 - 1 < (0 : Int32) := by decide
      simp only [fc_X4_convergenceErrors_24, this, if_true]
      cases fj_X4_convergenceErrors_47 v1 (x + 32) (wA M (x + 33) T) <;> rfl
    | succ c ih =>
      intro j fuel T e hf t0 t1
      obtain ⟨f, rfl⟩ : ∃ f, fuel = f + 1 := ⟨fuel - 1, by omega⟩
      have h1 := h.tr (cs T)
      have e2 := X2_absorb h1.trial2 (h1.cl (show c < 4 + m by omega)).1
      rw [wA_self, wA_again, mA_ne (h.cne (by omega)).2] at e2
      obtain ⟨d1, d2, d3⟩ := h.cl (show c < 4 + m by omega)
      have s1 : nI (c + 1) - 1 = nI c := by rw [show (1 : Int32) = nI 1 from rfl, nI_sub (by omega)]; rfl
      have s2 : nI c + -1 = nI c - 1 := (Int32.sub_eq_add_neg ..).symm
      have hlt : ¬ (nI c < 0) := nI_pos (by omega)
      obtain ⟨T', a1, a2⟩ := ih (j + 1) f (absF T (mA M (clo w p c))) (by omega) (by omega) (fun e => by omega) (fun l hl i hi => by
        obtain rfl : j = l := by omega
        by_cases c0 : j = 0
        · subst c0
          rw [absF_congr (a' := fun _ => 0) (b' := row g c) (t0 rfl) d2 hi, absF_zero d3 hi]
          show _ = row g (R - 1) i
          rw [show c = R - 1 by omega]
        · obtain ⟨l, rfl⟩ : ∃ l, j = l + 1 := ⟨j - 1, by omega⟩
          rw [absF_of (t1 l rfl) d2 (WFr.dnR h l (by omega)) d3 hi, show c = R - 2 - l by omega]; rfl)
      refine ⟨T', ?_, a2⟩
      rw [← a1]
      conv => lhs; unfold loopM
      simp (disch := omega) only [fc_X4_convergenceErrors_24, s1, hlt, if_false, h1.w134, h1.r100, WB1 h1.2.2.1.1, cK, h1.trial2.1, if_true, e2, Option.bind_some, s2]
  exact key R 0 FU _ rfl (FUn (by omega)) (fun _ i hi => if_pos hi) (fun l hl => by omega)
theorem case_31 (hI : Inv n x M) : fk_law_31 x (x + 60) (x + 68) M (Inv (n + 1) x) := by
  obtain ⟨w, p, R, C, Q, m, hx⟩ := hI.cx
  have hR := hx.Rle
  have hc := hx.2.2.2.1
  obtain ⟨T, ek, et⟩ := c_all hx
  have q1 := CSim.one (x := x) (M := M) (f := T)
  have hx1 := hx.tr q1
  have e2 := X2_empty hx1.trial2
  have e33 : mA (wA M (x + 31) T) (x + 33) = mA M (x + 33) := mA_ne (by omega)
  obtain ⟨D, ed, edt⟩ := c_down hx1 (x + 30)
  have q2 : CSim x M (wA (wA M (x + 31) T) (x + 33) D) := ⟨T, D, rfl⟩
  have hx2 := hx.tr q2
  have es := X2_same hx2.trial hx2.trial2
  rw [wA_self, mA_ne (show x + 31 ≠ x + 33 by omega), wA_self, b01_c (eqS_congr et edt)] at es
  have k3 : (mK (wA (wA M (x + 31) T) (x + 33) D) (x + 30) = 3) = True := eq_true hx2.trial.1
  have k3' : (mK (wA M (x + 31) T) (x + 32) = 3) = True := eq_true hx1.trial2.1
  refine lw_plain (F := f_X4_convergenceErrors x M) (G := f_X5_convergenceErrors (x + 60)) hI ⟨b01 (¬ eqS (upR (mA M (x + 62)) (R - 1)) (dnR (mA M (x + 62)) R (R - 1))), wA (wA M (x + 31) T) (x + 33) D, ?_, q2, fun M2 f2 => ⟨put (put (mA M (x + 62)) 10 (upR (mA M (x + 62)) (R - 1))) 11 (dnR (put (mA M (x + 62)) 10 (upR (mA M (x + 62)) (R - 1))) R (R - 1)), ?_, fun q hq => (put_hi (by omega) hq).trans (put_hi (by omega) hq)⟩⟩
  · simp only [f_X4_convergenceErrors, cK, hx.k5, if_true, if_false, bx_l, bx_r, bn, Option.bind_some, Option.map_some, b01_or, hx.w134, hx.r100, hx.r101, hx.r102, hx.i96, hx.i97, hx.i98, hx.i99, ek, hx1.r139, k3', e2, (hx1.tr (⟨T, fun i => if i < 132 then 0 else mA (wA M (x + 31) T) (x + 33) i, by rw [wA_again]⟩ : CSim x (wA M (x + 31) T) _)).w134, (hx1.tr (⟨T, fun i => if i < 132 then 0 else mA (wA M (x + 31) T) (x + 33) i, by rw [wA_again]⟩ : CSim x (wA M (x + 31) T) _)).i96]
    rw [ed]
    simp only [fj_X4_convergenceErrors_47, cK, k3, if_true, es, bn, b01_0]
    by_cases c : eqS (upR (mA M (x + 62)) (R - 1)) (dnR (mA M (x + 62)) R (R - 1))
    · rw [b01_t c, if_neg (by decide), b01_f (fun h => h c)]; rfl
    · rw [b01_f c, if_pos rfl, b01_t c]; rfl
  · have t1 := X5_mergesUp (g := mA M (x + 62)) f2.rn hR.1 hR.2.1 hc.1
    have t2 := X5_mergesDown (g := put (mA M (x + 62)) 10 (upR (mA M (x + 62)) (R - 1))) f2.rn hR.1 hR.2.1 ((put_lo (by omega)).trans hc.1)
    have t3 : f_X5_areAlike (x + 60) 10 11 (wA M2 (x + 62) (put (put (mA M (x + 62)) 10 (upR (mA M (x + 62)) (R - 1))) 11 (dnR (put (mA M (x + 62)) 10 (upR (mA M (x + 62)) (R - 1))) R (R - 1)))) = _ := X5_alike f2.rn (t := 10) (u := 11) (by omega) (by omega)
    have dc : ∀ l, l < R → ∀ i, i < 132 → dnR (put (mA M (x + 62)) 10 (upR (mA M (x + 62)) (R - 1))) R l i = dnR (mA M (x + 62)) R l i := by
      intro l
      induction l with
      | zero => intro _ i hi; exact row_put_ne hi (by omega)
      | succ l ih => intro hl i hi; exact absR_congr (ih (by omega)) (fun i hi => row_put_ne hi (by omega)) hi
    rw [b01_c (eqS_congr (a' := upR (mA M (x + 62)) (R - 1)) (b' := dnR (mA M (x + 62)) R (R - 1)) (fun i hi => (row_put_ne hi (show (10 : Nat) ≠ 11 by omega)).trans (row_put hi)) (fun i hi => (row_put hi).trans (dc (R - 1) (by omega) i hi)))] at t3
    simp only [f_X5_convergenceErrors, fj_X5_convergenceErrors_25, cK, kM f2.rn, if_true, if_false, bn, Option.bind_some, Option.map_some, told_eq f2.rn, refuse_eq f2.rn, refuses_eq f2.rn, e10, b01_or, true_or, or_true, t1, t2, t3, b01_0]
    by_cases c : eqS (upR (mA M (x + 62)) (R - 1)) (dnR (mA M (x + 62)) R (R - 1))
    · rw [b01_t c, if_neg (by decide), b01_f (fun h => h c)]
    · rw [b01_f c, if_pos rfl, b01_t c]
end C3
