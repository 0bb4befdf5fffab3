/-! THE READS THAT NO ROW OF A TABLE MAKES -/
section C2
variable {n x : Nat} {M : Mem}
theorem Cx.now0 {w : Nat} {p : Nat → Nat} {g : Nat → Int32} {R C Q m k : Nat} (hx : Cx x w p M g R C Q m k) : g 0 = nI R ∧ g 1 = nI C ∧ g 2 = nI Q ∧ g 3 = nI m := ⟨hx.2.2.2.1.1, hx.2.2.2.1.2.1, hx.2.2.2.1.2.2.1, hx.2.2.2.1.2.2.2.1⟩
theorem case_4 (hI : Inv n x M) : fk_law_4 x (x + 60) (x + 68) M (Inv (n + 1) x) := by
  obtain ⟨w, p, R, C, Q, m, hx⟩ := hI.cx
  refine lw_plain (F := f_X4_replicaCount x M) (G := f_X5_replicaCount (x + 60)) hI ⟨nI R, M, ?_, CSim.refl, fun M2 f2 => ⟨mA M (x + 62), ?_, fun q _ => rfl⟩⟩
  · simp only [f_X4_replicaCount, cK, hx.k5, if_true, if_false, bx_l, bx_r, bn, Option.bind_some, Option.map_some, b01_or, hx.w134, hx.r100, hx.r101, hx.r102, hx.i96, hx.i97, hx.i98, hx.i99]
  · have e0 : gA 9 (x + 62) 0 (wA M2 (x + 62) (mA M (x + 62))) = some (mA M (x + 62) 0) := gNow f2.rn (i := 0) (by omega)
    simp only [f_X5_replicaCount, cK, kM f2.rn, if_true, if_false, bn, Option.bind_some, Option.map_some, told_eq f2.rn, refuse_eq f2.rn, refuses_eq f2.rn, e10, b01_or, true_or, or_true, gW f2.rn, e0, hx.now0.1]
theorem case_5 (hI : Inv n x M) : fk_law_5 x (x + 60) (x + 68) M (Inv (n + 1) x) := by
  obtain ⟨w, p, R, C, Q, m, hx⟩ := hI.cx
  refine lw_plain (F := f_X4_counterCount x M) (G := f_X5_counterCount (x + 60)) hI ⟨nI C, M, ?_, CSim.refl, fun M2 f2 => ⟨mA M (x + 62), ?_, fun q _ => rfl⟩⟩
  · simp only [f_X4_counterCount, cK, hx.k5, if_true, if_false, bx_l, bx_r, bn, Option.bind_some, Option.map_some, b01_or, hx.w134, hx.r100, hx.r101, hx.r102, hx.i96, hx.i97, hx.i98, hx.i99]
  · have e0 : gA 9 (x + 62) 1 (wA M2 (x + 62) (mA M (x + 62))) = some (mA M (x + 62) 1) := gNow f2.rn (i := 1) (by omega)
    simp only [f_X5_counterCount, cK, kM f2.rn, if_true, if_false, bn, Option.bind_some, Option.map_some, told_eq f2.rn, refuse_eq f2.rn, refuses_eq f2.rn, e10, b01_or, true_or, or_true, gW f2.rn, e0, hx.now0.2.1]
theorem case_6 (hI : Inv n x M) : fk_law_6 x (x + 60) (x + 68) M (Inv (n + 1) x) := by
  obtain ⟨w, p, R, C, Q, m, hx⟩ := hI.cx
  refine lw_plain (F := f_X4_registerCount x M) (G := f_X5_registerCount (x + 60)) hI ⟨nI Q, M, ?_, CSim.refl, fun M2 f2 => ⟨mA M (x + 62), ?_, fun q _ => rfl⟩⟩
  · simp only [f_X4_registerCount, cK, hx.k5, if_true, if_false, bx_l, bx_r, bn, Option.bind_some, Option.map_some, b01_or, hx.w134, hx.r100, hx.r101, hx.r102, hx.i96, hx.i97, hx.i98, hx.i99]
  · have e0 : gA 9 (x + 62) 2 (wA M2 (x + 62) (mA M (x + 62))) = some (mA M (x + 62) 2) := gNow f2.rn (i := 2) (by omega)
    simp only [f_X5_registerCount, cK, kM f2.rn, if_true, if_false, bn, Option.bind_some, Option.map_some, told_eq f2.rn, refuse_eq f2.rn, refuses_eq f2.rn, e10, b01_or, true_or, or_true, gW f2.rn, e0, hx.now0.2.2.1]
theorem case_34 (hI : Inv n x M) : fk_law_34 x (x + 60) (x + 68) M (Inv (n + 1) x) := by
  obtain ⟨w, p, R, C, Q, m, hx⟩ := hI.cx
  refine lw_plain (F := f_X4_messageCount x M) (G := f_X5_messageCount (x + 60)) hI ⟨nI m, M, ?_, CSim.refl, fun M2 f2 => ⟨mA M (x + 62), ?_, fun q _ => rfl⟩⟩
  · simp only [f_X4_messageCount, cK, hx.k5, if_true, if_false, bx_l, bx_r, bn, Option.bind_some, Option.map_some, b01_or, hx.w134, hx.r100, hx.r101, hx.r102, hx.i96, hx.i97, hx.i98, hx.i99]
  · have e0 : gA 9 (x + 62) 3 (wA M2 (x + 62) (mA M (x + 62))) = some (mA M (x + 62) 3) := gNow f2.rn (i := 3) (by omega)
    simp only [f_X5_messageCount, cK, kM f2.rn, if_true, if_false, bn, Option.bind_some, Option.map_some, told_eq f2.rn, refuse_eq f2.rn, refuses_eq f2.rn, e10, b01_or, true_or, or_true, gW f2.rn, e0, hx.now0.2.2.2]
theorem case_2 (hI : Inv n x M) : fk_law_2 x (x + 60) (x + 68) M (Inv (n + 1) x) := by
  have fx := hI.fix
  obtain ⟨w, p, h, b, _, _, _, ⟨len, ol, b1, b2, b3, b4, b5, b6, b7, b8, _⟩, _⟩ := id hI
  refine ⟨wI M 161 (x + 60) 0, ?_, (hI.sim (M' := wI M 161 (x + 60) 0) ?_).mono (by omega)⟩
  · have k6 : (mK M (x + 60) = 6) = True := eq_true fx.rn.1
    have k5 : (mK M x = 5) = True := eq_true fx.1.1
    simp only [fr_law_2, f_X4_errorKind, f_X5_errorKind, f_X5_told, gI, sI_w, cK, k5, k6, if_true, bn, Option.bind_some, b7]
  · have := Sim.told (x := x) (M := M) (v := 0) (g := mA M (x + 62)) (fun q _ => rfl)
    rwa [show wA (wI M 161 (x + 60) 0) (x + 62) (mA M (x + 62)) = wI M 161 (x + 60) 0 from wA_id (wI M 161 (x + 60) 0) (x + 62)] at this
theorem case_3 (hI : Inv n x M) : fk_law_3 x (x + 60) (x + 68) M (Inv (n + 1) x) := by
  have fx := hI.fix
  obtain ⟨w, p, h, b, _, _, _, ⟨len, ol, b1, b2, b3, b4, b5, b6, b7, b8, _⟩, _⟩ := id hI
  refine ⟨wI M 161 (x + 60) 0, ?_, (hI.sim (M' := wI M 161 (x + 60) 0) ?_).mono (by omega)⟩
  · have k6 : (mK M (x + 60) = 6) = True := eq_true fx.rn.1
    have k5 : (mK M x = 5) = True := eq_true fx.1.1
    simp only [fr_law_3, f_X4_errorOffset, f_X5_errorOffset, f_X5_told, gI, sI_w, cK, k5, k6, if_true, bn, Option.bind_some, b8]
  · have := Sim.told (x := x) (M := M) (v := 0) (g := mA M (x + 62)) (fun q _ => rfl)
    rwa [show wA (wI M 161 (x + 60) 0) (x + 62) (mA M (x + 62)) = wI M 161 (x + 60) 0 from wA_id (wI M 161 (x + 60) 0) (x + 62)] at this
theorem cov_congr {a b a' b' : Nat → Int32} (h : ∀ i, i < 132 → a i = a' i) (k : ∀ i, i < 132 → b i = b' i) : cov a b ↔ cov a' b' := eqS_congr (fun i hi => absR_congr h k hi) h
theorem case_10 (hI : Inv n x M) {a b : Int32} : fk_law_10 x (x + 60) (x + 68) a b M (Inv (n + 1) x) := by
  obtain ⟨w, p, R, C, Q, m, hx⟩ := hI.cx
  have hR := hx.Rle
  have hc := hx.2.2.2.1
  refine lw_bool (F := f_X4_areConcurrent x a b M) (G := f_X5_areConcurrent (x + 60) a b) hI ?_
  rcases rng a R (by omega) with ⟨r, hr, rfl⟩ | ha
  · rcases rng b R (by omega) with ⟨s, hs, rfl⟩ | hb
    · obtain ⟨T, ek⟩ := c_know hx (show r < 4 + m by omega) (show s < 4 + m by omega)
      have hx1 := hx.tr (CSim.one (x := x) (M := M) (f := T))
      obtain ⟨T2, ek2⟩ := c_know hx1 (show s < 4 + m by omega) (show r < 4 + m by omega)
      rw [wA_again] at ek2
      by_cases c : cov (row (mA M (x + 62)) r) (row (mA M (x + 62)) s)
      · rw [b01_t c] at ek
        refine Or.inl ⟨0, wA M (x + 31) T, Or.inl rfl, ?_, CSim.one, fun M2 f2 => ⟨put (mA M (x + 62)) 10 (absR (row (mA M (x + 62)) r) (row (mA M (x + 62)) s)), ?_, fun q hq => put_hi (by omega) hq⟩⟩
        · simp only [f_X4_areConcurrent, fj_X4_areConcurrent_37, fj_X4_areConcurrent_38, cK, hx.k5, if_true, if_false, bx_l, bx_r, bn, Option.bind_some, Option.map_some, b01_or, hx.w134, hx.r100, hx.r101, hx.r102, hx.i96, hx.i97, hx.i98, hx.i99, sta_ok hx hr, sta_ok hx hs, ek, e10, true_or]
        · have e1 := X5_covd (g := mA M (x + 62)) f2.rn (show s < 10 by omega) (show r < 10 by omega)
          rw [b01_t c] at e1
          simp only [f_X5_areConcurrent, fj_X5_areConcurrent_32, fj_X5_areConcurrent_33, fj_X5_areConcurrent_43, cK, kM f2.rn, if_true, if_false, bn, Option.bind_some, Option.map_some, told_eq f2.rn, refuse_eq f2.rn, refuses_eq f2.rn, e10, b01_or, true_or, or_true, areR_ok f2.rn hr hs hR.2.1 hc.1, e1, says_eq f2.rn (Or.inl rfl)]
      · rw [b01_f c] at ek
        refine Or.inl ⟨b01 (¬ cov (row (mA M (x + 62)) s) (row (mA M (x + 62)) r)), wA M (x + 31) T2, b01_or _, ?_, CSim.one, fun M2 f2 => ⟨put (put (mA M (x + 62)) 10 (absR (row (mA M (x + 62)) r) (row (mA M (x + 62)) s))) 10 (absR (row (put (mA M (x + 62)) 10 (absR (row (mA M (x + 62)) r) (row (mA M (x + 62)) s))) s) (row (put (mA M (x + 62)) 10 (absR (row (mA M (x + 62)) r) (row (mA M (x + 62)) s))) r)), ?_, fun q hq => (put_hi (by omega) hq).trans (put_hi (by omega) hq)⟩⟩
        · by_cases c2 : cov (row (mA M (x + 62)) s) (row (mA M (x + 62)) r)
          · rw [b01_t c2] at ek2
            rw [b01_f (fun h => h c2)]
            simp only [f_X4_areConcurrent, fj_X4_areConcurrent_37, fj_X4_areConcurrent_38, cK, hx.k5, if_true, if_false, bx_l, bx_r, bn, Option.bind_some, Option.map_some, b01_or, hx.w134, hx.r100, hx.r101, hx.r102, hx.i96, hx.i97, hx.i98, hx.i99, sta_ok hx hr, sta_ok hx hs, ek, e10, hx1.k5, ek2, true_or]
          · rw [b01_f c2] at ek2
            rw [b01_t c2]
            simp only [f_X4_areConcurrent, fj_X4_areConcurrent_37, fj_X4_areConcurrent_38, cK, hx.k5, if_true, if_false, bx_l, bx_r, bn, Option.bind_some, Option.map_some, b01_or, hx.w134, hx.r100, hx.r101, hx.r102, hx.i96, hx.i97, hx.i98, hx.i99, sta_ok hx hr, sta_ok hx hs, ek, e10, hx1.k5, ek2, or_true]
        · have e1 := X5_covd (g := mA M (x + 62)) f2.rn (show s < 10 by omega) (show r < 10 by omega)
          have e2 := X5_covd (g := put (mA M (x + 62)) 10 (absR (row (mA M (x + 62)) r) (row (mA M (x + 62)) s))) f2.rn (show r < 10 by omega) (show s < 10 by omega)
          rw [b01_f c] at e1
          rw [b01_c (cov_congr (fun i hi => row_put_ne hi (show s ≠ 10 by omega)) (fun i hi => row_put_ne hi (show r ≠ 10 by omega)))] at e2
          by_cases c2 : cov (row (mA M (x + 62)) s) (row (mA M (x + 62)) r)
          · rw [b01_t c2] at e2
            rw [b01_f (fun h => h c2)]
            simp only [f_X5_areConcurrent, fj_X5_areConcurrent_32, fj_X5_areConcurrent_33, fj_X5_areConcurrent_43, cK, kM f2.rn, if_true, if_false, bn, Option.bind_some, Option.map_some, told_eq f2.rn, refuse_eq f2.rn, refuses_eq f2.rn, e10, b01_or, true_or, or_true, areR_ok f2.rn hr hs hR.2.1 hc.1, e1, e2, says_eq f2.rn (Or.inl rfl)]
          · rw [b01_f c2] at e2
            rw [b01_t c2]
            simp only [f_X5_areConcurrent, fj_X5_areConcurrent_32, fj_X5_areConcurrent_33, fj_X5_areConcurrent_43, cK, kM f2.rn, if_true, if_false, bn, Option.bind_some, Option.map_some, told_eq f2.rn, refuse_eq f2.rn, refuses_eq f2.rn, e10, b01_or, true_or, or_true, areR_ok f2.rn hr hs hR.2.1 hc.1, e1, e2, says_eq f2.rn (Or.inr rfl)]
    · refine Or.inr ⟨M, ?_, CSim.refl, fun M2 f2 => ⟨0, mA M (x + 62), ?_, fun q _ => rfl⟩⟩
      · simp only [f_X4_areConcurrent, cK, hx.k5, if_true, if_false, bx_l, bx_r, bn, Option.bind_some, Option.map_some, b01_or, hx.w134, hx.r100, hx.r101, hx.r102, hx.i96, hx.i97, hx.i98, hx.i99, sta_ok hx hr, sta_no hx hb]
      · simp only [f_X5_areConcurrent, fj_X5_areConcurrent_43, cK, kM f2.rn, if_true, if_false, bn, Option.bind_some, Option.map_some, told_eq f2.rn, refuse_eq f2.rn, refuses_eq f2.rn, e10, b01_or, true_or, or_true, areR_no f2.rn (Or.inr hb) hR.2.1 hc.1]
  · refine Or.inr ⟨M, ?_, CSim.refl, fun M2 f2 => ⟨0, mA M (x + 62), ?_, fun q _ => rfl⟩⟩
    · simp only [f_X4_areConcurrent, cK, hx.k5, if_true, if_false, bx_l, bx_r, bn, Option.bind_some, Option.map_some, b01_or, hx.w134, hx.r100, hx.r101, hx.r102, hx.i96, hx.i97, hx.i98, hx.i99, sta_no hx ha]
    · simp only [f_X5_areConcurrent, fj_X5_areConcurrent_43, cK, kM f2.rn, if_true, if_false, bn, Option.bind_some, Option.map_some, told_eq f2.rn, refuse_eq f2.rn, refuses_eq f2.rn, e10, b01_or, true_or, or_true, areR_no f2.rn (Or.inl ha) hR.2.1 hc.1]
theorem case_15 (hI : Inv n x M) {a b : Int32} : fk_law_15 x (x + 60) (x + 68) a b M (Inv (n + 1) x) := by
  obtain ⟨w, p, R, C, Q, m, hx⟩ := hI.cx
  have hR := hx.Rle
  have hc := hx.2.2.2.1
  refine lw_bool (F := f_X4_hasTag x a b M) (G := f_X5_hasTag (x + 60) a b) hI ?_
  rcases rng a R (by omega) with ⟨r, hr, rfl⟩ | ha
  · rcases rng b 16 (by omega) with ⟨s, hs, rfl⟩ | hb
    · obtain ⟨c0, d0, e0⟩ := hx.cl (show r < 4 + m by omega)
      have ev := dl (f := 36 + s * 4) (f' := 36 + 4 * s) d0 e0 (by omega) (by omega)
      have hl := lve_lt (row (mA M (x + 62)) r) (36 + 4 * s)
      by_cases c : 0 < lve (row (mA M (x + 62)) r) (36 + 4 * s)
      · have c' : (nI (lve (row (mA M (x + 62)) r) (36 + 4 * s)) ≤ 0) = False := eq_false (nI_ge (a := 0) c (by omega))
        refine Or.inl ⟨1, M, Or.inr rfl, ?_, CSim.refl, fun M2 f2 => ⟨mA M (x + 62), ?_, fun q _ => rfl⟩⟩
        · simp only [f_X4_hasTag, f_X4_liveDots, fj_X4_hasTag_14, cK, hx.k5, if_true, if_false, bx_l, bx_r, bn, Option.bind_some, Option.map_some, b01_or, hx.w134, hx.r100, hx.r101, hx.r102, hx.i96, hx.i97, hx.i98, hx.i99, sta_ok hx hr, tagc_ok hs, hx.s3 (show r < 4 + m by omega), X2_dotsOfTag c0 hs, ev, c', or_true]
        · simp only [f_X5_hasTag, fj_X5_hasTag_30, fj_X5_hasTag_40, cK, kM f2.rn, if_true, if_false, bn, Option.bind_some, Option.map_some, told_eq f2.rn, refuse_eq f2.rn, refuses_eq f2.rn, e10, b01_or, true_or, or_true, isR_ok f2.rn hr hR.2.1 hc.1, inT_ok hs, X5_live f2.rn (show r < 12 by omega) hs, c', says_eq f2.rn (Or.inr rfl)]
      · have c' : (nI (lve (row (mA M (x + 62)) r) (36 + 4 * s)) ≤ 0) = True := eq_true (nI_le (b := 0) (by omega) (by omega))
        refine Or.inl ⟨0, M, Or.inl rfl, ?_, CSim.refl, fun M2 f2 => ⟨mA M (x + 62), ?_, fun q _ => rfl⟩⟩
        · simp only [f_X4_hasTag, f_X4_liveDots, fj_X4_hasTag_14, cK, hx.k5, if_true, if_false, bx_l, bx_r, bn, Option.bind_some, Option.map_some, b01_or, hx.w134, hx.r100, hx.r101, hx.r102, hx.i96, hx.i97, hx.i98, hx.i99, sta_ok hx hr, tagc_ok hs, hx.s3 (show r < 4 + m by omega), X2_dotsOfTag c0 hs, ev, c', true_or]
        · simp only [f_X5_hasTag, fj_X5_hasTag_30, fj_X5_hasTag_40, cK, kM f2.rn, if_true, if_false, bn, Option.bind_some, Option.map_some, told_eq f2.rn, refuse_eq f2.rn, refuses_eq f2.rn, e10, b01_or, true_or, or_true, isR_ok f2.rn hr hR.2.1 hc.1, inT_ok hs, X5_live f2.rn (show r < 12 by omega) hs, c', says_eq f2.rn (Or.inl rfl)]
    · refine Or.inr ⟨M, ?_, CSim.refl, fun M2 f2 => ⟨0, mA M (x + 62), ?_, fun q _ => rfl⟩⟩
      · simp only [f_X4_hasTag, f_X4_liveDots, cK, hx.k5, if_true, if_false, bx_l, bx_r, bn, Option.bind_some, Option.map_some, b01_or, hx.w134, hx.r100, hx.r101, hx.r102, hx.i96, hx.i97, hx.i98, hx.i99, sta_ok hx hr, tagc_no hb]
      · simp only [f_X5_hasTag, fj_X5_hasTag_36, fj_X5_hasTag_40, cK, kM f2.rn, if_true, if_false, bn, Option.bind_some, Option.map_some, told_eq f2.rn, refuse_eq f2.rn, refuses_eq f2.rn, e10, b01_or, true_or, or_true, isR_ok f2.rn hr hR.2.1 hc.1, inT_no hb]
  · refine Or.inr ⟨M, ?_, CSim.refl, fun M2 f2 => ⟨0, mA M (x + 62), ?_, fun q _ => rfl⟩⟩
    · simp only [f_X4_hasTag, f_X4_liveDots, cK, hx.k5, if_true, if_false, bx_l, bx_r, bn, Option.bind_some, Option.map_some, b01_or, hx.w134, hx.r100, hx.r101, hx.r102, hx.i96, hx.i97, hx.i98, hx.i99, sta_no hx ha]
    · simp only [f_X5_hasTag, fj_X5_hasTag_36, fj_X5_hasTag_40, cK, kM f2.rn, if_true, if_false, bn, Option.bind_some, Option.map_some, told_eq f2.rn, refuse_eq f2.rn, refuses_eq f2.rn, e10, b01_or, true_or, or_true, isR_no f2.rn ha hR.2.1 hc.1]
end C2
