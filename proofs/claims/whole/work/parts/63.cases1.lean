/-! THE READS THAT CHECK THEIR ARGUMENTS -/
theorem Inv.cx {n x : Nat} {M : Mem} (h : Inv n x M) : ∃ w p R C Q m, Cx x w p M (mA M (x + 62)) R C Q m n := by
  obtain ⟨w, p, h, b, ⟨rt, c1, c2, c3, c4, c5, c6⟩, d2, d3, d4, d5, ⟨⟨R, C, Q, m, d6⟩, d7⟩, d8, d9⟩ := h
  exact ⟨w, p, R, C, Q, m, c1, c2.1.trans c4.1, c4.2, d6, fun t ht hv => d7 t ht (by rw [d6.m]; exact hv), (c3.1 0 w c4.1).1⟩
theorem e10 : ((1 : Int32) = 0) = False := eq_false (by decide)
theorem row_at (g : Nat → Int32) (t i : Nat) : row g t i = g (bs t + i) := rfl
theorem put_hi {g : Nat → Int32} {t q : Nat} {a : Nat → Int32} (ht : 10 ≤ t) (hq : q < 1330) : put g t a q = g q := by unfold put; rw [if_neg (by rw [bs_eq]; omega)]
theorem X5_alike {M : Mem} {m w t u : Nat} {g : Nat → Int32} (hR : Rn M m w) (ht : t < 12) (hu : u < 12) : f_X5_areAlike m (nI t) (nI u) (wA M w g) = some (b01 (eqS (row g t) (row g u)), wA M w g) := by
  haveI := Classical.propDecidable (eqS (row g t) (row g u))
  rw [X5_areAlike hR ht hu, b01_ite]
theorem X5_covd {M : Mem} {m w s t : Nat} {g : Nat → Int32} (hR : Rn M m w) (hs : s < 10) (ht : t < 10) : f_X5_isCovered m (nI s) (nI t) (wA M w g) = some (b01 (cov (row g t) (row g s)), wA M w (put g 10 (absR (row g t) (row g s)))) := by
  haveI := Classical.propDecidable (cov (row g t) (row g s))
  rw [X5_isCovered hR hs ht, b01_ite]
theorem tags_eq {k : Nat} {a r : Nat → Int32} (e : ∀ i, i < 132 → a i = r i) (h : WFr k r) : cnt (tagP a) 16 = cnt (tagE r) 16 := cnt_congr (fun i hi => by unfold tagP tagE; rw [dl (f := 36 + i * 4) (f' := 36 + 4 * i) e h (by omega) (by omega)])
theorem confs_eq {k : Nat} {a r : Nat → Int32} (e : ∀ i, i < 132 → a i = r i) (h : WFr k r) : cnt (confP a) 4 = cnt (confE r) 4 := cnt_congr (fun i hi => by unfold confP confE; rw [dl (f := 100 + i * 4) (f' := 100 + 4 * i) e h (by omega) (by omega)])
theorem X5_entryOf {M : Mem} {m w t q b : Nat} {g : Nat → Int32} (hR : Rn M m w) (ht : t < 12) (hq : q < 4) (hb4 : b < 4) : f_X5_entryOf m (nI t) (nI q) (nI b) (wA M w g) = some (valE (row g t) q b, wA M w g) := by
  have hb := bs_le ht
  unfold valE
  by_cases c : row g t (100 + (4 * q + b)) ≤ 0
  · rw [if_pos c]
    rw [row_at] at c
    simp (disch := omega) only [f_X5_entryOf, fj_X5_entryOf_29, gW hR, X5_dot, X5_noted, gNow hR, bn, Option.bind_some, c, if_true]
  · rw [if_neg c]
    rw [row_at] at c
    simp (disch := omega) only [f_X5_entryOf, fj_X5_entryOf_29, gW hR, X5_dot, X5_noted, gNow hR, bn, Option.bind_some, c, if_false]
    rfl
theorem c_great {k : Nat} {M : Mem} {s c q : Nat} {r : Nat → Int32} (hs : St M s c) (e : ∀ i, i < 132 → mA M c i = r i) (h : WFr k r) (hq : q < 4) : fj_X4_greatestValue_17 (nI q) s (-1) 0 M = some (.inl (gmax r q 4), M) := by
  unfold fj_X4_greatestValue_17
  refine loopM_run (st := fun i => (gmax r q i, nI i, M)) (N := 4) rfl (fun i hi => ?_) ?_ (FUn (by decide))
  · have ev := vl (q := q) (b := i) e h hq hi
    have em : (if gmax r q i < valE r q i then valE r q i else gmax r q i) = gmax r q (i + 1) := by
      show _ = if valE r q i ≤ gmax r q i then gmax r q i else valE r q i
      by_cases c : valE r q i ≤ gmax r q i
      · rw [if_pos c, if_neg (Int32.not_lt.mpr c)]
      · rw [if_neg c, if_pos (Int32.not_le.mp c)]
    simp (disch := omega) only [fc_X4_greatestValue_17, X2_valueBy hs, ev, cK, hs.1, if_true, bn, em, nI_add, nI_mul, nI_sub, nI_div, nI_leT, nI_leF, nI_ltT, nI_ltF, nI_eqT, nI_eqF, nI_neg, nI_cl, lit_nI, nI_nlt0, if_true, if_false, if_pos, if_neg, true_and, and_true, not_false_eq_true, or_self, or_false, false_or, reduceIte, and_self, not_true_eq_false, ne_eq]
  · simp (disch := omega) only [fc_X4_greatestValue_17, fj_X4_greatestValue_43, nI_add, nI_mul, nI_sub, nI_div, nI_leT, nI_leF, nI_ltT, nI_ltF, nI_eqT, nI_eqF, nI_neg, nI_cl, lit_nI, nI_nlt0, if_true, if_false, if_pos, if_neg, true_and, and_true, not_false_eq_true, or_self, or_false, false_or, reduceIte, and_self, not_true_eq_false, ne_eq, Option.map_some]
theorem r_great {M : Mem} {m w t q : Nat} {g : Nat → Int32} (hR : Rn M m w) (ht : t < 12) (hq : q < 4) : fj_X5_greatestValue_27 m (nI t) (nI q) (-1) 0 (wA M w g) = some (gmax (row g t) q 4, wA (wI M 161 m 0) w g) := by
  unfold fj_X5_greatestValue_27
  refine loopM_run (st := fun i => (gmax (row g t) q i, nI i, wA M w g)) (N := 4) rfl (fun i hi => ?_) ?_ (FUn (by decide))
  · show _ = some (Sum.inl (if valE (row g t) q i ≤ gmax (row g t) q i then gmax (row g t) q i else valE (row g t) q i, nI (i + 1), wA M w g))
    have e := X5_entryOf (g := g) hR ht hq hi
    by_cases c : valE (row g t) q i ≤ gmax (row g t) q i
    · simp (disch := omega) only [fc_X5_greatestValue_27, fj_X5_greatestValue_55, e, cK, kM hR, if_true, bn, c, nI_add, nI_mul, nI_sub, nI_div, nI_leT, nI_leF, nI_ltT, nI_ltF, nI_eqT, nI_eqF, nI_neg, nI_cl, lit_nI, nI_nlt0, if_true, if_false, if_pos, if_neg, true_and, and_true, not_false_eq_true, or_self, or_false, false_or, reduceIte, and_self, not_true_eq_false, ne_eq]
    · simp (disch := omega) only [fc_X5_greatestValue_27, fj_X5_greatestValue_55, e, cK, kM hR, if_true, bn, c, nI_add, nI_mul, nI_sub, nI_div, nI_leT, nI_leF, nI_ltT, nI_ltF, nI_eqT, nI_eqF, nI_neg, nI_cl, lit_nI, nI_nlt0, if_true, if_false, if_pos, if_neg, true_and, and_true, not_false_eq_true, or_self, or_false, false_or, reduceIte, and_self, not_true_eq_false, ne_eq]
  · simp (disch := omega) only [fc_X5_greatestValue_27, fj_X5_greatestValue_62, cK, kM hR, told_eq hR, bn, nI_add, nI_mul, nI_sub, nI_div, nI_leT, nI_leF, nI_ltT, nI_ltF, nI_eqT, nI_eqF, nI_neg, nI_cl, lit_nI, nI_nlt0, if_true, if_false, if_pos, if_neg, true_and, and_true, not_false_eq_true, or_self, or_false, false_or, reduceIte, and_self, not_true_eq_false, ne_eq, Option.map_some]
theorem c_uns {M : Mem} {s c s' c' : Nat} {r r' : Nat → Int32} (hs : St M s c) (hs' : St M s' c') (e : ∀ i, i < 132 → mA M c i = r i) (e' : ∀ i, i < 132 → mA M c' i = r' i) : fj_X4_unseenDots_19 s s' 0 0 M = some (.inl (uns r r' 4), M) := by
  unfold fj_X4_unseenDots_19
  refine loopM_run (st := fun i => (uns r r' i, nI i, M)) (N := 4) rfl (fun i hi => ?_) ?_ (FUn (by decide))
  · have em : uns r r' i + (if (0 : Int32) < r i - r' i then r i - r' i else 0) = uns r r' (i + 1) := by
      show _ = uns r r' i + (if r i - r' i ≤ 0 then 0 else r i - r' i)
      by_cases c : r i - r' i ≤ 0
      · rw [if_pos c, if_neg (Int32.not_lt.mpr c)]
      · rw [if_neg c, if_pos (Int32.not_le.mp c)]
    simp only [lit_nI] at em
    simp (disch := omega) only [fc_X4_unseenDots_19, X2_version hs, X2_version hs', e, e', cK, hs.1, hs'.1, if_true, bn, nI_add, nI_mul, nI_sub, nI_div, nI_leT, nI_leF, nI_ltT, nI_ltF, nI_eqT, nI_eqF, nI_neg, nI_cl, lit_nI, nI_nlt0, if_true, if_false, if_pos, if_neg, true_and, and_true, not_false_eq_true, or_self, or_false, false_or, reduceIte, and_self, not_true_eq_false, ne_eq, em]
  · simp (disch := omega) only [fc_X4_unseenDots_19, fj_X4_unseenDots_54, nI_add, nI_mul, nI_sub, nI_div, nI_leT, nI_leF, nI_ltT, nI_ltF, nI_eqT, nI_eqF, nI_neg, nI_cl, lit_nI, nI_nlt0, if_true, if_false, if_pos, if_neg, true_and, and_true, not_false_eq_true, or_self, or_false, false_or, reduceIte, and_self, not_true_eq_false, ne_eq, Option.map_some]
theorem r_uns {M : Mem} {m w t u : Nat} {g : Nat → Int32} (hR : Rn M m w) (ht : t < 12) (hu : u < 12) : fj_X5_unseenDots_20 m (nI t) (nI u) 0 0 (wA M w g) = some (uns (row g t) (row g u) 4, wA (wI M 161 m 0) w g) := by
  have hb := bs_le ht
  have hb' := bs_le hu
  unfold fj_X5_unseenDots_20
  refine loopM_run (st := fun i => (uns (row g t) (row g u) i, nI i, wA M w g)) (N := 4) rfl (fun i hi => ?_) ?_ (FUn (by decide))
  · show _ = some (Sum.inl (uns (row g t) (row g u) i + (if row g t i - row g u i ≤ 0 then 0 else row g t i - row g u i), nI (i + 1), wA M w g))
    by_cases c : row g t i - row g u i ≤ 0
    · rw [if_pos c]; rw [row_at, row_at] at c; simp only [lit_nI] at c
      simp (disch := omega) only [fc_X5_unseenDots_20, fj_X5_unseenDots_63, X5_version, gW hR, gNow hR, bn, Option.bind_some, nI_add, nI_mul, nI_sub, nI_div, nI_leT, nI_leF, nI_ltT, nI_ltF, nI_eqT, nI_eqF, nI_neg, nI_cl, lit_nI, nI_nlt0, if_true, if_false, if_pos, if_neg, true_and, and_true, not_false_eq_true, or_self, or_false, false_or, reduceIte, and_self, not_true_eq_false, ne_eq, c]
    · rw [if_neg c]; rw [row_at, row_at] at c; simp only [lit_nI] at c
      simp (disch := omega) only [fc_X5_unseenDots_20, fj_X5_unseenDots_63, X5_version, gW hR, gNow hR, bn, Option.bind_some, nI_add, nI_mul, nI_sub, nI_div, nI_leT, nI_leF, nI_ltT, nI_ltF, nI_eqT, nI_eqF, nI_neg, nI_cl, lit_nI, nI_nlt0, if_true, if_false, if_pos, if_neg, true_and, and_true, not_false_eq_true, or_self, or_false, false_or, reduceIte, and_self, not_true_eq_false, ne_eq, c]
      rfl
  · simp (disch := omega) only [fc_X5_unseenDots_20, fj_X5_unseenDots_71, cK, kM hR, told_eq hR, bn, nI_add, nI_mul, nI_sub, nI_div, nI_leT, nI_leF, nI_ltT, nI_ltF, nI_eqT, nI_eqF, nI_neg, nI_cl, lit_nI, nI_nlt0, if_true, if_false, if_pos, if_neg, true_and, and_true, not_false_eq_true, or_self, or_false, false_or, reduceIte, and_self, not_true_eq_false, ne_eq, Option.map_some]
section C1
variable {n x : Nat} {M : Mem}

theorem case_7 (hI : Inv n x M) {a b : Int32} : fk_law_7 x (x + 60) (x + 68) a b M (Inv (n + 1) x) := by
  obtain ⟨w, p, R, C, Q, m, hx⟩ := hI.cx
  have hR := hx.Rle
  have hc := hx.2.2.2.1
  refine lw_int (H := hnd1 0) (F := f_X4_versionEntry x a b M) (G := f_X5_versionEntry (x + 60) a b) (E := 0) (kx := 1) hI (by decide) (fun M => rfl) ?_
  rcases rng a R (by omega) with ⟨r0, h0, rfl⟩ | b0
  · skip
    rcases rng b R (by omega) with ⟨r1, h1, rfl⟩ | b1
    · skip
      obtain ⟨c0, d0, e0⟩ := hx.cl (show r0 < 4 + m by omega)
      obtain ⟨c1, d1, e1⟩ := hx.cl (show r1 < 4 + m by omega)
      refine Or.inl ⟨row (mA M (x + 62)) r0 r1, M, ?_, CSim.refl, fun M2 f2 => ⟨mA M (x + 62), ?_, fun q _ => rfl⟩⟩
      · simp (disch := omega) only [f_X4_versionEntry, cK, hx.k5, if_true, if_false, bx_l, bx_r, bn, Option.bind_some, Option.map_some, b01_or, hx.w134, hx.r100, hx.r101, hx.r102, hx.i96, hx.i97, hx.i98, hx.i99, sta_ok hx h0, rep_ok hx h0, sta_ok hx h1, rep_ok hx h1, hx.s3, X2_version c0, d0]
      · skip
        have hb0 := bs_le (show r0 < 12 by omega)
        have hb1 := bs_le (show r1 < 12 by omega)
        simp (disch := omega) only [f_X5_versionEntry, cK, kM f2.rn, if_true, if_false, bn, Option.bind_some, Option.map_some, told_eq f2.rn, refuse_eq f2.rn, refuses_eq f2.rn, e10, b01_or, true_or, or_true, areR_ok f2.rn h0 h1 hR.2.1 hc.1, isR_ok f2.rn h0 hR.2.1 hc.1, isR_ok f2.rn h1 hR.2.1 hc.1, fj_X5_versionEntry_31, gW f2.rn, X5_version, gNow f2.rn]; rfl
    · skip
      refine Or.inr ⟨M, ?_, CSim.refl, fun M2 f2 => ⟨0, mA M (x + 62), ?_, fun q _ => rfl⟩⟩
      · simp only [f_X4_versionEntry, cK, hx.k5, if_true, if_false, bx_l, bx_r, bn, Option.bind_some, Option.map_some, b01_or, hx.w134, hx.r100, hx.r101, hx.r102, hx.i96, hx.i97, hx.i98, hx.i99, sta_ok hx h0, rep_ok hx h0, sta_no hx b1, rep_no hx b1]
      · simp only [f_X5_versionEntry, cK, kM f2.rn, if_true, if_false, bn, Option.bind_some, Option.map_some, told_eq f2.rn, refuse_eq f2.rn, refuses_eq f2.rn, e10, b01_or, true_or, or_true, areR_no f2.rn (Or.inr b1) hR.2.1 hc.1, isR_ok f2.rn h0 hR.2.1 hc.1, isR_no f2.rn b1 hR.2.1 hc.1, fj_X5_versionEntry_31]
  · skip
    rcases rng b R (by omega) with ⟨r1, h1, rfl⟩ | b1
    · skip
      refine Or.inr ⟨M, ?_, CSim.refl, fun M2 f2 => ⟨0, mA M (x + 62), ?_, fun q _ => rfl⟩⟩
      · simp only [f_X4_versionEntry, cK, hx.k5, if_true, if_false, bx_l, bx_r, bn, Option.bind_some, Option.map_some, b01_or, hx.w134, hx.r100, hx.r101, hx.r102, hx.i96, hx.i97, hx.i98, hx.i99, sta_no hx b0, rep_no hx b0, sta_ok hx h1, rep_ok hx h1]
      · simp only [f_X5_versionEntry, cK, kM f2.rn, if_true, if_false, bn, Option.bind_some, Option.map_some, told_eq f2.rn, refuse_eq f2.rn, refuses_eq f2.rn, e10, b01_or, true_or, or_true, areR_no f2.rn (Or.inl b0) hR.2.1 hc.1, isR_no f2.rn b0 hR.2.1 hc.1, isR_ok f2.rn h1 hR.2.1 hc.1, fj_X5_versionEntry_31]
    · skip
      refine Or.inr ⟨M, ?_, CSim.refl, fun M2 f2 => ⟨0, mA M (x + 62), ?_, fun q _ => rfl⟩⟩
      · simp only [f_X4_versionEntry, cK, hx.k5, if_true, if_false, bx_l, bx_r, bn, Option.bind_some, Option.map_some, b01_or, hx.w134, hx.r100, hx.r101, hx.r102, hx.i96, hx.i97, hx.i98, hx.i99, sta_no hx b0, rep_no hx b0, sta_no hx b1, rep_no hx b1]
      · simp only [f_X5_versionEntry, cK, kM f2.rn, if_true, if_false, bn, Option.bind_some, Option.map_some, told_eq f2.rn, refuse_eq f2.rn, refuses_eq f2.rn, e10, b01_or, true_or, or_true, areR_no f2.rn (Or.inl b0) hR.2.1 hc.1, isR_no f2.rn b0 hR.2.1 hc.1, isR_no f2.rn b1 hR.2.1 hc.1, fj_X5_versionEntry_31]

theorem case_8 (hI : Inv n x M) {a b : Int32} : fk_law_8 x (x + 60) (x + 68) a b M (Inv (n + 1) x) := by
  obtain ⟨w, p, R, C, Q, m, hx⟩ := hI.cx
  have hR := hx.Rle
  have hc := hx.2.2.2.1
  refine lw_bool (F := f_X4_areEqual x a b M) (G := f_X5_areEqual (x + 60) a b) hI ?_
  rcases rng a R (by omega) with ⟨r0, h0, rfl⟩ | b0
  · skip
    rcases rng b R (by omega) with ⟨r1, h1, rfl⟩ | b1
    · skip
      obtain ⟨c0, d0, e0⟩ := hx.cl (show r0 < 4 + m by omega)
      obtain ⟨c1, d1, e1⟩ := hx.cl (show r1 < 4 + m by omega)
      have ev : b01 (eqS (mA M (clo w p r0)) (mA M (clo w p r1))) = b01 (eqS (row (mA M (x + 62)) r0) (row (mA M (x + 62)) r1)) := b01_c (eqS_congr d0 d1)
      refine Or.inl ⟨b01 (eqS (row (mA M (x + 62)) r0) (row (mA M (x + 62)) r1)), M, b01_or _, ?_, CSim.refl, fun M2 f2 => ⟨mA M (x + 62), ?_, fun q _ => rfl⟩⟩
      · simp (disch := omega) only [f_X4_areEqual, cK, hx.k5, if_true, if_false, bx_l, bx_r, bn, Option.bind_some, Option.map_some, b01_or, hx.w134, hx.r100, hx.r101, hx.r102, hx.i96, hx.i97, hx.i98, hx.i99, sta_ok hx h0, rep_ok hx h0, sta_ok hx h1, rep_ok hx h1, hx.s3, X2_same c0 c1, ev]
      · skip
        have hb0 := bs_le (show r0 < 12 by omega)
        have hb1 := bs_le (show r1 < 12 by omega)
        simp (disch := omega) only [f_X5_areEqual, cK, kM f2.rn, if_true, if_false, bn, Option.bind_some, Option.map_some, told_eq f2.rn, refuse_eq f2.rn, refuses_eq f2.rn, e10, b01_or, true_or, or_true, areR_ok f2.rn h0 h1 hR.2.1 hc.1, isR_ok f2.rn h0 hR.2.1 hc.1, isR_ok f2.rn h1 hR.2.1 hc.1, fj_X5_areEqual_26, X5_alike f2.rn, says_eq f2.rn (b01_or _)]
    · skip
      refine Or.inr ⟨M, ?_, CSim.refl, fun M2 f2 => ⟨0, mA M (x + 62), ?_, fun q _ => rfl⟩⟩
      · simp only [f_X4_areEqual, cK, hx.k5, if_true, if_false, bx_l, bx_r, bn, Option.bind_some, Option.map_some, b01_or, hx.w134, hx.r100, hx.r101, hx.r102, hx.i96, hx.i97, hx.i98, hx.i99, sta_ok hx h0, rep_ok hx h0, sta_no hx b1, rep_no hx b1]
      · simp only [f_X5_areEqual, cK, kM f2.rn, if_true, if_false, bn, Option.bind_some, Option.map_some, told_eq f2.rn, refuse_eq f2.rn, refuses_eq f2.rn, e10, b01_or, true_or, or_true, areR_no f2.rn (Or.inr b1) hR.2.1 hc.1, isR_ok f2.rn h0 hR.2.1 hc.1, isR_no f2.rn b1 hR.2.1 hc.1, fj_X5_areEqual_26]
  · skip
    rcases rng b R (by omega) with ⟨r1, h1, rfl⟩ | b1
    · skip
      refine Or.inr ⟨M, ?_, CSim.refl, fun M2 f2 => ⟨0, mA M (x + 62), ?_, fun q _ => rfl⟩⟩
      · simp only [f_X4_areEqual, cK, hx.k5, if_true, if_false, bx_l, bx_r, bn, Option.bind_some, Option.map_some, b01_or, hx.w134, hx.r100, hx.r101, hx.r102, hx.i96, hx.i97, hx.i98, hx.i99, sta_no hx b0, rep_no hx b0, sta_ok hx h1, rep_ok hx h1]
      · simp only [f_X5_areEqual, cK, kM f2.rn, if_true, if_false, bn, Option.bind_some, Option.map_some, told_eq f2.rn, refuse_eq f2.rn, refuses_eq f2.rn, e10, b01_or, true_or, or_true, areR_no f2.rn (Or.inl b0) hR.2.1 hc.1, isR_no f2.rn b0 hR.2.1 hc.1, isR_ok f2.rn h1 hR.2.1 hc.1, fj_X5_areEqual_26]
    · skip
      refine Or.inr ⟨M, ?_, CSim.refl, fun M2 f2 => ⟨0, mA M (x + 62), ?_, fun q _ => rfl⟩⟩
      · simp only [f_X4_areEqual, cK, hx.k5, if_true, if_false, bx_l, bx_r, bn, Option.bind_some, Option.map_some, b01_or, hx.w134, hx.r100, hx.r101, hx.r102, hx.i96, hx.i97, hx.i98, hx.i99, sta_no hx b0, rep_no hx b0, sta_no hx b1, rep_no hx b1]
      · simp only [f_X5_areEqual, cK, kM f2.rn, if_true, if_false, bn, Option.bind_some, Option.map_some, told_eq f2.rn, refuse_eq f2.rn, refuses_eq f2.rn, e10, b01_or, true_or, or_true, areR_no f2.rn (Or.inl b0) hR.2.1 hc.1, isR_no f2.rn b0 hR.2.1 hc.1, isR_no f2.rn b1 hR.2.1 hc.1, fj_X5_areEqual_26]

theorem case_9 (hI : Inv n x M) {a b : Int32} : fk_law_9 x (x + 60) (x + 68) a b M (Inv (n + 1) x) := by
  obtain ⟨w, p, R, C, Q, m, hx⟩ := hI.cx
  have hR := hx.Rle
  have hc := hx.2.2.2.1
  refine lw_bool (F := f_X4_covers x a b M) (G := f_X5_covers (x + 60) a b) hI ?_
  rcases rng a R (by omega) with ⟨r0, h0, rfl⟩ | b0
  · skip
    rcases rng b R (by omega) with ⟨r1, h1, rfl⟩ | b1
    · skip
      obtain ⟨c0, d0, e0⟩ := hx.cl (show r0 < 4 + m by omega)
      obtain ⟨c1, d1, e1⟩ := hx.cl (show r1 < 4 + m by omega)
      obtain ⟨T, ek⟩ := c_know hx (show r0 < 4 + m by omega) (show r1 < 4 + m by omega)
      refine Or.inl ⟨b01 (cov (row (mA M (x + 62)) r0) (row (mA M (x + 62)) r1)), wA M (x + 31) T, b01_or _, ?_, CSim.one, fun M2 f2 => ⟨put (mA M (x + 62)) 10 (absR (row (mA M (x + 62)) r0) (row (mA M (x + 62)) r1)), ?_, fun q hq => put_hi (by omega) hq⟩⟩
      · simp (disch := omega) only [f_X4_covers, cK, hx.k5, if_true, if_false, bx_l, bx_r, bn, Option.bind_some, Option.map_some, b01_or, hx.w134, hx.r100, hx.r101, hx.r102, hx.i96, hx.i97, hx.i98, hx.i99, sta_ok hx h0, rep_ok hx h0, sta_ok hx h1, rep_ok hx h1, hx.s3, ek]
      · skip
        have hb0 := bs_le (show r0 < 12 by omega)
        have hb1 := bs_le (show r1 < 12 by omega)
        simp (disch := omega) only [f_X5_covers, cK, kM f2.rn, if_true, if_false, bn, Option.bind_some, Option.map_some, told_eq f2.rn, refuse_eq f2.rn, refuses_eq f2.rn, e10, b01_or, true_or, or_true, areR_ok f2.rn h0 h1 hR.2.1 hc.1, isR_ok f2.rn h0 hR.2.1 hc.1, isR_ok f2.rn h1 hR.2.1 hc.1, fj_X5_covers_26, X5_covd f2.rn, says_eq f2.rn (b01_or _)]
    · skip
      refine Or.inr ⟨M, ?_, CSim.refl, fun M2 f2 => ⟨0, mA M (x + 62), ?_, fun q _ => rfl⟩⟩
      · simp only [f_X4_covers, cK, hx.k5, if_true, if_false, bx_l, bx_r, bn, Option.bind_some, Option.map_some, b01_or, hx.w134, hx.r100, hx.r101, hx.r102, hx.i96, hx.i97, hx.i98, hx.i99, sta_ok hx h0, rep_ok hx h0, sta_no hx b1, rep_no hx b1]
      · simp only [f_X5_covers, cK, kM f2.rn, if_true, if_false, bn, Option.bind_some, Option.map_some, told_eq f2.rn, refuse_eq f2.rn, refuses_eq f2.rn, e10, b01_or, true_or, or_true, areR_no f2.rn (Or.inr b1) hR.2.1 hc.1, isR_ok f2.rn h0 hR.2.1 hc.1, isR_no f2.rn b1 hR.2.1 hc.1, fj_X5_covers_26]
  · skip
    rcases rng b R (by omega) with ⟨r1, h1, rfl⟩ | b1
    · skip
      refine Or.inr ⟨M, ?_, CSim.refl, fun M2 f2 => ⟨0, mA M (x + 62), ?_, fun q _ => rfl⟩⟩
      · simp only [f_X4_covers, cK, hx.k5, if_true, if_false, bx_l, bx_r, bn, Option.bind_some, Option.map_some, b01_or, hx.w134, hx.r100, hx.r101, hx.r102, hx.i96, hx.i97, hx.i98, hx.i99, sta_no hx b0, rep_no hx b0, sta_ok hx h1, rep_ok hx h1]
      · simp only [f_X5_covers, cK, kM f2.rn, if_true, if_false, bn, Option.bind_some, Option.map_some, told_eq f2.rn, refuse_eq f2.rn, refuses_eq f2.rn, e10, b01_or, true_or, or_true, areR_no f2.rn (Or.inl b0) hR.2.1 hc.1, isR_no f2.rn b0 hR.2.1 hc.1, isR_ok f2.rn h1 hR.2.1 hc.1, fj_X5_covers_26]
    · skip
      refine Or.inr ⟨M, ?_, CSim.refl, fun M2 f2 => ⟨0, mA M (x + 62), ?_, fun q _ => rfl⟩⟩
      · simp only [f_X4_covers, cK, hx.k5, if_true, if_false, bx_l, bx_r, bn, Option.bind_some, Option.map_some, b01_or, hx.w134, hx.r100, hx.r101, hx.r102, hx.i96, hx.i97, hx.i98, hx.i99, sta_no hx b0, rep_no hx b0, sta_no hx b1, rep_no hx b1]
      · simp only [f_X5_covers, cK, kM f2.rn, if_true, if_false, bn, Option.bind_some, Option.map_some, told_eq f2.rn, refuse_eq f2.rn, refuses_eq f2.rn, e10, b01_or, true_or, or_true, areR_no f2.rn (Or.inl b0) hR.2.1 hc.1, isR_no f2.rn b0 hR.2.1 hc.1, isR_no f2.rn b1 hR.2.1 hc.1, fj_X5_covers_26]

theorem case_12 (hI : Inv n x M) {a b : Int32} : fk_law_12 x (x + 60) (x + 68) a b M (Inv (n + 1) x) := by
  obtain ⟨w, p, R, C, Q, m, hx⟩ := hI.cx
  have hR := hx.Rle
  have hc := hx.2.2.2.1
  refine lw_int (H := hnd1 0) (F := f_X4_counterValue x a b M) (G := f_X5_counterValue (x + 60) a b) (E := 0) (kx := 1) hI (by decide) (fun M => rfl) ?_
  rcases rng a R (by omega) with ⟨r0, h0, rfl⟩ | b0
  · skip
    rcases rng b C (by omega) with ⟨r1, h1, rfl⟩ | b1
    · skip
      obtain ⟨c0, d0, e0⟩ := hx.cl (show r0 < 4 + m by omega)
      have ev := tot_congr (c := r1) d0 (by omega) 4 (by omega)
      refine Or.inl ⟨tot (row (mA M (x + 62)) r0) r1 4, M, ?_, CSim.refl, fun M2 f2 => ⟨mA M (x + 62), ?_, fun q _ => rfl⟩⟩
      · simp (disch := omega) only [f_X4_counterValue, cK, hx.k5, if_true, if_false, bx_l, bx_r, bn, Option.bind_some, Option.map_some, b01_or, hx.w134, hx.r100, hx.r101, hx.r102, hx.i96, hx.i97, hx.i98, hx.i99, sta_ok hx h0, rep_ok hx h0, cou_ok hx h1, hx.s3, X2_total c0, ev]
      · skip
        have hb0 := bs_le (show r0 < 12 by omega)
        simp (disch := omega) only [f_X5_counterValue, cK, kM f2.rn, if_true, if_false, bn, Option.bind_some, Option.map_some, told_eq f2.rn, refuse_eq f2.rn, refuses_eq f2.rn, e10, b01_or, true_or, or_true, isR_ok f2.rn h0 hR.2.1 hc.1, isC_ok f2.rn h1 hR.2.2.1 hc.2.1, fj_X5_counterValue_34, fj_X5_counterValue_29, X5_worth f2.rn]
    · skip
      refine Or.inr ⟨M, ?_, CSim.refl, fun M2 f2 => ⟨0, mA M (x + 62), ?_, fun q _ => rfl⟩⟩
      · simp only [f_X4_counterValue, cK, hx.k5, if_true, if_false, bx_l, bx_r, bn, Option.bind_some, Option.map_some, b01_or, hx.w134, hx.r100, hx.r101, hx.r102, hx.i96, hx.i97, hx.i98, hx.i99, sta_ok hx h0, rep_ok hx h0, cou_no hx b1]
      · simp only [f_X5_counterValue, cK, kM f2.rn, if_true, if_false, bn, Option.bind_some, Option.map_some, told_eq f2.rn, refuse_eq f2.rn, refuses_eq f2.rn, e10, b01_or, true_or, or_true, isR_ok f2.rn h0 hR.2.1 hc.1, isC_no f2.rn b1 hR.2.2.1 hc.2.1, fj_X5_counterValue_34, fj_X5_counterValue_29]
  · skip
    rcases rng b C (by omega) with ⟨r1, h1, rfl⟩ | b1
    · skip
      refine Or.inr ⟨M, ?_, CSim.refl, fun M2 f2 => ⟨0, mA M (x + 62), ?_, fun q _ => rfl⟩⟩
      · simp only [f_X4_counterValue, cK, hx.k5, if_true, if_false, bx_l, bx_r, bn, Option.bind_some, Option.map_some, b01_or, hx.w134, hx.r100, hx.r101, hx.r102, hx.i96, hx.i97, hx.i98, hx.i99, sta_no hx b0, rep_no hx b0, cou_ok hx h1]
      · simp only [f_X5_counterValue, cK, kM f2.rn, if_true, if_false, bn, Option.bind_some, Option.map_some, told_eq f2.rn, refuse_eq f2.rn, refuses_eq f2.rn, e10, b01_or, true_or, or_true, isR_no f2.rn b0 hR.2.1 hc.1, isC_ok f2.rn h1 hR.2.2.1 hc.2.1, fj_X5_counterValue_34, fj_X5_counterValue_29]
    · skip
      refine Or.inr ⟨M, ?_, CSim.refl, fun M2 f2 => ⟨0, mA M (x + 62), ?_, fun q _ => rfl⟩⟩
      · simp only [f_X4_counterValue, cK, hx.k5, if_true, if_false, bx_l, bx_r, bn, Option.bind_some, Option.map_some, b01_or, hx.w134, hx.r100, hx.r101, hx.r102, hx.i96, hx.i97, hx.i98, hx.i99, sta_no hx b0, rep_no hx b0, cou_no hx b1]
      · simp only [f_X5_counterValue, cK, kM f2.rn, if_true, if_false, bn, Option.bind_some, Option.map_some, told_eq f2.rn, refuse_eq f2.rn, refuses_eq f2.rn, e10, b01_or, true_or, or_true, isR_no f2.rn b0 hR.2.1 hc.1, isC_no f2.rn b1 hR.2.2.1 hc.2.1, fj_X5_counterValue_34, fj_X5_counterValue_29]

theorem case_13 (hI : Inv n x M) {a b c : Int32} : fk_law_13 x (x + 60) (x + 68) a b c M (Inv (n + 1) x) := by
  obtain ⟨w, p, R, C, Q, m, hx⟩ := hI.cx
  have hR := hx.Rle
  have hc := hx.2.2.2.1
  refine lw_int (H := hnd1 0) (F := f_X4_increments x a b c M) (G := f_X5_increments (x + 60) a b c) (E := 0) (kx := 1) hI (by decide) (fun M => rfl) ?_
  rcases rng a R (by omega) with ⟨r0, h0, rfl⟩ | b0
  · skip
    rcases rng b C (by omega) with ⟨r1, h1, rfl⟩ | b1
    · skip
      rcases rng c R (by omega) with ⟨r2, h2, rfl⟩ | b2
      · skip
        obtain ⟨c0, d0, e0⟩ := hx.cl (show r0 < 4 + m by omega)
        obtain ⟨c2, d2, e2⟩ := hx.cl (show r2 < 4 + m by omega)
        have es : f_X2_sum (sto w p r0) 4 (nI r1) (nI r2) M = some (row (mA M (x + 62)) r0 (4 + (4 * r1 + r2)), M) := by rw [show (4 : Int32) = nI 4 from rfl, X2_sum c0 (by omega) (by omega) (by omega), d0 _ (by omega), show 4 + r1 * 4 + r2 = 4 + (4 * r1 + r2) by omega]
        refine Or.inl ⟨row (mA M (x + 62)) r0 (4 + (4 * r1 + r2)), M, ?_, CSim.refl, fun M2 f2 => ⟨mA M (x + 62), ?_, fun q _ => rfl⟩⟩
        · simp (disch := omega) only [f_X4_increments, cK, hx.k5, if_true, if_false, bx_l, bx_r, bn, Option.bind_some, Option.map_some, b01_or, hx.w134, hx.r100, hx.r101, hx.r102, hx.i96, hx.i97, hx.i98, hx.i99, sta_ok hx h0, rep_ok hx h0, cou_ok hx h1, sta_ok hx h2, rep_ok hx h2, f_X4_sumOf, hx.s3, es]
        · skip
          have hb0 := bs_le (show r0 < 12 by omega)
          have hb2 := bs_le (show r2 < 12 by omega)
          simp (disch := omega) only [f_X5_increments, cK, kM f2.rn, if_true, if_false, bn, Option.bind_some, Option.map_some, told_eq f2.rn, refuse_eq f2.rn, refuses_eq f2.rn, e10, b01_or, true_or, or_true, areR_ok f2.rn h0 h2 hR.2.1 hc.1, isR_ok f2.rn h0 hR.2.1 hc.1, isC_ok f2.rn h1 hR.2.2.1 hc.2.1, isR_ok f2.rn h2 hR.2.1 hc.1, fj_X5_increments_40, fj_X5_increments_35, gW f2.rn, X5_more, gNow f2.rn]; rfl
      · skip
        refine Or.inr ⟨M, ?_, CSim.refl, fun M2 f2 => ⟨0, mA M (x + 62), ?_, fun q _ => rfl⟩⟩
        · simp only [f_X4_increments, cK, hx.k5, if_true, if_false, bx_l, bx_r, bn, Option.bind_some, Option.map_some, b01_or, hx.w134, hx.r100, hx.r101, hx.r102, hx.i96, hx.i97, hx.i98, hx.i99, sta_ok hx h0, rep_ok hx h0, cou_ok hx h1, sta_no hx b2, rep_no hx b2, f_X4_sumOf]
        · simp only [f_X5_increments, cK, kM f2.rn, if_true, if_false, bn, Option.bind_some, Option.map_some, told_eq f2.rn, refuse_eq f2.rn, refuses_eq f2.rn, e10, b01_or, true_or, or_true, areR_no f2.rn (Or.inr b2) hR.2.1 hc.1, isR_ok f2.rn h0 hR.2.1 hc.1, isC_ok f2.rn h1 hR.2.2.1 hc.2.1, isR_no f2.rn b2 hR.2.1 hc.1, fj_X5_increments_40, fj_X5_increments_35]
    · skip
      rcases rng c R (by omega) with ⟨r2, h2, rfl⟩ | b2
      · skip
        refine Or.inr ⟨M, ?_, CSim.refl, fun M2 f2 => ⟨0, mA M (x + 62), ?_, fun q _ => rfl⟩⟩
        · simp only [f_X4_increments, cK, hx.k5, if_true, if_false, bx_l, bx_r, bn, Option.bind_some, Option.map_some, b01_or, hx.w134, hx.r100, hx.r101, hx.r102, hx.i96, hx.i97, hx.i98, hx.i99, sta_ok hx h0, rep_ok hx h0, cou_no hx b1, sta_ok hx h2, rep_ok hx h2, f_X4_sumOf]
        · simp only [f_X5_increments, cK, kM f2.rn, if_true, if_false, bn, Option.bind_some, Option.map_some, told_eq f2.rn, refuse_eq f2.rn, refuses_eq f2.rn, e10, b01_or, true_or, or_true, areR_ok f2.rn h0 h2 hR.2.1 hc.1, isR_ok f2.rn h0 hR.2.1 hc.1, isC_no f2.rn b1 hR.2.2.1 hc.2.1, isR_ok f2.rn h2 hR.2.1 hc.1, fj_X5_increments_40, fj_X5_increments_35]
      · skip
        refine Or.inr ⟨M, ?_, CSim.refl, fun M2 f2 => ⟨0, mA M (x + 62), ?_, fun q _ => rfl⟩⟩
        · simp only [f_X4_increments, cK, hx.k5, if_true, if_false, bx_l, bx_r, bn, Option.bind_some, Option.map_some, b01_or, hx.w134, hx.r100, hx.r101, hx.r102, hx.i96, hx.i97, hx.i98, hx.i99, sta_ok hx h0, rep_ok hx h0, cou_no hx b1, sta_no hx b2, rep_no hx b2, f_X4_sumOf]
        · simp only [f_X5_increments, cK, kM f2.rn, if_true, if_false, bn, Option.bind_some, Option.map_some, told_eq f2.rn, refuse_eq f2.rn, refuses_eq f2.rn, e10, b01_or, true_or, or_true, areR_no f2.rn (Or.inr b2) hR.2.1 hc.1, isR_ok f2.rn h0 hR.2.1 hc.1, isC_no f2.rn b1 hR.2.2.1 hc.2.1, isR_no f2.rn b2 hR.2.1 hc.1, fj_X5_increments_40, fj_X5_increments_35]
  · skip
    rcases rng b C (by omega) with ⟨r1, h1, rfl⟩ | b1
    · skip
      rcases rng c R (by omega) with ⟨r2, h2, rfl⟩ | b2
      · skip
        refine Or.inr ⟨M, ?_, CSim.refl, fun M2 f2 => ⟨0, mA M (x + 62), ?_, fun q _ => rfl⟩⟩
        · simp only [f_X4_increments, cK, hx.k5, if_true, if_false, bx_l, bx_r, bn, Option.bind_some, Option.map_some, b01_or, hx.w134, hx.r100, hx.r101, hx.r102, hx.i96, hx.i97, hx.i98, hx.i99, sta_no hx b0, rep_no hx b0, cou_ok hx h1, sta_ok hx h2, rep_ok hx h2, f_X4_sumOf]
        · simp only [f_X5_increments, cK, kM f2.rn, if_true, if_false, bn, Option.bind_some, Option.map_some, told_eq f2.rn, refuse_eq f2.rn, refuses_eq f2.rn, e10, b01_or, true_or, or_true, areR_no f2.rn (Or.inl b0) hR.2.1 hc.1, isR_no f2.rn b0 hR.2.1 hc.1, isC_ok f2.rn h1 hR.2.2.1 hc.2.1, isR_ok f2.rn h2 hR.2.1 hc.1, fj_X5_increments_40, fj_X5_increments_35]
      · skip
        refine Or.inr ⟨M, ?_, CSim.refl, fun M2 f2 => ⟨0, mA M (x + 62), ?_, fun q _ => rfl⟩⟩
        · simp only [f_X4_increments, cK, hx.k5, if_true, if_false, bx_l, bx_r, bn, Option.bind_some, Option.map_some, b01_or, hx.w134, hx.r100, hx.r101, hx.r102, hx.i96, hx.i97, hx.i98, hx.i99, sta_no hx b0, rep_no hx b0, cou_ok hx h1, sta_no hx b2, rep_no hx b2, f_X4_sumOf]
        · simp only [f_X5_increments, cK, kM f2.rn, if_true, if_false, bn, Option.bind_some, Option.map_some, told_eq f2.rn, refuse_eq f2.rn, refuses_eq f2.rn, e10, b01_or, true_or, or_true, areR_no f2.rn (Or.inl b0) hR.2.1 hc.1, isR_no f2.rn b0 hR.2.1 hc.1, isC_ok f2.rn h1 hR.2.2.1 hc.2.1, isR_no f2.rn b2 hR.2.1 hc.1, fj_X5_increments_40, fj_X5_increments_35]
    · skip
      rcases rng c R (by omega) with ⟨r2, h2, rfl⟩ | b2
      · skip
        refine Or.inr ⟨M, ?_, CSim.refl, fun M2 f2 => ⟨0, mA M (x + 62), ?_, fun q _ => rfl⟩⟩
        · simp only [f_X4_increments, cK, hx.k5, if_true, if_false, bx_l, bx_r, bn, Option.bind_some, Option.map_some, b01_or, hx.w134, hx.r100, hx.r101, hx.r102, hx.i96, hx.i97, hx.i98, hx.i99, sta_no hx b0, rep_no hx b0, cou_no hx b1, sta_ok hx h2, rep_ok hx h2, f_X4_sumOf]
        · simp only [f_X5_increments, cK, kM f2.rn, if_true, if_false, bn, Option.bind_some, Option.map_some, told_eq f2.rn, refuse_eq f2.rn, refuses_eq f2.rn, e10, b01_or, true_or, or_true, areR_no f2.rn (Or.inl b0) hR.2.1 hc.1, isR_no f2.rn b0 hR.2.1 hc.1, isC_no f2.rn b1 hR.2.2.1 hc.2.1, isR_ok f2.rn h2 hR.2.1 hc.1, fj_X5_increments_40, fj_X5_increments_35]
      · skip
        refine Or.inr ⟨M, ?_, CSim.refl, fun M2 f2 => ⟨0, mA M (x + 62), ?_, fun q _ => rfl⟩⟩
        · simp only [f_X4_increments, cK, hx.k5, if_true, if_false, bx_l, bx_r, bn, Option.bind_some, Option.map_some, b01_or, hx.w134, hx.r100, hx.r101, hx.r102, hx.i96, hx.i97, hx.i98, hx.i99, sta_no hx b0, rep_no hx b0, cou_no hx b1, sta_no hx b2, rep_no hx b2, f_X4_sumOf]
        · simp only [f_X5_increments, cK, kM f2.rn, if_true, if_false, bn, Option.bind_some, Option.map_some, told_eq f2.rn, refuse_eq f2.rn, refuses_eq f2.rn, e10, b01_or, true_or, or_true, areR_no f2.rn (Or.inl b0) hR.2.1 hc.1, isR_no f2.rn b0 hR.2.1 hc.1, isC_no f2.rn b1 hR.2.2.1 hc.2.1, isR_no f2.rn b2 hR.2.1 hc.1, fj_X5_increments_40, fj_X5_increments_35]

theorem case_14 (hI : Inv n x M) {a b c : Int32} : fk_law_14 x (x + 60) (x + 68) a b c M (Inv (n + 1) x) := by
  obtain ⟨w, p, R, C, Q, m, hx⟩ := hI.cx
  have hR := hx.Rle
  have hc := hx.2.2.2.1
  refine lw_int (H := hnd1 0) (F := f_X4_decrements x a b c M) (G := f_X5_decrements (x + 60) a b c) (E := 0) (kx := 1) hI (by decide) (fun M => rfl) ?_
  rcases rng a R (by omega) with ⟨r0, h0, rfl⟩ | b0
  · skip
    rcases rng b C (by omega) with ⟨r1, h1, rfl⟩ | b1
    · skip
      rcases rng c R (by omega) with ⟨r2, h2, rfl⟩ | b2
      · skip
        obtain ⟨c0, d0, e0⟩ := hx.cl (show r0 < 4 + m by omega)
        obtain ⟨c2, d2, e2⟩ := hx.cl (show r2 < 4 + m by omega)
        have es : f_X2_sum (sto w p r0) 20 (nI r1) (nI r2) M = some (row (mA M (x + 62)) r0 (20 + (4 * r1 + r2)), M) := by rw [show (20 : Int32) = nI 20 from rfl, X2_sum c0 (by omega) (by omega) (by omega), d0 _ (by omega), show 20 + r1 * 4 + r2 = 20 + (4 * r1 + r2) by omega]
        refine Or.inl ⟨row (mA M (x + 62)) r0 (20 + (4 * r1 + r2)), M, ?_, CSim.refl, fun M2 f2 => ⟨mA M (x + 62), ?_, fun q _ => rfl⟩⟩
        · simp (disch := omega) only [f_X4_decrements, cK, hx.k5, if_true, if_false, bx_l, bx_r, bn, Option.bind_some, Option.map_some, b01_or, hx.w134, hx.r100, hx.r101, hx.r102, hx.i96, hx.i97, hx.i98, hx.i99, sta_ok hx h0, rep_ok hx h0, cou_ok hx h1, sta_ok hx h2, rep_ok hx h2, f_X4_sumOf, hx.s3, es]
        · skip
          have hb0 := bs_le (show r0 < 12 by omega)
          have hb2 := bs_le (show r2 < 12 by omega)
          simp (disch := omega) only [f_X5_decrements, cK, kM f2.rn, if_true, if_false, bn, Option.bind_some, Option.map_some, told_eq f2.rn, refuse_eq f2.rn, refuses_eq f2.rn, e10, b01_or, true_or, or_true, areR_ok f2.rn h0 h2 hR.2.1 hc.1, isR_ok f2.rn h0 hR.2.1 hc.1, isC_ok f2.rn h1 hR.2.2.1 hc.2.1, isR_ok f2.rn h2 hR.2.1 hc.1, fj_X5_decrements_40, fj_X5_decrements_35, gW f2.rn, X5_less, gNow f2.rn]; rfl
      · skip
        refine Or.inr ⟨M, ?_, CSim.refl, fun M2 f2 => ⟨0, mA M (x + 62), ?_, fun q _ => rfl⟩⟩
        · simp only [f_X4_decrements, cK, hx.k5, if_true, if_false, bx_l, bx_r, bn, Option.bind_some, Option.map_some, b01_or, hx.w134, hx.r100, hx.r101, hx.r102, hx.i96, hx.i97, hx.i98, hx.i99, sta_ok hx h0, rep_ok hx h0, cou_ok hx h1, sta_no hx b2, rep_no hx b2, f_X4_sumOf]
        · simp only [f_X5_decrements, cK, kM f2.rn, if_true, if_false, bn, Option.bind_some, Option.map_some, told_eq f2.rn, refuse_eq f2.rn, refuses_eq f2.rn, e10, b01_or, true_or, or_true, areR_no f2.rn (Or.inr b2) hR.2.1 hc.1, isR_ok f2.rn h0 hR.2.1 hc.1, isC_ok f2.rn h1 hR.2.2.1 hc.2.1, isR_no f2.rn b2 hR.2.1 hc.1, fj_X5_decrements_40, fj_X5_decrements_35]
    · skip
      rcases rng c R (by omega) with ⟨r2, h2, rfl⟩ | b2
      · skip
        refine Or.inr ⟨M, ?_, CSim.refl, fun M2 f2 => ⟨0, mA M (x + 62), ?_, fun q _ => rfl⟩⟩
        · simp only [f_X4_decrements, cK, hx.k5, if_true, if_false, bx_l, bx_r, bn, Option.bind_some, Option.map_some, b01_or, hx.w134, hx.r100, hx.r101, hx.r102, hx.i96, hx.i97, hx.i98, hx.i99, sta_ok hx h0, rep_ok hx h0, cou_no hx b1, sta_ok hx h2, rep_ok hx h2, f_X4_sumOf]
        · simp only [f_X5_decrements, cK, kM f2.rn, if_true, if_false, bn, Option.bind_some, Option.map_some, told_eq f2.rn, refuse_eq f2.rn, refuses_eq f2.rn, e10, b01_or, true_or, or_true, areR_ok f2.rn h0 h2 hR.2.1 hc.1, isR_ok f2.rn h0 hR.2.1 hc.1, isC_no f2.rn b1 hR.2.2.1 hc.2.1, isR_ok f2.rn h2 hR.2.1 hc.1, fj_X5_decrements_40, fj_X5_decrements_35]
      · skip
        refine Or.inr ⟨M, ?_, CSim.refl, fun M2 f2 => ⟨0, mA M (x + 62), ?_, fun q _ => rfl⟩⟩
        · simp only [f_X4_decrements, cK, hx.k5, if_true, if_false, bx_l, bx_r, bn, Option.bind_some, Option.map_some, b01_or, hx.w134, hx.r100, hx.r101, hx.r102, hx.i96, hx.i97, hx.i98, hx.i99, sta_ok hx h0, rep_ok hx h0, cou_no hx b1, sta_no hx b2, rep_no hx b2, f_X4_sumOf]
        · simp only [f_X5_decrements, cK, kM f2.rn, if_true, if_false, bn, Option.bind_some, Option.map_some, told_eq f2.rn, refuse_eq f2.rn, refuses_eq f2.rn, e10, b01_or, true_or, or_true, areR_no f2.rn (Or.inr b2) hR.2.1 hc.1, isR_ok f2.rn h0 hR.2.1 hc.1, isC_no f2.rn b1 hR.2.2.1 hc.2.1, isR_no f2.rn b2 hR.2.1 hc.1, fj_X5_decrements_40, fj_X5_decrements_35]
  · skip
    rcases rng b C (by omega) with ⟨r1, h1, rfl⟩ | b1
    · skip
      rcases rng c R (by omega) with ⟨r2, h2, rfl⟩ | b2
      · skip
        refine Or.inr ⟨M, ?_, CSim.refl, fun M2 f2 => ⟨0, mA M (x + 62), ?_, fun q _ => rfl⟩⟩
        · simp only [f_X4_decrements, cK, hx.k5, if_true, if_false, bx_l, bx_r, bn, Option.bind_some, Option.map_some, b01_or, hx.w134, hx.r100, hx.r101, hx.r102, hx.i96, hx.i97, hx.i98, hx.i99, sta_no hx b0, rep_no hx b0, cou_ok hx h1, sta_ok hx h2, rep_ok hx h2, f_X4_sumOf]
        · simp only [f_X5_decrements, cK, kM f2.rn, if_true, if_false, bn, Option.bind_some, Option.map_some, told_eq f2.rn, refuse_eq f2.rn, refuses_eq f2.rn, e10, b01_or, true_or, or_true, areR_no f2.rn (Or.inl b0) hR.2.1 hc.1, isR_no f2.rn b0 hR.2.1 hc.1, isC_ok f2.rn h1 hR.2.2.1 hc.2.1, isR_ok f2.rn h2 hR.2.1 hc.1, fj_X5_decrements_40, fj_X5_decrements_35]
      · skip
        refine Or.inr ⟨M, ?_, CSim.refl, fun M2 f2 => ⟨0, mA M (x + 62), ?_, fun q _ => rfl⟩⟩
        · simp only [f_X4_decrements, cK, hx.k5, if_true, if_false, bx_l, bx_r, bn, Option.bind_some, Option.map_some, b01_or, hx.w134, hx.r100, hx.r101, hx.r102, hx.i96, hx.i97, hx.i98, hx.i99, sta_no hx b0, rep_no hx b0, cou_ok hx h1, sta_no hx b2, rep_no hx b2, f_X4_sumOf]
        · simp only [f_X5_decrements, cK, kM f2.rn, if_true, if_false, bn, Option.bind_some, Option.map_some, told_eq f2.rn, refuse_eq f2.rn, refuses_eq f2.rn, e10, b01_or, true_or, or_true, areR_no f2.rn (Or.inl b0) hR.2.1 hc.1, isR_no f2.rn b0 hR.2.1 hc.1, isC_ok f2.rn h1 hR.2.2.1 hc.2.1, isR_no f2.rn b2 hR.2.1 hc.1, fj_X5_decrements_40, fj_X5_decrements_35]
    · skip
      rcases rng c R (by omega) with ⟨r2, h2, rfl⟩ | b2
      · skip
        refine Or.inr ⟨M, ?_, CSim.refl, fun M2 f2 => ⟨0, mA M (x + 62), ?_, fun q _ => rfl⟩⟩
        · simp only [f_X4_decrements, cK, hx.k5, if_true, if_false, bx_l, bx_r, bn, Option.bind_some, Option.map_some, b01_or, hx.w134, hx.r100, hx.r101, hx.r102, hx.i96, hx.i97, hx.i98, hx.i99, sta_no hx b0, rep_no hx b0, cou_no hx b1, sta_ok hx h2, rep_ok hx h2, f_X4_sumOf]
        · simp only [f_X5_decrements, cK, kM f2.rn, if_true, if_false, bn, Option.bind_some, Option.map_some, told_eq f2.rn, refuse_eq f2.rn, refuses_eq f2.rn, e10, b01_or, true_or, or_true, areR_no f2.rn (Or.inl b0) hR.2.1 hc.1, isR_no f2.rn b0 hR.2.1 hc.1, isC_no f2.rn b1 hR.2.2.1 hc.2.1, isR_ok f2.rn h2 hR.2.1 hc.1, fj_X5_decrements_40, fj_X5_decrements_35]
      · skip
        refine Or.inr ⟨M, ?_, CSim.refl, fun M2 f2 => ⟨0, mA M (x + 62), ?_, fun q _ => rfl⟩⟩
        · simp only [f_X4_decrements, cK, hx.k5, if_true, if_false, bx_l, bx_r, bn, Option.bind_some, Option.map_some, b01_or, hx.w134, hx.r100, hx.r101, hx.r102, hx.i96, hx.i97, hx.i98, hx.i99, sta_no hx b0, rep_no hx b0, cou_no hx b1, sta_no hx b2, rep_no hx b2, f_X4_sumOf]
        · simp only [f_X5_decrements, cK, kM f2.rn, if_true, if_false, bn, Option.bind_some, Option.map_some, told_eq f2.rn, refuse_eq f2.rn, refuses_eq f2.rn, e10, b01_or, true_or, or_true, areR_no f2.rn (Or.inl b0) hR.2.1 hc.1, isR_no f2.rn b0 hR.2.1 hc.1, isC_no f2.rn b1 hR.2.2.1 hc.2.1, isR_no f2.rn b2 hR.2.1 hc.1, fj_X5_decrements_40, fj_X5_decrements_35]

theorem case_16 (hI : Inv n x M) {a b : Int32} : fk_law_16 x (x + 60) (x + 68) a b M (Inv (n + 1) x) := by
  obtain ⟨w, p, R, C, Q, m, hx⟩ := hI.cx
  have hR := hx.Rle
  have hc := hx.2.2.2.1
  refine lw_int (H := hnd1 0) (F := f_X4_liveDots x a b M) (G := f_X5_liveDots (x + 60) a b) (E := 0) (kx := 1) hI (by decide) (fun M => rfl) ?_
  rcases rng a R (by omega) with ⟨r0, h0, rfl⟩ | b0
  · skip
    rcases rng b 16 (by omega) with ⟨r1, h1, rfl⟩ | b1
    · skip
      obtain ⟨c0, d0, e0⟩ := hx.cl (show r0 < 4 + m by omega)
      have ev := dl (f := 36 + r1 * 4) (f' := 36 + 4 * r1) d0 e0 (by omega) (by omega)
      refine Or.inl ⟨nI (lve (row (mA M (x + 62)) r0) (36 + 4 * r1)), M, ?_, CSim.refl, fun M2 f2 => ⟨mA M (x + 62), ?_, fun q _ => rfl⟩⟩
      · simp (disch := omega) only [f_X4_liveDots, cK, hx.k5, if_true, if_false, bx_l, bx_r, bn, Option.bind_some, Option.map_some, b01_or, hx.w134, hx.r100, hx.r101, hx.r102, hx.i96, hx.i97, hx.i98, hx.i99, sta_ok hx h0, rep_ok hx h0, tagc_ok h1, hx.s3, X2_dotsOfTag c0, ev]
      · skip
        have hb0 := bs_le (show r0 < 12 by omega)
        simp (disch := omega) only [f_X5_liveDots, cK, kM f2.rn, if_true, if_false, bn, Option.bind_some, Option.map_some, told_eq f2.rn, refuse_eq f2.rn, refuses_eq f2.rn, e10, b01_or, true_or, or_true, isR_ok f2.rn h0 hR.2.1 hc.1, inT_ok h1, fj_X5_liveDots_33, fj_X5_liveDots_28, X5_live f2.rn]
    · skip
      refine Or.inr ⟨M, ?_, CSim.refl, fun M2 f2 => ⟨0, mA M (x + 62), ?_, fun q _ => rfl⟩⟩
      · simp only [f_X4_liveDots, cK, hx.k5, if_true, if_false, bx_l, bx_r, bn, Option.bind_some, Option.map_some, b01_or, hx.w134, hx.r100, hx.r101, hx.r102, hx.i96, hx.i97, hx.i98, hx.i99, sta_ok hx h0, rep_ok hx h0, tagc_no b1]
      · simp only [f_X5_liveDots, cK, kM f2.rn, if_true, if_false, bn, Option.bind_some, Option.map_some, told_eq f2.rn, refuse_eq f2.rn, refuses_eq f2.rn, e10, b01_or, true_or, or_true, isR_ok f2.rn h0 hR.2.1 hc.1, inT_no b1, fj_X5_liveDots_33, fj_X5_liveDots_28]
  · skip
    rcases rng b 16 (by omega) with ⟨r1, h1, rfl⟩ | b1
    · skip
      refine Or.inr ⟨M, ?_, CSim.refl, fun M2 f2 => ⟨0, mA M (x + 62), ?_, fun q _ => rfl⟩⟩
      · simp only [f_X4_liveDots, cK, hx.k5, if_true, if_false, bx_l, bx_r, bn, Option.bind_some, Option.map_some, b01_or, hx.w134, hx.r100, hx.r101, hx.r102, hx.i96, hx.i97, hx.i98, hx.i99, sta_no hx b0, rep_no hx b0, tagc_ok h1]
      · simp only [f_X5_liveDots, cK, kM f2.rn, if_true, if_false, bn, Option.bind_some, Option.map_some, told_eq f2.rn, refuse_eq f2.rn, refuses_eq f2.rn, e10, b01_or, true_or, or_true, isR_no f2.rn b0 hR.2.1 hc.1, inT_ok h1, fj_X5_liveDots_33, fj_X5_liveDots_28]
    · skip
      refine Or.inr ⟨M, ?_, CSim.refl, fun M2 f2 => ⟨0, mA M (x + 62), ?_, fun q _ => rfl⟩⟩
      · simp only [f_X4_liveDots, cK, hx.k5, if_true, if_false, bx_l, bx_r, bn, Option.bind_some, Option.map_some, b01_or, hx.w134, hx.r100, hx.r101, hx.r102, hx.i96, hx.i97, hx.i98, hx.i99, sta_no hx b0, rep_no hx b0, tagc_no b1]
      · simp only [f_X5_liveDots, cK, kM f2.rn, if_true, if_false, bn, Option.bind_some, Option.map_some, told_eq f2.rn, refuse_eq f2.rn, refuses_eq f2.rn, e10, b01_or, true_or, or_true, isR_no f2.rn b0 hR.2.1 hc.1, inT_no b1, fj_X5_liveDots_33, fj_X5_liveDots_28]

theorem case_17 (hI : Inv n x M) {a b c : Int32} : fk_law_17 x (x + 60) (x + 68) a b c M (Inv (n + 1) x) := by
  obtain ⟨w, p, R, C, Q, m, hx⟩ := hI.cx
  have hR := hx.Rle
  have hc := hx.2.2.2.1
  refine lw_int (H := hnd1 0) (F := f_X4_tagDot x a b c M) (G := f_X5_tagDot (x + 60) a b c) (E := 0) (kx := 1) hI (by decide) (fun M => rfl) ?_
  rcases rng a R (by omega) with ⟨r0, h0, rfl⟩ | b0
  · skip
    rcases rng b 16 (by omega) with ⟨r1, h1, rfl⟩ | b1
    · skip
      rcases rng c R (by omega) with ⟨r2, h2, rfl⟩ | b2
      · skip
        obtain ⟨c0, d0, e0⟩ := hx.cl (show r0 < 4 + m by omega)
        obtain ⟨c2, d2, e2⟩ := hx.cl (show r2 < 4 + m by omega)
        have ev : mA M (clo w p r0) (36 + r1 * 4 + r2) = row (mA M (x + 62)) r0 (36 + (4 * r1 + r2)) := by rw [d0 _ (by omega), show 36 + r1 * 4 + r2 = 36 + (4 * r1 + r2) by omega]
        refine Or.inl ⟨row (mA M (x + 62)) r0 (36 + (4 * r1 + r2)), M, ?_, CSim.refl, fun M2 f2 => ⟨mA M (x + 62), ?_, fun q _ => rfl⟩⟩
        · simp (disch := omega) only [f_X4_tagDot, cK, hx.k5, if_true, if_false, bx_l, bx_r, bn, Option.bind_some, Option.map_some, b01_or, hx.w134, hx.r100, hx.r101, hx.r102, hx.i96, hx.i97, hx.i98, hx.i99, sta_ok hx h0, rep_ok hx h0, tagc_ok h1, sta_ok hx h2, rep_ok hx h2, hx.s3, X2_dotOfTag c0, ev]
        · skip
          have hb0 := bs_le (show r0 < 12 by omega)
          have hb2 := bs_le (show r2 < 12 by omega)
          simp (disch := omega) only [f_X5_tagDot, cK, kM f2.rn, if_true, if_false, bn, Option.bind_some, Option.map_some, told_eq f2.rn, refuse_eq f2.rn, refuses_eq f2.rn, e10, b01_or, true_or, or_true, areR_ok f2.rn h0 h2 hR.2.1 hc.1, isR_ok f2.rn h0 hR.2.1 hc.1, inT_ok h1, isR_ok f2.rn h2 hR.2.1 hc.1, fj_X5_tagDot_39, fj_X5_tagDot_34, gW f2.rn, X5_tag, gNow f2.rn]; rfl
      · skip
        refine Or.inr ⟨M, ?_, CSim.refl, fun M2 f2 => ⟨0, mA M (x + 62), ?_, fun q _ => rfl⟩⟩
        · simp only [f_X4_tagDot, cK, hx.k5, if_true, if_false, bx_l, bx_r, bn, Option.bind_some, Option.map_some, b01_or, hx.w134, hx.r100, hx.r101, hx.r102, hx.i96, hx.i97, hx.i98, hx.i99, sta_ok hx h0, rep_ok hx h0, tagc_ok h1, sta_no hx b2, rep_no hx b2]
        · simp only [f_X5_tagDot, cK, kM f2.rn, if_true, if_false, bn, Option.bind_some, Option.map_some, told_eq f2.rn, refuse_eq f2.rn, refuses_eq f2.rn, e10, b01_or, true_or, or_true, areR_no f2.rn (Or.inr b2) hR.2.1 hc.1, isR_ok f2.rn h0 hR.2.1 hc.1, inT_ok h1, isR_no f2.rn b2 hR.2.1 hc.1, fj_X5_tagDot_39, fj_X5_tagDot_34]
    · skip
      rcases rng c R (by omega) with ⟨r2, h2, rfl⟩ | b2
      · skip
        refine Or.inr ⟨M, ?_, CSim.refl, fun M2 f2 => ⟨0, mA M (x + 62), ?_, fun q _ => rfl⟩⟩
        · simp only [f_X4_tagDot, cK, hx.k5, if_true, if_false, bx_l, bx_r, bn, Option.bind_some, Option.map_some, b01_or, hx.w134, hx.r100, hx.r101, hx.r102, hx.i96, hx.i97, hx.i98, hx.i99, sta_ok hx h0, rep_ok hx h0, tagc_no b1, sta_ok hx h2, rep_ok hx h2]
        · simp only [f_X5_tagDot, cK, kM f2.rn, if_true, if_false, bn, Option.bind_some, Option.map_some, told_eq f2.rn, refuse_eq f2.rn, refuses_eq f2.rn, e10, b01_or, true_or, or_true, areR_ok f2.rn h0 h2 hR.2.1 hc.1, isR_ok f2.rn h0 hR.2.1 hc.1, inT_no b1, isR_ok f2.rn h2 hR.2.1 hc.1, fj_X5_tagDot_39, fj_X5_tagDot_34]
      · skip
        refine Or.inr ⟨M, ?_, CSim.refl, fun M2 f2 => ⟨0, mA M (x + 62), ?_, fun q _ => rfl⟩⟩
        · simp only [f_X4_tagDot, cK, hx.k5, if_true, if_false, bx_l, bx_r, bn, Option.bind_some, Option.map_some, b01_or, hx.w134, hx.r100, hx.r101, hx.r102, hx.i96, hx.i97, hx.i98, hx.i99, sta_ok hx h0, rep_ok hx h0, tagc_no b1, sta_no hx b2, rep_no hx b2]
        · simp only [f_X5_tagDot, cK, kM f2.rn, if_true, if_false, bn, Option.bind_some, Option.map_some, told_eq f2.rn, refuse_eq f2.rn, refuses_eq f2.rn, e10, b01_or, true_or, or_true, areR_no f2.rn (Or.inr b2) hR.2.1 hc.1, isR_ok f2.rn h0 hR.2.1 hc.1, inT_no b1, isR_no f2.rn b2 hR.2.1 hc.1, fj_X5_tagDot_39, fj_X5_tagDot_34]
  · skip
    rcases rng b 16 (by omega) with ⟨r1, h1, rfl⟩ | b1
    · skip
      rcases rng c R (by omega) with ⟨r2, h2, rfl⟩ | b2
      · skip
        refine Or.inr ⟨M, ?_, CSim.refl, fun M2 f2 => ⟨0, mA M (x + 62), ?_, fun q _ => rfl⟩⟩
        · simp only [f_X4_tagDot, cK, hx.k5, if_true, if_false, bx_l, bx_r, bn, Option.bind_some, Option.map_some, b01_or, hx.w134, hx.r100, hx.r101, hx.r102, hx.i96, hx.i97, hx.i98, hx.i99, sta_no hx b0, rep_no hx b0, tagc_ok h1, sta_ok hx h2, rep_ok hx h2]
        · simp only [f_X5_tagDot, cK, kM f2.rn, if_true, if_false, bn, Option.bind_some, Option.map_some, told_eq f2.rn, refuse_eq f2.rn, refuses_eq f2.rn, e10, b01_or, true_or, or_true, areR_no f2.rn (Or.inl b0) hR.2.1 hc.1, isR_no f2.rn b0 hR.2.1 hc.1, inT_ok h1, isR_ok f2.rn h2 hR.2.1 hc.1, fj_X5_tagDot_39, fj_X5_tagDot_34]
      · skip
        refine Or.inr ⟨M, ?_, CSim.refl, fun M2 f2 => ⟨0, mA M (x + 62), ?_, fun q _ => rfl⟩⟩
        · simp only [f_X4_tagDot, cK, hx.k5, if_true, if_false, bx_l, bx_r, bn, Option.bind_some, Option.map_some, b01_or, hx.w134, hx.r100, hx.r101, hx.r102, hx.i96, hx.i97, hx.i98, hx.i99, sta_no hx b0, rep_no hx b0, tagc_ok h1, sta_no hx b2, rep_no hx b2]
        · simp only [f_X5_tagDot, cK, kM f2.rn, if_true, if_false, bn, Option.bind_some, Option.map_some, told_eq f2.rn, refuse_eq f2.rn, refuses_eq f2.rn, e10, b01_or, true_or, or_true, areR_no f2.rn (Or.inl b0) hR.2.1 hc.1, isR_no f2.rn b0 hR.2.1 hc.1, inT_ok h1, isR_no f2.rn b2 hR.2.1 hc.1, fj_X5_tagDot_39, fj_X5_tagDot_34]
    · skip
      rcases rng c R (by omega) with ⟨r2, h2, rfl⟩ | b2
      · skip
        refine Or.inr ⟨M, ?_, CSim.refl, fun M2 f2 => ⟨0, mA M (x + 62), ?_, fun q _ => rfl⟩⟩
        · simp only [f_X4_tagDot, cK, hx.k5, if_true, if_false, bx_l, bx_r, bn, Option.bind_some, Option.map_some, b01_or, hx.w134, hx.r100, hx.r101, hx.r102, hx.i96, hx.i97, hx.i98, hx.i99, sta_no hx b0, rep_no hx b0, tagc_no b1, sta_ok hx h2, rep_ok hx h2]
        · simp only [f_X5_tagDot, cK, kM f2.rn, if_true, if_false, bn, Option.bind_some, Option.map_some, told_eq f2.rn, refuse_eq f2.rn, refuses_eq f2.rn, e10, b01_or, true_or, or_true, areR_no f2.rn (Or.inl b0) hR.2.1 hc.1, isR_no f2.rn b0 hR.2.1 hc.1, inT_no b1, isR_ok f2.rn h2 hR.2.1 hc.1, fj_X5_tagDot_39, fj_X5_tagDot_34]
      · skip
        refine Or.inr ⟨M, ?_, CSim.refl, fun M2 f2 => ⟨0, mA M (x + 62), ?_, fun q _ => rfl⟩⟩
        · simp only [f_X4_tagDot, cK, hx.k5, if_true, if_false, bx_l, bx_r, bn, Option.bind_some, Option.map_some, b01_or, hx.w134, hx.r100, hx.r101, hx.r102, hx.i96, hx.i97, hx.i98, hx.i99, sta_no hx b0, rep_no hx b0, tagc_no b1, sta_no hx b2, rep_no hx b2]
        · simp only [f_X5_tagDot, cK, kM f2.rn, if_true, if_false, bn, Option.bind_some, Option.map_some, told_eq f2.rn, refuse_eq f2.rn, refuses_eq f2.rn, e10, b01_or, true_or, or_true, areR_no f2.rn (Or.inl b0) hR.2.1 hc.1, isR_no f2.rn b0 hR.2.1 hc.1, inT_no b1, isR_no f2.rn b2 hR.2.1 hc.1, fj_X5_tagDot_39, fj_X5_tagDot_34]

theorem case_18 (hI : Inv n x M) {a : Int32} : fk_law_18 x (x + 60) (x + 68) a M (Inv (n + 1) x) := by
  obtain ⟨w, p, R, C, Q, m, hx⟩ := hI.cx
  have hR := hx.Rle
  have hc := hx.2.2.2.1
  refine lw_int (H := hnd1 0) (F := f_X4_tagCount x a M) (G := f_X5_tagCount (x + 60) a) (E := 0) (kx := 1) hI (by decide) (fun M => rfl) ?_
  rcases rng a R (by omega) with ⟨r0, h0, rfl⟩ | b0
  · skip
    obtain ⟨c0, d0, e0⟩ := hx.cl (show r0 < 4 + m by omega)
    have ev := tags_eq d0 e0
    refine Or.inl ⟨nI (cnt (tagE (row (mA M (x + 62)) r0)) 16), M, ?_, CSim.refl, fun M2 f2 => ⟨mA M (x + 62), ?_, fun q _ => rfl⟩⟩
    · simp (disch := omega) only [f_X4_tagCount, cK, hx.k5, if_true, if_false, bx_l, bx_r, bn, Option.bind_some, Option.map_some, b01_or, hx.w134, hx.r100, hx.r101, hx.r102, hx.i96, hx.i97, hx.i98, hx.i99, sta_ok hx h0, rep_ok hx h0, hx.s3, X2_presentTags c0, ev]
    · skip
      have hb0 := bs_le (show r0 < 12 by omega)
      simp (disch := omega) only [f_X5_tagCount, cK, kM f2.rn, if_true, if_false, bn, Option.bind_some, Option.map_some, told_eq f2.rn, refuse_eq f2.rn, refuses_eq f2.rn, e10, b01_or, true_or, or_true, isR_ok f2.rn h0 hR.2.1 hc.1, fj_X5_tagCount_25, X5_tagsIn f2.rn]
  · skip
    refine Or.inr ⟨M, ?_, CSim.refl, fun M2 f2 => ⟨0, mA M (x + 62), ?_, fun q _ => rfl⟩⟩
    · simp only [f_X4_tagCount, cK, hx.k5, if_true, if_false, bx_l, bx_r, bn, Option.bind_some, Option.map_some, b01_or, hx.w134, hx.r100, hx.r101, hx.r102, hx.i96, hx.i97, hx.i98, hx.i99, sta_no hx b0, rep_no hx b0]
    · simp only [f_X5_tagCount, cK, kM f2.rn, if_true, if_false, bn, Option.bind_some, Option.map_some, told_eq f2.rn, refuse_eq f2.rn, refuses_eq f2.rn, e10, b01_or, true_or, or_true, isR_no f2.rn b0 hR.2.1 hc.1, fj_X5_tagCount_25]

theorem case_20 (hI : Inv n x M) {a b : Int32} : fk_law_20 x (x + 60) (x + 68) a b M (Inv (n + 1) x) := by
  obtain ⟨w, p, R, C, Q, m, hx⟩ := hI.cx
  have hR := hx.Rle
  have hc := hx.2.2.2.1
  refine lw_int (H := hnd1 0) (F := f_X4_entryCount x a b M) (G := f_X5_entryCount (x + 60) a b) (E := 0) (kx := 1) hI (by decide) (fun M => rfl) ?_
  rcases rng a R (by omega) with ⟨r0, h0, rfl⟩ | b0
  · skip
    rcases rng b Q (by omega) with ⟨r1, h1, rfl⟩ | b1
    · skip
      obtain ⟨c0, d0, e0⟩ := hx.cl (show r0 < 4 + m by omega)
      have ev := dl (f := 100 + r1 * 4) (f' := 100 + 4 * r1) d0 e0 (by omega) (by omega)
      refine Or.inl ⟨nI (lve (row (mA M (x + 62)) r0) (100 + 4 * r1)), M, ?_, CSim.refl, fun M2 f2 => ⟨mA M (x + 62), ?_, fun q _ => rfl⟩⟩
      · simp (disch := omega) only [f_X4_entryCount, cK, hx.k5, if_true, if_false, bx_l, bx_r, bn, Option.bind_some, Option.map_some, b01_or, hx.w134, hx.r100, hx.r101, hx.r102, hx.i96, hx.i97, hx.i98, hx.i99, sta_ok hx h0, rep_ok hx h0, reg_ok hx h1, hx.s3, X2_entries c0, ev]
      · skip
        have hb0 := bs_le (show r0 < 12 by omega)
        simp (disch := omega) only [f_X5_entryCount, cK, kM f2.rn, if_true, if_false, bn, Option.bind_some, Option.map_some, told_eq f2.rn, refuse_eq f2.rn, refuses_eq f2.rn, e10, b01_or, true_or, or_true, isR_ok f2.rn h0 hR.2.1 hc.1, isQ_ok f2.rn h1 hR.2.2.2.1 hc.2.2.1, fj_X5_entryCount_34, fj_X5_entryCount_29, X5_entries f2.rn]
    · skip
      refine Or.inr ⟨M, ?_, CSim.refl, fun M2 f2 => ⟨0, mA M (x + 62), ?_, fun q _ => rfl⟩⟩
      · simp only [f_X4_entryCount, cK, hx.k5, if_true, if_false, bx_l, bx_r, bn, Option.bind_some, Option.map_some, b01_or, hx.w134, hx.r100, hx.r101, hx.r102, hx.i96, hx.i97, hx.i98, hx.i99, sta_ok hx h0, rep_ok hx h0, reg_no hx b1]
      · simp only [f_X5_entryCount, cK, kM f2.rn, if_true, if_false, bn, Option.bind_some, Option.map_some, told_eq f2.rn, refuse_eq f2.rn, refuses_eq f2.rn, e10, b01_or, true_or, or_true, isR_ok f2.rn h0 hR.2.1 hc.1, isQ_no f2.rn b1 hR.2.2.2.1 hc.2.2.1, fj_X5_entryCount_34, fj_X5_entryCount_29]
  · skip
    rcases rng b Q (by omega) with ⟨r1, h1, rfl⟩ | b1
    · skip
      refine Or.inr ⟨M, ?_, CSim.refl, fun M2 f2 => ⟨0, mA M (x + 62), ?_, fun q _ => rfl⟩⟩
      · simp only [f_X4_entryCount, cK, hx.k5, if_true, if_false, bx_l, bx_r, bn, Option.bind_some, Option.map_some, b01_or, hx.w134, hx.r100, hx.r101, hx.r102, hx.i96, hx.i97, hx.i98, hx.i99, sta_no hx b0, rep_no hx b0, reg_ok hx h1]
      · simp only [f_X5_entryCount, cK, kM f2.rn, if_true, if_false, bn, Option.bind_some, Option.map_some, told_eq f2.rn, refuse_eq f2.rn, refuses_eq f2.rn, e10, b01_or, true_or, or_true, isR_no f2.rn b0 hR.2.1 hc.1, isQ_ok f2.rn h1 hR.2.2.2.1 hc.2.2.1, fj_X5_entryCount_34, fj_X5_entryCount_29]
    · skip
      refine Or.inr ⟨M, ?_, CSim.refl, fun M2 f2 => ⟨0, mA M (x + 62), ?_, fun q _ => rfl⟩⟩
      · simp only [f_X4_entryCount, cK, hx.k5, if_true, if_false, bx_l, bx_r, bn, Option.bind_some, Option.map_some, b01_or, hx.w134, hx.r100, hx.r101, hx.r102, hx.i96, hx.i97, hx.i98, hx.i99, sta_no hx b0, rep_no hx b0, reg_no hx b1]
      · simp only [f_X5_entryCount, cK, kM f2.rn, if_true, if_false, bn, Option.bind_some, Option.map_some, told_eq f2.rn, refuse_eq f2.rn, refuses_eq f2.rn, e10, b01_or, true_or, or_true, isR_no f2.rn b0 hR.2.1 hc.1, isQ_no f2.rn b1 hR.2.2.2.1 hc.2.2.1, fj_X5_entryCount_34, fj_X5_entryCount_29]

theorem case_21 (hI : Inv n x M) {a b c : Int32} : fk_law_21 x (x + 60) (x + 68) a b c M (Inv (n + 1) x) := by
  obtain ⟨w, p, R, C, Q, m, hx⟩ := hI.cx
  have hR := hx.Rle
  have hc := hx.2.2.2.1
  refine lw_int (H := hnd1 0) (F := f_X4_entryValue x a b c M) (G := f_X5_entryValue (x + 60) a b c) (E := 0) (kx := 1) hI (by decide) (fun M => rfl) ?_
  rcases rng a R (by omega) with ⟨r0, h0, rfl⟩ | b0
  · skip
    rcases rng b Q (by omega) with ⟨r1, h1, rfl⟩ | b1
    · skip
      rcases rng c R (by omega) with ⟨r2, h2, rfl⟩ | b2
      · skip
        obtain ⟨c0, d0, e0⟩ := hx.cl (show r0 < 4 + m by omega)
        obtain ⟨c2, d2, e2⟩ := hx.cl (show r2 < 4 + m by omega)
        have ev := vl (q := r1) (b := r2) d0 e0 (by omega) (by omega)
        refine Or.inl ⟨valE (row (mA M (x + 62)) r0) r1 r2, M, ?_, CSim.refl, fun M2 f2 => ⟨mA M (x + 62), ?_, fun q _ => rfl⟩⟩
        · simp (disch := omega) only [f_X4_entryValue, cK, hx.k5, if_true, if_false, bx_l, bx_r, bn, Option.bind_some, Option.map_some, b01_or, hx.w134, hx.r100, hx.r101, hx.r102, hx.i96, hx.i97, hx.i98, hx.i99, sta_ok hx h0, rep_ok hx h0, reg_ok hx h1, sta_ok hx h2, rep_ok hx h2, hx.s3, X2_valueBy c0, ev]
        · skip
          have hb0 := bs_le (show r0 < 12 by omega)
          have hb2 := bs_le (show r2 < 12 by omega)
          simp (disch := omega) only [f_X5_entryValue, cK, kM f2.rn, if_true, if_false, bn, Option.bind_some, Option.map_some, told_eq f2.rn, refuse_eq f2.rn, refuses_eq f2.rn, e10, b01_or, true_or, or_true, areR_ok f2.rn h0 h2 hR.2.1 hc.1, isR_ok f2.rn h0 hR.2.1 hc.1, isQ_ok f2.rn h1 hR.2.2.2.1 hc.2.2.1, isR_ok f2.rn h2 hR.2.1 hc.1, fj_X5_entryValue_36, fj_X5_entryValue_31, X5_entryOf f2.rn]
      · skip
        refine Or.inr ⟨M, ?_, CSim.refl, fun M2 f2 => ⟨0, mA M (x + 62), ?_, fun q _ => rfl⟩⟩
        · simp only [f_X4_entryValue, cK, hx.k5, if_true, if_false, bx_l, bx_r, bn, Option.bind_some, Option.map_some, b01_or, hx.w134, hx.r100, hx.r101, hx.r102, hx.i96, hx.i97, hx.i98, hx.i99, sta_ok hx h0, rep_ok hx h0, reg_ok hx h1, sta_no hx b2, rep_no hx b2]
        · simp only [f_X5_entryValue, cK, kM f2.rn, if_true, if_false, bn, Option.bind_some, Option.map_some, told_eq f2.rn, refuse_eq f2.rn, refuses_eq f2.rn, e10, b01_or, true_or, or_true, areR_no f2.rn (Or.inr b2) hR.2.1 hc.1, isR_ok f2.rn h0 hR.2.1 hc.1, isQ_ok f2.rn h1 hR.2.2.2.1 hc.2.2.1, isR_no f2.rn b2 hR.2.1 hc.1, fj_X5_entryValue_36, fj_X5_entryValue_31]
    · skip
      rcases rng c R (by omega) with ⟨r2, h2, rfl⟩ | b2
      · skip
        refine Or.inr ⟨M, ?_, CSim.refl, fun M2 f2 => ⟨0, mA M (x + 62), ?_, fun q _ => rfl⟩⟩
        · simp only [f_X4_entryValue, cK, hx.k5, if_true, if_false, bx_l, bx_r, bn, Option.bind_some, Option.map_some, b01_or, hx.w134, hx.r100, hx.r101, hx.r102, hx.i96, hx.i97, hx.i98, hx.i99, sta_ok hx h0, rep_ok hx h0, reg_no hx b1, sta_ok hx h2, rep_ok hx h2]
        · simp only [f_X5_entryValue, cK, kM f2.rn, if_true, if_false, bn, Option.bind_some, Option.map_some, told_eq f2.rn, refuse_eq f2.rn, refuses_eq f2.rn, e10, b01_or, true_or, or_true, areR_ok f2.rn h0 h2 hR.2.1 hc.1, isR_ok f2.rn h0 hR.2.1 hc.1, isQ_no f2.rn b1 hR.2.2.2.1 hc.2.2.1, isR_ok f2.rn h2 hR.2.1 hc.1, fj_X5_entryValue_36, fj_X5_entryValue_31]
      · skip
        refine Or.inr ⟨M, ?_, CSim.refl, fun M2 f2 => ⟨0, mA M (x + 62), ?_, fun q _ => rfl⟩⟩
        · simp only [f_X4_entryValue, cK, hx.k5, if_true, if_false, bx_l, bx_r, bn, Option.bind_some, Option.map_some, b01_or, hx.w134, hx.r100, hx.r101, hx.r102, hx.i96, hx.i97, hx.i98, hx.i99, sta_ok hx h0, rep_ok hx h0, reg_no hx b1, sta_no hx b2, rep_no hx b2]
        · simp only [f_X5_entryValue, cK, kM f2.rn, if_true, if_false, bn, Option.bind_some, Option.map_some, told_eq f2.rn, refuse_eq f2.rn, refuses_eq f2.rn, e10, b01_or, true_or, or_true, areR_no f2.rn (Or.inr b2) hR.2.1 hc.1, isR_ok f2.rn h0 hR.2.1 hc.1, isQ_no f2.rn b1 hR.2.2.2.1 hc.2.2.1, isR_no f2.rn b2 hR.2.1 hc.1, fj_X5_entryValue_36, fj_X5_entryValue_31]
  · skip
    rcases rng b Q (by omega) with ⟨r1, h1, rfl⟩ | b1
    · skip
      rcases rng c R (by omega) with ⟨r2, h2, rfl⟩ | b2
      · skip
        refine Or.inr ⟨M, ?_, CSim.refl, fun M2 f2 => ⟨0, mA M (x + 62), ?_, fun q _ => rfl⟩⟩
        · simp only [f_X4_entryValue, cK, hx.k5, if_true, if_false, bx_l, bx_r, bn, Option.bind_some, Option.map_some, b01_or, hx.w134, hx.r100, hx.r101, hx.r102, hx.i96, hx.i97, hx.i98, hx.i99, sta_no hx b0, rep_no hx b0, reg_ok hx h1, sta_ok hx h2, rep_ok hx h2]
        · simp only [f_X5_entryValue, cK, kM f2.rn, if_true, if_false, bn, Option.bind_some, Option.map_some, told_eq f2.rn, refuse_eq f2.rn, refuses_eq f2.rn, e10, b01_or, true_or, or_true, areR_no f2.rn (Or.inl b0) hR.2.1 hc.1, isR_no f2.rn b0 hR.2.1 hc.1, isQ_ok f2.rn h1 hR.2.2.2.1 hc.2.2.1, isR_ok f2.rn h2 hR.2.1 hc.1, fj_X5_entryValue_36, fj_X5_entryValue_31]
      · skip
        refine Or.inr ⟨M, ?_, CSim.refl, fun M2 f2 => ⟨0, mA M (x + 62), ?_, fun q _ => rfl⟩⟩
        · simp only [f_X4_entryValue, cK, hx.k5, if_true, if_false, bx_l, bx_r, bn, Option.bind_some, Option.map_some, b01_or, hx.w134, hx.r100, hx.r101, hx.r102, hx.i96, hx.i97, hx.i98, hx.i99, sta_no hx b0, rep_no hx b0, reg_ok hx h1, sta_no hx b2, rep_no hx b2]
        · simp only [f_X5_entryValue, cK, kM f2.rn, if_true, if_false, bn, Option.bind_some, Option.map_some, told_eq f2.rn, refuse_eq f2.rn, refuses_eq f2.rn, e10, b01_or, true_or, or_true, areR_no f2.rn (Or.inl b0) hR.2.1 hc.1, isR_no f2.rn b0 hR.2.1 hc.1, isQ_ok f2.rn h1 hR.2.2.2.1 hc.2.2.1, isR_no f2.rn b2 hR.2.1 hc.1, fj_X5_entryValue_36, fj_X5_entryValue_31]
    · skip
      rcases rng c R (by omega) with ⟨r2, h2, rfl⟩ | b2
      · skip
        refine Or.inr ⟨M, ?_, CSim.refl, fun M2 f2 => ⟨0, mA M (x + 62), ?_, fun q _ => rfl⟩⟩
        · simp only [f_X4_entryValue, cK, hx.k5, if_true, if_false, bx_l, bx_r, bn, Option.bind_some, Option.map_some, b01_or, hx.w134, hx.r100, hx.r101, hx.r102, hx.i96, hx.i97, hx.i98, hx.i99, sta_no hx b0, rep_no hx b0, reg_no hx b1, sta_ok hx h2, rep_ok hx h2]
        · simp only [f_X5_entryValue, cK, kM f2.rn, if_true, if_false, bn, Option.bind_some, Option.map_some, told_eq f2.rn, refuse_eq f2.rn, refuses_eq f2.rn, e10, b01_or, true_or, or_true, areR_no f2.rn (Or.inl b0) hR.2.1 hc.1, isR_no f2.rn b0 hR.2.1 hc.1, isQ_no f2.rn b1 hR.2.2.2.1 hc.2.2.1, isR_ok f2.rn h2 hR.2.1 hc.1, fj_X5_entryValue_36, fj_X5_entryValue_31]
      · skip
        refine Or.inr ⟨M, ?_, CSim.refl, fun M2 f2 => ⟨0, mA M (x + 62), ?_, fun q _ => rfl⟩⟩
        · simp only [f_X4_entryValue, cK, hx.k5, if_true, if_false, bx_l, bx_r, bn, Option.bind_some, Option.map_some, b01_or, hx.w134, hx.r100, hx.r101, hx.r102, hx.i96, hx.i97, hx.i98, hx.i99, sta_no hx b0, rep_no hx b0, reg_no hx b1, sta_no hx b2, rep_no hx b2]
        · simp only [f_X5_entryValue, cK, kM f2.rn, if_true, if_false, bn, Option.bind_some, Option.map_some, told_eq f2.rn, refuse_eq f2.rn, refuses_eq f2.rn, e10, b01_or, true_or, or_true, areR_no f2.rn (Or.inl b0) hR.2.1 hc.1, isR_no f2.rn b0 hR.2.1 hc.1, isQ_no f2.rn b1 hR.2.2.2.1 hc.2.2.1, isR_no f2.rn b2 hR.2.1 hc.1, fj_X5_entryValue_36, fj_X5_entryValue_31]

theorem case_22 (hI : Inv n x M) {a b : Int32} : fk_law_22 x (x + 60) (x + 68) a b M (Inv (n + 1) x) := by
  obtain ⟨w, p, R, C, Q, m, hx⟩ := hI.cx
  have hR := hx.Rle
  have hc := hx.2.2.2.1
  refine lw_int (H := hnd1 0) (F := f_X4_greatestValue x a b M) (G := f_X5_greatestValue (x + 60) a b) (E := 0) (kx := 1) hI (by decide) (fun M => rfl) ?_
  rcases rng a R (by omega) with ⟨r0, h0, rfl⟩ | b0
  · skip
    rcases rng b Q (by omega) with ⟨r1, h1, rfl⟩ | b1
    · skip
      obtain ⟨c0, d0, e0⟩ := hx.cl (show r0 < 4 + m by omega)
      have eg := c_great (M := M) c0 d0 e0 (q := r1) (by omega)
      refine Or.inl ⟨gmax (row (mA M (x + 62)) r0) r1 4, M, ?_, CSim.refl, fun M2 f2 => ⟨mA M (x + 62), ?_, fun q _ => rfl⟩⟩
      · simp (disch := omega) only [f_X4_greatestValue, cK, hx.k5, if_true, if_false, bx_l, bx_r, bn, Option.bind_some, Option.map_some, b01_or, hx.w134, hx.r100, hx.r101, hx.r102, hx.i96, hx.i97, hx.i98, hx.i99, sta_ok hx h0, rep_ok hx h0, reg_ok hx h1, hx.s3, eg]
      · skip
        have hb0 := bs_le (show r0 < 12 by omega)
        simp (disch := omega) only [f_X5_greatestValue, cK, kM f2.rn, if_true, if_false, bn, Option.bind_some, Option.map_some, told_eq f2.rn, refuse_eq f2.rn, refuses_eq f2.rn, e10, b01_or, true_or, or_true, isR_ok f2.rn h0 hR.2.1 hc.1, isQ_ok f2.rn h1 hR.2.2.2.1 hc.2.2.1, fj_X5_greatestValue_16, r_great f2.rn]
    · skip
      refine Or.inr ⟨M, ?_, CSim.refl, fun M2 f2 => ⟨0, mA M (x + 62), ?_, fun q _ => rfl⟩⟩
      · simp only [f_X4_greatestValue, cK, hx.k5, if_true, if_false, bx_l, bx_r, bn, Option.bind_some, Option.map_some, b01_or, hx.w134, hx.r100, hx.r101, hx.r102, hx.i96, hx.i97, hx.i98, hx.i99, sta_ok hx h0, rep_ok hx h0, reg_no hx b1]
      · simp only [f_X5_greatestValue, cK, kM f2.rn, if_true, if_false, bn, Option.bind_some, Option.map_some, told_eq f2.rn, refuse_eq f2.rn, refuses_eq f2.rn, e10, b01_or, true_or, or_true, isR_ok f2.rn h0 hR.2.1 hc.1, isQ_no f2.rn b1 hR.2.2.2.1 hc.2.2.1, fj_X5_greatestValue_16]
  · skip
    rcases rng b Q (by omega) with ⟨r1, h1, rfl⟩ | b1
    · skip
      refine Or.inr ⟨M, ?_, CSim.refl, fun M2 f2 => ⟨0, mA M (x + 62), ?_, fun q _ => rfl⟩⟩
      · simp only [f_X4_greatestValue, cK, hx.k5, if_true, if_false, bx_l, bx_r, bn, Option.bind_some, Option.map_some, b01_or, hx.w134, hx.r100, hx.r101, hx.r102, hx.i96, hx.i97, hx.i98, hx.i99, sta_no hx b0, rep_no hx b0, reg_ok hx h1]
      · simp only [f_X5_greatestValue, cK, kM f2.rn, if_true, if_false, bn, Option.bind_some, Option.map_some, told_eq f2.rn, refuse_eq f2.rn, refuses_eq f2.rn, e10, b01_or, true_or, or_true, isR_no f2.rn b0 hR.2.1 hc.1, isQ_ok f2.rn h1 hR.2.2.2.1 hc.2.2.1, fj_X5_greatestValue_16]
    · skip
      refine Or.inr ⟨M, ?_, CSim.refl, fun M2 f2 => ⟨0, mA M (x + 62), ?_, fun q _ => rfl⟩⟩
      · simp only [f_X4_greatestValue, cK, hx.k5, if_true, if_false, bx_l, bx_r, bn, Option.bind_some, Option.map_some, b01_or, hx.w134, hx.r100, hx.r101, hx.r102, hx.i96, hx.i97, hx.i98, hx.i99, sta_no hx b0, rep_no hx b0, reg_no hx b1]
      · simp only [f_X5_greatestValue, cK, kM f2.rn, if_true, if_false, bn, Option.bind_some, Option.map_some, told_eq f2.rn, refuse_eq f2.rn, refuses_eq f2.rn, e10, b01_or, true_or, or_true, isR_no f2.rn b0 hR.2.1 hc.1, isQ_no f2.rn b1 hR.2.2.2.1 hc.2.2.1, fj_X5_greatestValue_16]

theorem case_23 (hI : Inv n x M) {a : Int32} : fk_law_23 x (x + 60) (x + 68) a M (Inv (n + 1) x) := by
  obtain ⟨w, p, R, C, Q, m, hx⟩ := hI.cx
  have hR := hx.Rle
  have hc := hx.2.2.2.1
  refine lw_int (H := hnd1 0) (F := f_X4_conflicts x a M) (G := f_X5_conflicts (x + 60) a) (E := 0) (kx := 1) hI (by decide) (fun M => rfl) ?_
  rcases rng a R (by omega) with ⟨r0, h0, rfl⟩ | b0
  · skip
    obtain ⟨c0, d0, e0⟩ := hx.cl (show r0 < 4 + m by omega)
    have ev := confs_eq d0 e0
    refine Or.inl ⟨nI (cnt (confE (row (mA M (x + 62)) r0)) 4), M, ?_, CSim.refl, fun M2 f2 => ⟨mA M (x + 62), ?_, fun q _ => rfl⟩⟩
    · simp (disch := omega) only [f_X4_conflicts, cK, hx.k5, if_true, if_false, bx_l, bx_r, bn, Option.bind_some, Option.map_some, b01_or, hx.w134, hx.r100, hx.r101, hx.r102, hx.i96, hx.i97, hx.i98, hx.i99, sta_ok hx h0, rep_ok hx h0, hx.s3, X2_registersInConflict c0, ev]
    · skip
      have hb0 := bs_le (show r0 < 12 by omega)
      simp (disch := omega) only [f_X5_conflicts, cK, kM f2.rn, if_true, if_false, bn, Option.bind_some, Option.map_some, told_eq f2.rn, refuse_eq f2.rn, refuses_eq f2.rn, e10, b01_or, true_or, or_true, isR_ok f2.rn h0 hR.2.1 hc.1, fj_X5_conflicts_25, X5_conflictsIn f2.rn]
  · skip
    refine Or.inr ⟨M, ?_, CSim.refl, fun M2 f2 => ⟨0, mA M (x + 62), ?_, fun q _ => rfl⟩⟩
    · simp only [f_X4_conflicts, cK, hx.k5, if_true, if_false, bx_l, bx_r, bn, Option.bind_some, Option.map_some, b01_or, hx.w134, hx.r100, hx.r101, hx.r102, hx.i96, hx.i97, hx.i98, hx.i99, sta_no hx b0, rep_no hx b0]
    · simp only [f_X5_conflicts, cK, kM f2.rn, if_true, if_false, bn, Option.bind_some, Option.map_some, told_eq f2.rn, refuse_eq f2.rn, refuses_eq f2.rn, e10, b01_or, true_or, or_true, isR_no f2.rn b0 hR.2.1 hc.1, fj_X5_conflicts_25]

theorem case_24 (hI : Inv n x M) {a b : Int32} : fk_law_24 x (x + 60) (x + 68) a b M (Inv (n + 1) x) := by
  obtain ⟨w, p, R, C, Q, m, hx⟩ := hI.cx
  have hR := hx.Rle
  have hc := hx.2.2.2.1
  refine lw_int (H := hnd1 0) (F := f_X4_unseenDots x a b M) (G := f_X5_unseenDots (x + 60) a b) (E := 0) (kx := 1) hI (by decide) (fun M => rfl) ?_
  rcases rng a R (by omega) with ⟨r0, h0, rfl⟩ | b0
  · skip
    rcases rng b R (by omega) with ⟨r1, h1, rfl⟩ | b1
    · skip
      obtain ⟨c0, d0, e0⟩ := hx.cl (show r0 < 4 + m by omega)
      obtain ⟨c1, d1, e1⟩ := hx.cl (show r1 < 4 + m by omega)
      have eg := c_uns (M := M) c0 c1 d0 d1
      refine Or.inl ⟨uns (row (mA M (x + 62)) r0) (row (mA M (x + 62)) r1) 4, M, ?_, CSim.refl, fun M2 f2 => ⟨mA M (x + 62), ?_, fun q _ => rfl⟩⟩
      · simp (disch := omega) only [f_X4_unseenDots, cK, hx.k5, if_true, if_false, bx_l, bx_r, bn, Option.bind_some, Option.map_some, b01_or, hx.w134, hx.r100, hx.r101, hx.r102, hx.i96, hx.i97, hx.i98, hx.i99, sta_ok hx h0, rep_ok hx h0, sta_ok hx h1, rep_ok hx h1, hx.s3, eg]
      · skip
        have hb0 := bs_le (show r0 < 12 by omega)
        have hb1 := bs_le (show r1 < 12 by omega)
        simp (disch := omega) only [f_X5_unseenDots, cK, kM f2.rn, if_true, if_false, bn, Option.bind_some, Option.map_some, told_eq f2.rn, refuse_eq f2.rn, refuses_eq f2.rn, e10, b01_or, true_or, or_true, areR_ok f2.rn h0 h1 hR.2.1 hc.1, isR_ok f2.rn h0 hR.2.1 hc.1, isR_ok f2.rn h1 hR.2.1 hc.1, r_uns f2.rn]
    · skip
      refine Or.inr ⟨M, ?_, CSim.refl, fun M2 f2 => ⟨0, mA M (x + 62), ?_, fun q _ => rfl⟩⟩
      · simp only [f_X4_unseenDots, cK, hx.k5, if_true, if_false, bx_l, bx_r, bn, Option.bind_some, Option.map_some, b01_or, hx.w134, hx.r100, hx.r101, hx.r102, hx.i96, hx.i97, hx.i98, hx.i99, sta_ok hx h0, rep_ok hx h0, sta_no hx b1, rep_no hx b1]
      · simp only [f_X5_unseenDots, cK, kM f2.rn, if_true, if_false, bn, Option.bind_some, Option.map_some, told_eq f2.rn, refuse_eq f2.rn, refuses_eq f2.rn, e10, b01_or, true_or, or_true, areR_no f2.rn (Or.inr b1) hR.2.1 hc.1, isR_ok f2.rn h0 hR.2.1 hc.1, isR_no f2.rn b1 hR.2.1 hc.1]
  · skip
    rcases rng b R (by omega) with ⟨r1, h1, rfl⟩ | b1
    · skip
      refine Or.inr ⟨M, ?_, CSim.refl, fun M2 f2 => ⟨0, mA M (x + 62), ?_, fun q _ => rfl⟩⟩
      · simp only [f_X4_unseenDots, cK, hx.k5, if_true, if_false, bx_l, bx_r, bn, Option.bind_some, Option.map_some, b01_or, hx.w134, hx.r100, hx.r101, hx.r102, hx.i96, hx.i97, hx.i98, hx.i99, sta_no hx b0, rep_no hx b0, sta_ok hx h1, rep_ok hx h1]
      · simp only [f_X5_unseenDots, cK, kM f2.rn, if_true, if_false, bn, Option.bind_some, Option.map_some, told_eq f2.rn, refuse_eq f2.rn, refuses_eq f2.rn, e10, b01_or, true_or, or_true, areR_no f2.rn (Or.inl b0) hR.2.1 hc.1, isR_no f2.rn b0 hR.2.1 hc.1, isR_ok f2.rn h1 hR.2.1 hc.1]
    · skip
      refine Or.inr ⟨M, ?_, CSim.refl, fun M2 f2 => ⟨0, mA M (x + 62), ?_, fun q _ => rfl⟩⟩
      · simp only [f_X4_unseenDots, cK, hx.k5, if_true, if_false, bx_l, bx_r, bn, Option.bind_some, Option.map_some, b01_or, hx.w134, hx.r100, hx.r101, hx.r102, hx.i96, hx.i97, hx.i98, hx.i99, sta_no hx b0, rep_no hx b0, sta_no hx b1, rep_no hx b1]
      · simp only [f_X5_unseenDots, cK, kM f2.rn, if_true, if_false, bn, Option.bind_some, Option.map_some, told_eq f2.rn, refuse_eq f2.rn, refuses_eq f2.rn, e10, b01_or, true_or, or_true, areR_no f2.rn (Or.inl b0) hR.2.1 hc.1, isR_no f2.rn b0 hR.2.1 hc.1, isR_no f2.rn b1 hR.2.1 hc.1]

theorem case_35 (hI : Inv n x M) {a : Int32} : fk_law_35 x (x + 60) (x + 68) a M (Inv (n + 1) x) := by
  obtain ⟨w, p, R, C, Q, m, hx⟩ := hI.cx
  have hR := hx.Rle
  have hc := hx.2.2.2.1
  refine lw_int (H := hnd1 0) (F := f_X4_senderOf x a M) (G := f_X5_senderOf (x + 60) a) (E := 0) (kx := 1) hI (by decide) (fun M => rfl) ?_
  rcases rng a m (by omega) with ⟨r0, h0, rfl⟩ | b0
  · skip
    obtain ⟨c0, d0, e0⟩ := hx.cl (show 4 + r0 < 4 + m by omega)
    have e4 : (4 : Int32) + nI r0 = nI (4 + r0) := nI_add 4 r0
    have hs := hx.2.2.1.2.2.2 r0 (by omega) (by rw [hc.m]; exact h0)
    refine Or.inl ⟨mA M (x + 62) (4 + r0), M, ?_, CSim.refl, fun M2 f2 => ⟨mA M (x + 62), ?_, fun q _ => rfl⟩⟩
    · simp (disch := omega) only [f_X4_senderOf, cK, hx.k5, if_true, if_false, bx_l, bx_r, bn, Option.bind_some, Option.map_some, b01_or, hx.w134, hx.r100, hx.r101, hx.r102, hx.i96, hx.i97, hx.i98, hx.i99, mes_ok hx h0, hx.s3, WA3 hx.2.2.1.1, hs]
    · skip
      simp (disch := omega) only [f_X5_senderOf, cK, kM f2.rn, if_true, if_false, bn, Option.bind_some, Option.map_some, told_eq f2.rn, refuse_eq f2.rn, refuses_eq f2.rn, e10, b01_or, true_or, or_true, isM_ok f2.rn h0 hR.2.2.2.2 hc.2.2.2.1, fj_X5_senderOf_28, gW f2.rn, e4, gNow f2.rn]
  · skip
    refine Or.inr ⟨M, ?_, CSim.refl, fun M2 f2 => ⟨0, mA M (x + 62), ?_, fun q _ => rfl⟩⟩
    · simp only [f_X4_senderOf, cK, hx.k5, if_true, if_false, bx_l, bx_r, bn, Option.bind_some, Option.map_some, b01_or, hx.w134, hx.r100, hx.r101, hx.r102, hx.i96, hx.i97, hx.i98, hx.i99, mes_no hx b0]
    · simp only [f_X5_senderOf, cK, kM f2.rn, if_true, if_false, bn, Option.bind_some, Option.map_some, told_eq f2.rn, refuse_eq f2.rn, refuses_eq f2.rn, e10, b01_or, true_or, or_true, isM_no f2.rn b0 hR.2.2.2.2 hc.2.2.2.1, fj_X5_senderOf_28]

end C1
