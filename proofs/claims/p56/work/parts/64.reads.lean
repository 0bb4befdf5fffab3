/-! THE CLASS'S READS, each as a number of the world -/
section QR
variable {x w : Nat} {p : Nat → Nat} {M : Mem} {g : Nat → Int32} {R C Q m k r s t : Nat}
theorem q_R (hx : Cx x w p M g R C Q m k) : f_X4_replicaCount x M = some (nI R, M) := by simp only [f_X4_replicaCount, cK, hx.k5, if_true, if_false, bx_l, bx_r, bn, Option.bind_some, Option.map_some, b01_or, hx.w134, hx.r100, hx.r101, hx.r102, hx.i96, hx.i97, hx.i98, hx.i99]
theorem q_C (hx : Cx x w p M g R C Q m k) : f_X4_counterCount x M = some (nI C, M) := by simp only [f_X4_counterCount, cK, hx.k5, if_true, if_false, bx_l, bx_r, bn, Option.bind_some, Option.map_some, b01_or, hx.w134, hx.r100, hx.r101, hx.r102, hx.i96, hx.i97, hx.i98, hx.i99]
theorem q_Q (hx : Cx x w p M g R C Q m k) : f_X4_registerCount x M = some (nI Q, M) := by simp only [f_X4_registerCount, cK, hx.k5, if_true, if_false, bx_l, bx_r, bn, Option.bind_some, Option.map_some, b01_or, hx.w134, hx.r100, hx.r101, hx.r102, hx.i96, hx.i97, hx.i98, hx.i99]
theorem q_m (hx : Cx x w p M g R C Q m k) : f_X4_messageCount x M = some (nI m, M) := by simp only [f_X4_messageCount, cK, hx.k5, if_true, if_false, bx_l, bx_r, bn, Option.bind_some, Option.map_some, b01_or, hx.w134, hx.r100, hx.r101, hx.r102, hx.i96, hx.i97, hx.i98, hx.i99]
theorem q_ver (hx : Cx x w p M g R C Q m k) (hr : r < R) (hs : s < R) : f_X4_versionEntry x (nI r) (nI s) M = some (.inl (row g r s), M) := by
  have hR := hx.Rle
  obtain ⟨c0, d0, e0⟩ := hx.cl (show r < 4 + m by omega)
  simp (disch := omega) only [f_X4_versionEntry, cK, hx.k5, if_true, if_false, bx_l, bx_r, bn, Option.bind_some, Option.map_some, b01_or, hx.w134, hx.r100, hx.r101, hx.r102, hx.i96, hx.i97, hx.i98, hx.i99, sta_ok hx hr, rep_ok hx hs, hx.s3, X2_version c0, d0]
theorem q_eq (hx : Cx x w p M g R C Q m k) (hr : r < R) (hs : s < R) : f_X4_areEqual x (nI r) (nI s) M = some (.inl (b01 (eqS (row g r) (row g s))), M) := by
  have hR := hx.Rle
  obtain ⟨c0, d0, e0⟩ := hx.cl (show r < 4 + m by omega)
  obtain ⟨c1, d1, e1⟩ := hx.cl (show s < 4 + m by omega)
  have ev : b01 (eqS (mA M (clo w p r)) (mA M (clo w p s))) = b01 (eqS (row g r) (row g s)) := b01_c (eqS_congr d0 d1)
  simp (disch := omega) only [f_X4_areEqual, cK, hx.k5, if_true, if_false, bx_l, bx_r, bn, Option.bind_some, Option.map_some, b01_or, hx.w134, hx.r100, hx.r101, hx.r102, hx.i96, hx.i97, hx.i98, hx.i99, sta_ok hx hr, sta_ok hx hs, hx.s3, X2_same c0 c1, ev]
theorem q_cov (hx : Cx x w p M g R C Q m k) (hr : r < R) (hs : s < R) : ∃ M', f_X4_covers x (nI r) (nI s) M = some (.inl (b01 (cov (row g r) (row g s))), M') ∧ CSim x M M' := by
  have hR := hx.Rle
  obtain ⟨T, ek⟩ := c_know hx (show r < 4 + m by omega) (show s < 4 + m by omega)
  refine ⟨_, ?_, CSim.one (f := T)⟩
  simp (disch := omega) only [f_X4_covers, cK, hx.k5, if_true, if_false, bx_l, bx_r, bn, Option.bind_some, Option.map_some, b01_or, hx.w134, hx.r100, hx.r101, hx.r102, hx.i96, hx.i97, hx.i98, hx.i99, sta_ok hx hr, sta_ok hx hs, hx.s3, ek]
theorem q_con (hx : Cx x w p M g R C Q m k) (hr : r < R) (hs : s < R) : ∃ M', f_X4_areConcurrent x (nI r) (nI s) M = some (.inl (b01 (¬ cov (row g r) (row g s) ∧ ¬ cov (row g s) (row g r))), M') ∧ CSim x M M' := by
  have hR := hx.Rle
  obtain ⟨T, ek⟩ := c_know hx (show r < 4 + m by omega) (show s < 4 + m by omega)
  have hx1 := hx.tr (CSim.one (x := x) (M := M) (f := T))
  obtain ⟨T2, ek2⟩ := c_know hx1 (show s < 4 + m by omega) (show r < 4 + m by omega)
  rw [wA_again] at ek2
  by_cases c : cov (row g r) (row g s)
  · rw [b01_t c] at ek
    refine ⟨_, ?_, CSim.one (f := T)⟩
    rw [b01_f (fun h => h.1 c)]
    simp only [f_X4_areConcurrent, fj_X4_areConcurrent_37, fj_X4_areConcurrent_38, cK, hx.k5, if_true, if_false, bx_l, bx_r, bn, Option.bind_some, Option.map_some, b01_or, hx.w134, hx.r100, hx.r101, hx.r102, hx.i96, hx.i97, hx.i98, hx.i99, sta_ok hx hr, sta_ok hx hs, ek, e10, true_or]
  · rw [b01_f c] at ek
    refine ⟨_, ?_, CSim.one (f := T2)⟩
    by_cases c2 : cov (row g s) (row g r)
    · rw [b01_t c2] at ek2
      rw [b01_f (fun h => h.2 c2)]
      simp only [f_X4_areConcurrent, fj_X4_areConcurrent_37, fj_X4_areConcurrent_38, cK, hx.k5, if_true, if_false, bx_l, bx_r, bn, Option.bind_some, Option.map_some, b01_or, hx.w134, hx.r100, hx.r101, hx.r102, hx.i96, hx.i97, hx.i98, hx.i99, sta_ok hx hr, sta_ok hx hs, ek, e10, hx1.k5, ek2, true_or]
    · rw [b01_f c2] at ek2
      rw [b01_t ⟨c, c2⟩]
      simp only [f_X4_areConcurrent, fj_X4_areConcurrent_37, fj_X4_areConcurrent_38, cK, hx.k5, if_true, if_false, bx_l, bx_r, bn, Option.bind_some, Option.map_some, b01_or, hx.w134, hx.r100, hx.r101, hx.r102, hx.i96, hx.i97, hx.i98, hx.i99, sta_ok hx hr, sta_ok hx hs, ek, e10, hx1.k5, ek2, or_true]
theorem q_val (hx : Cx x w p M g R C Q m k) (hr : r < R) (hs : s < C) : f_X4_counterValue x (nI r) (nI s) M = some (.inl (tot (row g r) s 4), M) := by
  have hR := hx.Rle
  obtain ⟨c0, d0, e0⟩ := hx.cl (show r < 4 + m by omega)
  have ev := tot_congr (c := s) d0 (by omega) 4 (by omega)
  simp (disch := omega) only [f_X4_counterValue, cK, hx.k5, if_true, if_false, bx_l, bx_r, bn, Option.bind_some, Option.map_some, b01_or, hx.w134, hx.r100, hx.r101, hx.r102, hx.i96, hx.i97, hx.i98, hx.i99, sta_ok hx hr, cou_ok hx hs, hx.s3, X2_total c0, ev]
theorem q_inc (hx : Cx x w p M g R C Q m k) (hr : r < R) (hs : s < C) (ht : t < R) : f_X4_increments x (nI r) (nI s) (nI t) M = some (.inl (row g r (4 + (4 * s + t))), M) := by
  have hR := hx.Rle
  obtain ⟨c0, d0, e0⟩ := hx.cl (show r < 4 + m by omega)
  have es : f_X2_sum (sto w p r) 4 (nI s) (nI t) M = some (row g r (4 + (4 * s + t)), M) := by rw [show (4 : Int32) = nI 4 from rfl, X2_sum c0 (by omega) (by omega) (by omega), d0 _ (by omega), show 4 + s * 4 + t = 4 + (4 * s + t) by omega]
  simp (disch := omega) only [f_X4_increments, cK, hx.k5, if_true, if_false, bx_l, bx_r, bn, Option.bind_some, Option.map_some, b01_or, hx.w134, hx.r100, hx.r101, hx.r102, hx.i96, hx.i97, hx.i98, hx.i99, sta_ok hx hr, cou_ok hx hs, rep_ok hx ht, f_X4_sumOf, hx.s3, es]
theorem q_dec (hx : Cx x w p M g R C Q m k) (hr : r < R) (hs : s < C) (ht : t < R) : f_X4_decrements x (nI r) (nI s) (nI t) M = some (.inl (row g r (20 + (4 * s + t))), M) := by
  have hR := hx.Rle
  obtain ⟨c0, d0, e0⟩ := hx.cl (show r < 4 + m by omega)
  have es : f_X2_sum (sto w p r) 20 (nI s) (nI t) M = some (row g r (20 + (4 * s + t)), M) := by rw [show (20 : Int32) = nI 20 from rfl, X2_sum c0 (by omega) (by omega) (by omega), d0 _ (by omega), show 20 + s * 4 + t = 20 + (4 * s + t) by omega]
  simp (disch := omega) only [f_X4_decrements, cK, hx.k5, if_true, if_false, bx_l, bx_r, bn, Option.bind_some, Option.map_some, b01_or, hx.w134, hx.r100, hx.r101, hx.r102, hx.i96, hx.i97, hx.i98, hx.i99, sta_ok hx hr, cou_ok hx hs, rep_ok hx ht, f_X4_sumOf, hx.s3, es]
theorem q_live (hx : Cx x w p M g R C Q m k) (hr : r < R) (hs : s < 16) : f_X4_liveDots x (nI r) (nI s) M = some (.inl (nI (lve (row g r) (36 + 4 * s))), M) := by
  have hR := hx.Rle
  obtain ⟨c0, d0, e0⟩ := hx.cl (show r < 4 + m by omega)
  have ev := dl (f := 36 + s * 4) (f' := 36 + 4 * s) d0 e0 (by omega) (by omega)
  simp (disch := omega) only [f_X4_liveDots, cK, hx.k5, if_true, if_false, bx_l, bx_r, bn, Option.bind_some, Option.map_some, b01_or, hx.w134, hx.r100, hx.r101, hx.r102, hx.i96, hx.i97, hx.i98, hx.i99, sta_ok hx hr, tagc_ok hs, hx.s3, X2_dotsOfTag c0, ev]
theorem q_has (hx : Cx x w p M g R C Q m k) (hr : r < R) (hs : s < 16) : f_X4_hasTag x (nI r) (nI s) M = some (.inl (b01 (tagE (row g r) s)), M) := by
  have hR := hx.Rle
  have hl := lve_lt (row g r) (36 + 4 * s)
  by_cases c : tagE (row g r) s
  · have c' : (nI (lve (row g r) (36 + 4 * s)) ≤ 0) = False := eq_false (nI_ge (a := 0) c (by omega))
    rw [b01_t c]
    simp only [f_X4_hasTag, fj_X4_hasTag_14, cK, hx.k5, if_true, if_false, bx_l, bx_r, bn, Option.bind_some, Option.map_some, b01_or, hx.w134, hx.r100, hx.r101, hx.r102, hx.i96, hx.i97, hx.i98, hx.i99, q_live hx hr hs, c', or_true]
  · have c' : (nI (lve (row g r) (36 + 4 * s)) ≤ 0) = True := eq_true (nI_le (b := 0) (by omega) (by omega))
    rw [b01_f c]
    simp only [f_X4_hasTag, fj_X4_hasTag_14, cK, hx.k5, if_true, if_false, bx_l, bx_r, bn, Option.bind_some, Option.map_some, b01_or, hx.w134, hx.r100, hx.r101, hx.r102, hx.i96, hx.i97, hx.i98, hx.i99, q_live hx hr hs, c', true_or]
theorem q_tdot (hx : Cx x w p M g R C Q m k) (hr : r < R) (hs : s < 16) (ht : t < R) : f_X4_tagDot x (nI r) (nI s) (nI t) M = some (.inl (row g r (36 + (4 * s + t))), M) := by
  have hR := hx.Rle
  obtain ⟨c0, d0, e0⟩ := hx.cl (show r < 4 + m by omega)
  have ev : mA M (clo w p r) (36 + s * 4 + t) = row g r (36 + (4 * s + t)) := by rw [d0 _ (by omega), show 36 + s * 4 + t = 36 + (4 * s + t) by omega]
  simp (disch := omega) only [f_X4_tagDot, cK, hx.k5, if_true, if_false, bx_l, bx_r, bn, Option.bind_some, Option.map_some, b01_or, hx.w134, hx.r100, hx.r101, hx.r102, hx.i96, hx.i97, hx.i98, hx.i99, sta_ok hx hr, tagc_ok hs, rep_ok hx ht, hx.s3, X2_dotOfTag c0, ev]
theorem q_tags (hx : Cx x w p M g R C Q m k) (hr : r < R) : f_X4_tagCount x (nI r) M = some (.inl (nI (cnt (tagE (row g r)) 16)), M) := by
  have hR := hx.Rle
  obtain ⟨c0, d0, e0⟩ := hx.cl (show r < 4 + m by omega)
  have ev := tags_eq d0 e0
  simp (disch := omega) only [f_X4_tagCount, cK, hx.k5, if_true, if_false, bx_l, bx_r, bn, Option.bind_some, Option.map_some, b01_or, hx.w134, hx.r100, hx.r101, hx.r102, hx.i96, hx.i97, hx.i98, hx.i99, sta_ok hx hr, hx.s3, X2_presentTags c0, ev]
theorem q_tagAt (hx : Cx x w p M g R C Q m k) (hr : r < R) {b : Int32} : f_X4_tagAt x (nI r) b M = some ((rkd (row g r) b).elim (.inr 0) (fun i => .inl (nI i)), M) := by
  have hR := hx.Rle
  obtain ⟨c0, d0, e0⟩ := hx.cl (show r < 4 + m by omega)
  haveI : DecidablePred (rankP (mA M (clo w p r)) b) := fun _ => Classical.propDecidable _
  have ep := X2_presentTag (r := b) c0
  have er : firstF (rankP (mA M (clo w p r)) b) 0 16 = rkd (row g r) b := by
    unfold rkd
    haveI : DecidablePred (rankE (row g r) b) := fun _ => Classical.propDecidable _
    refine (firstF_congr (q := rankE (row g r) b) 16 0 (fun j _ hj => ?_)).trans (by congr)
    unfold rankP rankE
    rw [tagPE d0 e0 j (by omega), cnt_congr (p := tagP (mA M (clo w p r))) (q := tagE (row g r)) (fun i hi => tagPE d0 e0 i (by omega))]
  rw [er] at ep
  cases e : rkd (row g r) b with
  | none =>
    rw [e] at ep
    simp only [f_X4_tagAt, cK, hx.k5, if_true, if_false, bx_l, bx_r, bn, Option.bind_some, Option.map_some, b01_or, hx.w134, hx.r100, hx.r101, hx.r102, hx.i96, hx.i97, hx.i98, hx.i99, sta_ok hx hr, hx.s3 (show r < 4 + m by omega), ep, Option.elim_none]
  | some i =>
    rw [e] at ep
    have hi := @firstF_lt (rankE (row g r) b) (fun _ => Classical.propDecidable _) 16 0 i e
    have hne : ¬ (nI i = -1) := by
      rw [i32_eq, nI_toI (by omega)]; have : (-1 : Int32).toInt = -1 := rfl
      omega
    simp only [f_X4_tagAt, cK, hx.k5, if_true, if_false, bx_l, bx_r, bn, Option.bind_some, Option.map_some, b01_or, hx.w134, hx.r100, hx.r101, hx.r102, hx.i96, hx.i97, hx.i98, hx.i99, sta_ok hx hr, hx.s3 (show r < 4 + m by omega), ep, Option.elim_some, hne]
theorem q_ents (hx : Cx x w p M g R C Q m k) (hr : r < R) (hs : s < Q) : f_X4_entryCount x (nI r) (nI s) M = some (.inl (nI (lve (row g r) (100 + 4 * s))), M) := by
  have hR := hx.Rle
  obtain ⟨c0, d0, e0⟩ := hx.cl (show r < 4 + m by omega)
  have ev := dl (f := 100 + s * 4) (f' := 100 + 4 * s) d0 e0 (by omega) (by omega)
  simp (disch := omega) only [f_X4_entryCount, cK, hx.k5, if_true, if_false, bx_l, bx_r, bn, Option.bind_some, Option.map_some, b01_or, hx.w134, hx.r100, hx.r101, hx.r102, hx.i96, hx.i97, hx.i98, hx.i99, sta_ok hx hr, reg_ok hx hs, hx.s3, X2_entries c0, ev]
theorem q_ent (hx : Cx x w p M g R C Q m k) (hr : r < R) (hs : s < Q) (ht : t < R) : f_X4_entryValue x (nI r) (nI s) (nI t) M = some (.inl (valE (row g r) s t), M) := by
  have hR := hx.Rle
  obtain ⟨c0, d0, e0⟩ := hx.cl (show r < 4 + m by omega)
  have ev := vl (q := s) (b := t) d0 e0 (by omega) (by omega)
  simp (disch := omega) only [f_X4_entryValue, cK, hx.k5, if_true, if_false, bx_l, bx_r, bn, Option.bind_some, Option.map_some, b01_or, hx.w134, hx.r100, hx.r101, hx.r102, hx.i96, hx.i97, hx.i98, hx.i99, sta_ok hx hr, reg_ok hx hs, rep_ok hx ht, hx.s3, X2_valueBy c0, ev]
theorem q_great (hx : Cx x w p M g R C Q m k) (hr : r < R) (hs : s < Q) : f_X4_greatestValue x (nI r) (nI s) M = some (.inl (gmax (row g r) s 4), M) := by
  have hR := hx.Rle
  obtain ⟨c0, d0, e0⟩ := hx.cl (show r < 4 + m by omega)
  have eg := c_great (M := M) c0 d0 e0 (q := s) (by omega)
  simp (disch := omega) only [f_X4_greatestValue, cK, hx.k5, if_true, if_false, bx_l, bx_r, bn, Option.bind_some, Option.map_some, b01_or, hx.w134, hx.r100, hx.r101, hx.r102, hx.i96, hx.i97, hx.i98, hx.i99, sta_ok hx hr, reg_ok hx hs, hx.s3, eg]
theorem q_conf (hx : Cx x w p M g R C Q m k) (hr : r < R) : f_X4_conflicts x (nI r) M = some (.inl (nI (cnt (confE (row g r)) 4)), M) := by
  have hR := hx.Rle
  obtain ⟨c0, d0, e0⟩ := hx.cl (show r < 4 + m by omega)
  have ev := confs_eq d0 e0
  simp (disch := omega) only [f_X4_conflicts, cK, hx.k5, if_true, if_false, bx_l, bx_r, bn, Option.bind_some, Option.map_some, b01_or, hx.w134, hx.r100, hx.r101, hx.r102, hx.i96, hx.i97, hx.i98, hx.i99, sta_ok hx hr, hx.s3, X2_registersInConflict c0, ev]
theorem q_uns (hx : Cx x w p M g R C Q m k) (hr : r < R) (hs : s < R) : f_X4_unseenDots x (nI r) (nI s) M = some (.inl (uns (row g r) (row g s) 4), M) := by
  have hR := hx.Rle
  obtain ⟨c0, d0, e0⟩ := hx.cl (show r < 4 + m by omega)
  obtain ⟨c1, d1, e1⟩ := hx.cl (show s < 4 + m by omega)
  have eg := c_uns (M := M) c0 c1 d0 d1
  simp (disch := omega) only [f_X4_unseenDots, cK, hx.k5, if_true, if_false, bx_l, bx_r, bn, Option.bind_some, Option.map_some, b01_or, hx.w134, hx.r100, hx.r101, hx.r102, hx.i96, hx.i97, hx.i98, hx.i99, sta_ok hx hr, sta_ok hx hs, hx.s3, eg]
theorem q_sender (hx : Cx x w p M g R C Q m k) (hr : r < m) : f_X4_senderOf x (nI r) M = some (.inl (g (4 + r)), M) := by
  have hR := hx.Rle
  have hs := hx.2.2.1.2.2.2 r (by omega) (by rw [hx.2.2.2.1.m]; exact hr)
  simp (disch := omega) only [f_X4_senderOf, cK, hx.k5, if_true, if_false, bx_l, bx_r, bn, Option.bind_some, Option.map_some, b01_or, hx.w134, hx.r100, hx.r101, hx.r102, hx.i96, hx.i97, hx.i98, hx.i99, mes_ok hx hr, hx.s3, WA3 hx.2.2.1.1, hs]
/-- what a delta holds -/
noncomputable def dlv (a b : Nat → Int32) : Nat := @cnt (newsP a b) (fun _ => Classical.propDecidable _) 116
theorem q_delta (hx : Cx x w p M g R C Q m k) (hr : r < R) (hs : s < R) : f_X4_deltaSize x (nI r) (nI s) M = some (.inl (nI (dlv (row g r) (row g s))), M) := by
  have hR := hx.Rle
  obtain ⟨c0, d0, e0⟩ := hx.cl (show r < 4 + m by omega)
  obtain ⟨c1, d1, e1⟩ := hx.cl (show s < 4 + m by omega)
  haveI : DecidablePred (newsP (mA M (clo w p r)) (mA M (clo w p s))) := fun _ => Classical.propDecidable _
  have ew := X2_newsFor c0 c1
  have ec : cnt (newsP (mA M (clo w p r)) (mA M (clo w p s))) 116 = dlv (row g r) (row g s) := by
    unfold dlv
    haveI : DecidablePred (newsP (row g r) (row g s)) := fun _ => Classical.propDecidable _
    refine (cnt_congr (q := newsP (row g r) (row g s)) (fun i hi => ?_)).trans (by congr)
    unfold newsP; rw [d0 i (by omega), d1 i (by omega), d1 (i % 4) (by omega)]
  rw [ec] at ew
  simp only [f_X4_deltaSize, cK, hx.k5, if_true, if_false, bx_l, bx_r, bn, Option.bind_some, Option.map_some, b01_or, hx.w134, hx.r100, hx.r101, hx.r102, hx.i96, hx.i97, hx.i98, hx.i99, sta_ok hx hr, sta_ok hx hs, hx.s3 (show r < 4 + m by omega), ew]
theorem q_gain (hx : Cx x w p M g R C Q m k) (hr : r < R) (hs : s < R) : ∃ M', f_X4_tagsGained x (nI r) (nI s) M = some (.inl (nI (cnt (missE (absR (row g r) (row g s)) (row g r)) 16)), M') ∧ CSim x M M' := by
  have hR := hx.Rle
  obtain ⟨c0, d0, e0⟩ := hx.cl (show r < 4 + m by omega)
  obtain ⟨c1, d1, e1⟩ := hx.cl (show s < 4 + m by omega)
  obtain ⟨T, ek, et⟩ := c_mot hx (show r < 4 + m by omega) (show s < 4 + m by omega)
  have hx1 := hx.tr (CSim.one (x := x) (M := M) (f := T))
  have ew := X2_tagsMissingIn hx1.trial (hx1.cl (show r < 4 + m by omega)).1
  rw [wA_self, mA_ne (hx.cne (show r < 4 + m by omega)).1, miss_eq et (e0.absR e1) d0 e0] at ew
  have k3 : (mK (wA M (x + 31) T) (x + 30) = 3) = True := eq_true hx1.trial.1
  refine ⟨_, ?_, CSim.one (f := T)⟩
  simp only [f_X4_tagsGained, cK, hx.k5, if_true, if_false, bx_l, bx_r, bn, Option.bind_some, Option.map_some, b01_or, hx.w134, hx.r100, hx.r101, hx.r102, hx.i96, hx.i97, hx.i98, hx.i99, sta_ok hx hr, sta_ok hx hs, ek, k3, ew]
theorem q_lost (hx : Cx x w p M g R C Q m k) (hr : r < R) (hs : s < R) : ∃ M', f_X4_tagsLost x (nI r) (nI s) M = some (.inl (nI (cnt (missE (row g r) (absR (row g r) (row g s))) 16)), M') ∧ CSim x M M' := by
  have hR := hx.Rle
  obtain ⟨c0, d0, e0⟩ := hx.cl (show r < 4 + m by omega)
  obtain ⟨c1, d1, e1⟩ := hx.cl (show s < 4 + m by omega)
  obtain ⟨T, ek, et⟩ := c_mot hx (show r < 4 + m by omega) (show s < 4 + m by omega)
  have hx1 := hx.tr (CSim.one (x := x) (M := M) (f := T))
  have ew := X2_tagsMissingIn (hx1.cl (show r < 4 + m by omega)).1 hx1.trial
  rw [wA_self, mA_ne (hx.cne (show r < 4 + m by omega)).1, miss_eq d0 e0 et (e0.absR e1)] at ew
  have k3 := hx1.s3 (show r < 4 + m by omega)
  refine ⟨_, ?_, CSim.one (f := T)⟩
  simp only [f_X4_tagsLost, cK, hx.k5, if_true, if_false, bx_l, bx_r, bn, Option.bind_some, Option.map_some, b01_or, hx.w134, hx.r100, hx.r101, hx.r102, hx.i96, hx.i97, hx.i98, hx.i99, sta_ok hx hr, sta_ok hx hs, ek, k3, ew]
theorem q_mval (hx : Cx x w p M g R C Q m k) (hr : r < C) : ∃ M', f_X4_mergedValue x (nI r) M = some (.inl (tot (upR g (R - 1)) r 4), M') ∧ CSim x M M' := by
  have hR := hx.Rle
  obtain ⟨T, ek, et⟩ := c_all hx
  have hx1 := hx.tr (CSim.one (x := x) (M := M) (f := T))
  have ew := X2_total (j := r) hx1.trial (by omega)
  rw [wA_self, tot_congr (c := r) et (by omega) 4 (by omega)] at ew
  have k3 : (mK (wA M (x + 31) T) (x + 30) = 3) = True := eq_true hx1.trial.1
  refine ⟨_, ?_, CSim.one (f := T)⟩
  simp only [f_X4_mergedValue, cK, hx.k5, if_true, if_false, bx_l, bx_r, bn, Option.bind_some, Option.map_some, b01_or, hx.w134, hx.r100, hx.r101, hx.r102, hx.i96, hx.i97, hx.i98, hx.i99, cou_ok hx hr, ek, k3, ew]
theorem q_mtags (hx : Cx x w p M g R C Q m k) : ∃ M', f_X4_mergedTags x M = some (nI (cnt (tagE (upR g (R - 1))) 16), M') ∧ CSim x M M' := by
  have hR := hx.Rle
  obtain ⟨T, ek, et⟩ := c_all hx
  have hx1 := hx.tr (CSim.one (x := x) (M := M) (f := T))
  have ew := X2_presentTags hx1.trial
  rw [wA_self, tags_eq et (WFr.upR hx (R - 1) (by omega))] at ew
  have k3 : (mK (wA M (x + 31) T) (x + 30) = 3) = True := eq_true hx1.trial.1
  refine ⟨_, ?_, CSim.one (f := T)⟩
  simp only [f_X4_mergedTags, cK, hx.k5, if_true, if_false, bx_l, bx_r, bn, Option.bind_some, Option.map_some, b01_or, hx.w134, hx.r100, hx.r101, hx.r102, hx.i96, hx.i97, hx.i98, hx.i99, ek, k3, ew]
theorem q_mconf (hx : Cx x w p M g R C Q m k) : ∃ M', f_X4_mergedConflicts x M = some (nI (cnt (confE (upR g (R - 1))) 4), M') ∧ CSim x M M' := by
  have hR := hx.Rle
  obtain ⟨T, ek, et⟩ := c_all hx
  have hx1 := hx.tr (CSim.one (x := x) (M := M) (f := T))
  have ew := X2_registersInConflict hx1.trial
  rw [wA_self, confs_eq et (WFr.upR hx (R - 1) (by omega))] at ew
  have k3 : (mK (wA M (x + 31) T) (x + 30) = 3) = True := eq_true hx1.trial.1
  refine ⟨_, ?_, CSim.one (f := T)⟩
  simp only [f_X4_mergedConflicts, cK, hx.k5, if_true, if_false, bx_l, bx_r, bn, Option.bind_some, Option.map_some, b01_or, hx.w134, hx.r100, hx.r101, hx.r102, hx.i96, hx.i97, hx.i98, hx.i99, ek, k3, ew]
theorem q_conv (hx : Cx x w p M g R C Q m k) : ∃ M', f_X4_convergenceErrors x M = some (b01 (¬ eqS (upR g (R - 1)) (dnR g R (R - 1))), M') ∧ CSim x M M' := by
  have hR := hx.Rle
  obtain ⟨T, ek, et⟩ := c_all hx
  have q1 := CSim.one (x := x) (M := M) (f := T)
  have hx1 := hx.tr q1
  have e2 := X2_empty hx1.trial2
  have e33 : mA (wA M (x + 31) T) (x + 33) = mA M (x + 33) := mA_ne (by omega)
  obtain ⟨D, ed, edt⟩ := c_down hx1 (x + 30)
  have q2 : CSim x M (wA (wA M (x + 31) T) (x + 33) D) := ⟨T, D, rfl⟩
  have hx2 := hx.tr q2
  have es := X2_same hx2.trial hx2.trial2
  rw [wA_self, mA_ne (show x + 31 ≠ x + 33 by omega), wA_self, b01_c (eqS_congr et edt)] at es
  have k3 : (mK (wA (wA M (x + 31) T) (x + 33) D) (x + 30) = 3) = True := eq_true hx2.trial.1
  have k3' : (mK (wA M (x + 31) T) (x + 32) = 3) = True := eq_true hx1.trial2.1
  refine ⟨_, ?_, q2⟩
  simp only [f_X4_convergenceErrors, cK, hx.k5, if_true, if_false, bx_l, bx_r, bn, Option.bind_some, Option.map_some, b01_or, hx.w134, hx.r100, hx.r101, hx.r102, hx.i96, hx.i97, hx.i98, hx.i99, ek, hx1.r139, k3', e2, (hx1.tr (⟨T, fun i => if i < 132 then 0 else mA (wA M (x + 31) T) (x + 33) i, by rw [wA_again]⟩ : CSim x (wA M (x + 31) T) _)).w134, (hx1.tr (⟨T, fun i => if i < 132 then 0 else mA (wA M (x + 31) T) (x + 33) i, by rw [wA_again]⟩ : CSim x (wA M (x + 31) T) _)).i96]
  rw [ed]
  simp only [fj_X4_convergenceErrors_47, cK, k3, if_true, es, bn, b01_0]
  by_cases c : eqS (upR g (R - 1)) (dnR g R (R - 1))
  · rw [b01_t c, if_neg (by decide), b01_f (fun h => h c)]; rfl
  · rw [b01_f c, if_pos rfl, b01_t c]; rfl
theorem q_news (hx : Cx x w p M g R C Q m k) (hr : r < m) (hs : s < R) : ∃ M', f_X4_isNews x (nI r) (nI s) M = some (.inl (b01 (¬ cov (row g s) (row g (4 + r)))), M') ∧ CSim x M M' := by
  have hR := hx.Rle
  obtain ⟨T, ek⟩ := c_know hx (show s < 4 + m by omega) (show 4 + r < 4 + m by omega)
  refine ⟨_, ?_, CSim.one (f := T)⟩
  by_cases c : cov (row g s) (row g (4 + r))
  · rw [b01_t c] at ek
    rw [b01_f (fun h => h c)]
    simp only [f_X4_isNews, fj_X4_isNews_31, cK, hx.k5, if_true, if_false, bx_l, bx_r, bn, Option.bind_some, Option.map_some, b01_or, hx.w134, hx.r100, hx.r101, hx.r102, hx.i96, hx.i97, hx.i98, hx.i99, mes_ok hx hr, sta_ok hx hs, mesB hx hr, ek, e10, true_or]
  · rw [b01_f c] at ek
    rw [b01_t c]
    simp only [f_X4_isNews, fj_X4_isNews_31, cK, hx.k5, if_true, if_false, bx_l, bx_r, bn, Option.bind_some, Option.map_some, b01_or, hx.w134, hx.r100, hx.r101, hx.r102, hx.i96, hx.i97, hx.i98, hx.i99, mes_ok hx hr, sta_ok hx hs, mesB hx hr, ek, or_true]
theorem q_diff (hx : Cx x w p M g R C Q m k) : f_X4_differentStates x M = some (nI (dif g R), M) := by
  have hR := hx.Rle
  unfold f_X4_differentStates fj_X4_differentStates_4
  refine loopM_run (st := fun i => (nI (dif g i), nI i, M)) (N := R) rfl (fun i hi => ?_) ?_ (FUn (by omega))
  · have hl : ¬ (nI R ≤ nI i) := nI_ge hi (by omega)
    have ei : nI i + 1 = nI (i + 1) := nI_add i 1
    by_cases c : sees g i i
    · have e := c_first hx hi
      rw [b01_f (fun e => e c)] at e
      rw [dif_f c]
      simp only [fc_X4_differentStates_4, fj_X4_differentStates_26, cK, hx.k5, if_true, if_false, bx_l, bx_r, bn, Option.bind_some, Option.map_some, b01_or, hx.w134, hx.r100, hx.r101, hx.r102, hx.i96, hx.i97, hx.i98, hx.i99, hl, e, ei]
    · have e := c_first hx hi
      rw [b01_t c] at e
      have ed : nI (dif g i) + 1 = nI (dif g i + 1) := nI_add _ 1
      rw [dif_t c]
      simp only [fc_X4_differentStates_4, fj_X4_differentStates_26, cK, hx.k5, if_true, if_false, bx_l, bx_r, bn, Option.bind_some, Option.map_some, b01_or, hx.w134, hx.r100, hx.r101, hx.r102, hx.i96, hx.i97, hx.i98, hx.i99, hl, e, e10, ei, ed]
  · have hl : nI R ≤ nI R := Int32.le_refl _
    simp only [fc_X4_differentStates_4, fj_X4_differentStates_32, cK, hx.k5, if_true, if_false, bx_l, bx_r, bn, Option.bind_some, Option.map_some, b01_or, hx.w134, hx.r100, hx.r101, hx.r102, hx.i96, hx.i97, hx.i98, hx.i99, hl]
theorem tags64 (g : Nat → Int32) : ∀ i, sm (fun j => cnt (tagE (row g j)) 16) i ≤ 16 * i := by
  intro i
  induction i with
  | zero => exact Nat.le_refl 0
  | succ i ih => show sm (fun j => cnt (tagE (row g j)) 16) i + cnt _ 16 ≤ _; have := cnt_le (tagE (row g i)) 16; omega
theorem q_mean (hx : Cx x w p M g R C Q m k) : f_X4_meanTags x M = some (FP.ddiv (FP.i2d (nI (sm (fun j => cnt (tagE (row g j)) 16) R))) (FP.i2d (nI R)), M) := by
  have hR := hx.Rle
  have hS := tags64 g R
  obtain ⟨f1, f2'⟩ := fp32 ⟨sm (fun j => cnt (tagE (row g j)) 16) R, by omega⟩ ⟨R, by omega⟩ hR.1
  dsimp only at f1 f2'
  unfold f_X4_meanTags fj_X4_meanTags_4
  refine loopM_run (st := fun i => (nI (sm (fun j => cnt (tagE (row g j)) 16) i), nI i, M)) (N := R) rfl (fun i hi => ?_) ?_ (FUn (by omega))
  · have hl : ¬ (nI R ≤ nI i) := nI_ge hi (by omega)
    have ei : nI i + 1 = nI (i + 1) := nI_add i 1
    obtain ⟨c0, d0, e0⟩ := hx.cl (show i < 4 + m by omega)
    have et := X2_presentTags c0
    rw [tags_eq d0 e0] at et
    simp only [fc_X4_meanTags_4, cK, hx.k5, if_true, if_false, bx_l, bx_r, bn, Option.bind_some, Option.map_some, b01_or, hx.w134, hx.r100, hx.r101, hx.r102, hx.i96, hx.i97, hx.i98, hx.i99, hl, repB hx hi, hx.s3 (show i < 4 + m by omega), et, ei, nI_add]
    rfl
  · have hl : nI R ≤ nI R := Int32.le_refl _
    simp only [fc_X4_meanTags_4, fj_X4_meanTags_36, cK, hx.k5, if_true, if_false, bx_l, bx_r, bn, Option.bind_some, Option.map_some, b01_or, hx.w134, hx.r100, hx.r101, hx.r102, hx.i96, hx.i97, hx.i98, hx.i99, hl, f1]
theorem q_share (hx : Cx x w p M g R C Q m k) : ∃ M', f_X4_completeShare x M = some (FP.fdiv (FP.i2f (nI (shr g R R))) (FP.i2f (nI R)), M') ∧ CSim x M M' := by
  have hR := hx.Rle
  have hS : shr g R R ≤ 4 := Nat.le_trans (@cnt_le (fun k => allC g k R) (fun _ => Classical.propDecidable _) R) hR.2.1
  obtain ⟨f1, f2', f3'⟩ := fp33 ⟨shr g R R, by omega⟩ ⟨R, by omega⟩ hR.1
  dsimp only at f1 f2' f3'
  have e1 : ∃ y, f_X4_completeShare x M = some y ∧ (y.1 = FP.fdiv (FP.i2f (nI (shr g R R))) (FP.i2f (nI R)) ∧ CSim x M y.2) := by
    unfold f_X4_completeShare fj_X4_completeShare_4
    refine loopM_inv (N := R) (P := fun i s => s.1 = nI (shr g R i) ∧ s.2.1 = nI i ∧ CSim x M s.2.2) ⟨rfl, rfl, CSim.refl⟩ (fun i s hi hp => ?_) (fun s hp => ?_) (FUn (by omega))
    · obtain ⟨s1, s2, M1⟩ := s
      obtain ⟨a1, a2, a3⟩ := hp
      dsimp only at a1 a2 a3
      subst a1 a2
      have h1 := hx.tr a3
      obtain ⟨M', ek, ec⟩ := c_every h1 hi
      have hl : ¬ (nI R ≤ nI i) := nI_ge hi (by omega)
      have ei : nI i + 1 = nI (i + 1) := nI_add i 1
      have ea : nI (shr g R i) + 1 = nI (shr g R i + 1) := nI_add _ 1
      by_cases c : allC g i R
      · rw [b01_t c] at ek
        refine ⟨(nI (shr g R (i + 1)), nI (i + 1), M'), ?_, rfl, rfl, a3.trans ec⟩
        rw [shr_t c]
        simp only [fc_X4_completeShare_4, fj_X4_completeShare_34, h1.w134, h1.i96, h1.r100, repB h1 hi, Option.bind_some, hl, if_false, cK, h1.k5, if_true, ek, bn, e10, ei, ea]
      · rw [b01_f c] at ek
        refine ⟨(nI (shr g R (i + 1)), nI (i + 1), M'), ?_, rfl, rfl, a3.trans ec⟩
        rw [shr_f c]
        simp only [fc_X4_completeShare_4, fj_X4_completeShare_34, h1.w134, h1.i96, h1.r100, repB h1 hi, Option.bind_some, hl, if_false, cK, h1.k5, if_true, ek, bn, ei]
    · obtain ⟨s1, s2, M1⟩ := s
      obtain ⟨a1, a2, a3⟩ := hp
      dsimp only at a1 a2 a3
      subst a1 a2
      have h1 := hx.tr a3
      have hl : nI R ≤ nI R := Int32.le_refl _
      refine ⟨(FP.fdiv (FP.i2f (nI (shr g R R))) (FP.i2f (nI R)), M1), ?_, rfl, a3⟩
      simp only [fc_X4_completeShare_4, fj_X4_completeShare_40, h1.w134, h1.i96, Option.bind_some, hl, if_true, f1, Option.map_some]
  obtain ⟨⟨v1, M1⟩, e1, rfl, cs⟩ := e1
  exact ⟨M1, e1, cs⟩
end QR
