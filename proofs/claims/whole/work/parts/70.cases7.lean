/-! MORE CHANGES: removeTag, write, merge, deliver, send, drop -/
section C7
variable {n x : Nat} {M : Mem}
theorem zap_congr {a b : Nat → Int32} {f : Nat} (e : ∀ i, i < 132 → a i = b i) : ∀ i, i < 132 → zap a f 4 i = zap b f 4 i := fun i hi => by unfold zap; rw [e i hi]
theorem case_40 (hI : Inv n x M) (hz : wfz M) (hn : n < 100000) {a b : Int32} : fk_law_40 x (x + 60) (x + 68) a b M (Inv (n + 1) x) := by
  obtain ⟨w, p, h, bb, hD⟩ := hI.d
  obtain ⟨R, C, Q, m, hx⟩ := hD.cx
  have hR := hx.Rle
  have hc := hx.2.2.2.1
  refine lw_chg (H := hnd2 0 2) (F := f_X4_removeTag x a b M) (G := f_X5_removeTag (x + 60) a b) hD hz ?_
  rcases rng a R (by omega) with ⟨r, hr, rfl⟩ | ha
  · rcases rng b 16 (by omega) with ⟨s, hs, rfl⟩ | hb
    · obtain ⟨q0, d0, e0⟩ := hx.cl (show r < 4 + m by omega)
      have ed := X2_dotsOfTag q0 hs
      rw [dl (f := 36 + s * 4) (f' := 36 + 4 * s) d0 e0 (by omega) (by omega)] at ed
      have hl := lve_lt (row (mA M (x + 62)) r) (36 + 4 * s)
      by_cases c0 : lve (row (mA M (x + 62)) r) (36 + 4 * s) = 0
      · rw [c0] at ed
        refine Or.inr (exc_of 2 2 (by decide) (fun M => rfl) ?_ (fun M2 f2 => ?_))
        · simp only [f_X4_removeTag, cK, hx.k5, if_true, if_false, bx_l, bx_r, bn, Option.bind_some, Option.map_some, b01_or, hx.w134, hx.r100, hx.r101, hx.r102, hx.i96, hx.i97, hx.i98, hx.i99, sta_ok hx hr, tagc_ok hs, hx.s3 (show r < 4 + m by omega), ed]
          rfl
        · have el := X5_live (g := mA M (x + 62)) f2.rn (show r < 12 by omega) hs
          rw [c0] at el
          simp only [f_X5_removeTag, cK, kM f2.rn, if_true, if_false, bn, Option.bind_some, Option.map_some, told_eq f2.rn, refuse_eq f2.rn, refuses_eq f2.rn, e10, b01_or, true_or, or_true, isR_ok f2.rn hr hR.2.1 hc.1, inT_ok hs, el]
          rfl
      · have c0' : (nI (lve (row (mA M (x + 62)) r) (36 + 4 * s)) = 0) = False := nI_eqF (b := 0) c0 hl (by omega)
        obtain ⟨M1, e1, cz, f1⟩ := (hD.1.z hz).record
        have hx1 := cx_of cz hc hx.2.2.2.2.1
        obtain ⟨q1, d1, e1'⟩ := hx1.cl (show r < 4 + m by omega)
        have ea := X2_clearTag q1 hs
        have ec : ∀ i, i < 132 → zap (mA M1 (clo w p r)) (36 + s * 4) 4 i = zap (row (mA M (x + 62)) r) (36 + 4 * s) 4 i := by
          rw [show 36 + s * 4 = 36 + 4 * s by omega]; exact zap_congr d1
        refine Or.inl ⟨nI (lve (row (mA M (x + 62)) r) (36 + 4 * s)), _, w, p, put (mA M (x + 62)) r (zap (row (mA M (x + 62)) r) (36 + 4 * s) 4), ?_, (cz.row (show r < 10 by omega) ec).cls, fr_row hx (hisPT f1) (by omega), ?_, fun M2 f2 e64 e165 _ _ => ?_⟩
        · simp only [f_X4_removeTag, cK, hx.k5, if_true, if_false, bx_l, bx_r, bn, Option.bind_some, Option.map_some, b01_or, hx.w134, hx.r100, hx.r101, hx.r102, hx.i96, hx.i97, hx.i98, hx.i99, sta_ok hx hr, tagc_ok hs, hx.s3 (show r < 4 + m by omega), ed, c0', hx.r136, hx.k27, e1, hx1.s3 (show r < 4 + m by omega), ea]
        · exact hD.2.2.2.2.2.1.put ((e0.zap (by omega)).mono (by omega))
        · obtain ⟨o', er, ho'⟩ := r_rem (g := mA M (x + 62)) f2 e64 e165 hD.h10
          refine ⟨o', put (mA M (x + 62)) r (zap (row (mA M (x + 62)) r) (36 + 4 * s) 4), ?_, ho', fun q hq => rfl⟩
          have rn3 : Rn (wI (wA M2 (x + 64) o') 165 (x + 60) (nI (remH h))) (x + 60) (x + 62) := f2.rn
          simp only [f_X5_removeTag, cK, kM f2.rn, if_true, if_false, bn, Option.bind_some, Option.map_some, told_eq f2.rn, refuse_eq f2.rn, refuses_eq f2.rn, e10, b01_or, true_or, or_true, isR_ok f2.rn hr hR.2.1 hc.1, inT_ok hs, X5_live f2.rn (show r < 12 by omega) hs, c0', er, kM rn3, X5_removes rn3 (show r < 12 by omega) hs, told_eq rn3]
          rfl
    · refine Or.inr (exc_of 0 1 (by decide) (fun M => rfl) ?_ (fun M2 f2 => ?_))
      · simp only [f_X4_removeTag, cK, hx.k5, if_true, if_false, bx_l, bx_r, bn, Option.bind_some, Option.map_some, b01_or, hx.w134, hx.r100, hx.r101, hx.r102, hx.i96, hx.i97, hx.i98, hx.i99, sta_ok hx hr, tagc_no hb]
      · simp only [f_X5_removeTag, fj_X5_removeTag_15, cK, kM f2.rn, if_true, if_false, bn, Option.bind_some, Option.map_some, told_eq f2.rn, refuse_eq f2.rn, refuses_eq f2.rn, e10, b01_or, true_or, or_true, isR_ok f2.rn hr hR.2.1 hc.1, inT_no hb]
  · refine Or.inr (exc_of 0 1 (by decide) (fun M => rfl) ?_ (fun M2 f2 => ?_))
    · simp only [f_X4_removeTag, cK, hx.k5, if_true, if_false, bx_l, bx_r, bn, Option.bind_some, Option.map_some, b01_or, hx.w134, hx.r100, hx.r101, hx.r102, hx.i96, hx.i97, hx.i98, hx.i99, sta_no hx ha]
    · simp only [f_X5_removeTag, fj_X5_removeTag_15, cK, kM f2.rn, if_true, if_false, bn, Option.bind_some, Option.map_some, told_eq f2.rn, refuse_eq f2.rn, refuses_eq f2.rn, e10, b01_or, true_or, or_true, isR_no f2.rn ha hR.2.1 hc.1]
theorem case_41 (hI : Inv n x M) (hz : wfz M) (hn : n < 100000) {a b c : Int32} : fk_law_41 x (x + 60) (x + 68) a b c M (Inv (n + 1) x) := by
  obtain ⟨w, p, h, bb, hD⟩ := hI.d
  obtain ⟨R, C, Q, m, hx⟩ := hD.cx
  have hR := hx.Rle
  have hc := hx.2.2.2.1
  refine lw_chg (H := hnd2 0 1) (F := f_X4_write x a b c M) (G := f_X5_write (x + 60) a b c) hD hz ?_
  rcases rng a R (by omega) with ⟨r, hr, rfl⟩ | ha
  · rcases rng b Q (by omega) with ⟨s, hs, rfl⟩ | hb
    · by_cases c1 : c < 0
      · refine Or.inr (exc_of 1 2 (by decide) (fun M => rfl) ?_ (fun M2 f2 => ?_))
        · simp only [f_X4_write, fj_X4_write_22, cK, hx.k5, if_true, if_false, bx_l, bx_r, bn, Option.bind_some, Option.map_some, b01_or, hx.w134, hx.r100, hx.r101, hx.r102, hx.i96, hx.i97, hx.i98, hx.i99, sta_ok hx hr, reg_ok hx hs, c1]
        · have e : f_X5_in c 0 99 (wA M2 (x + 62) (mA M (x + 62))) = some (0, _) := in99_no (lo := 0) (Or.inl c1)
          simp only [f_X5_write, cK, kM f2.rn, if_true, if_false, bn, Option.bind_some, Option.map_some, told_eq f2.rn, refuse_eq f2.rn, refuses_eq f2.rn, e10, b01_or, true_or, or_true, isR_ok f2.rn hr hR.2.1 hc.1, isQ_ok f2.rn hs hR.2.2.2.1 hc.2.2.1, e]
      · by_cases c2 : c ≤ 99
        · obtain ⟨M1, e1, cz, f1⟩ := (hD.1.z hz).record
          have hx1 := cx_of cz hc hx.2.2.2.2.1
          obtain ⟨q1, d1, e1'⟩ := hx1.cl (show r < 4 + m by omega)
          have ee := X2_entries (t := s) q1 (by omega)
          rw [dl (f := 100 + s * 4) (f' := 100 + 4 * s) d1 e1' (by omega) (by omega)] at ee
          have ea := X2_putEntry (r := r) (t := s) (v := c) q1 (by omega) (by omega)
          have ec : ∀ i, i < 132 → newN (mA M1 (clo w p r)) (100 + s * 4) r c 4 i = newN (row (mA M (x + 62)) r) (100 + 4 * s) r c 4 i := by
            rw [show 100 + s * 4 = 100 + 4 * s by omega]; exact newN_congr d1 (by omega)
          refine Or.inl ⟨nI (lve (row (mA M (x + 62)) r) (100 + 4 * s)), _, w, p, put (mA M (x + 62)) r (newN (row (mA M (x + 62)) r) (100 + 4 * s) r c 4), ?_, (cz.row (show r < 10 by omega) ec).cls, fr_row hx (hisPT f1) (by omega), ?_, fun M2 f2 e64 e165 _ _ => ?_⟩
          · simp only [f_X4_write, cK, hx.k5, if_true, if_false, bx_l, bx_r, bn, Option.bind_some, Option.map_some, b01_or, hx.w134, hx.r100, hx.r101, hx.r102, hx.i96, hx.i97, hx.i98, hx.i99, sta_ok hx hr, reg_ok hx hs, c1, c2, hx.r136, hx.k27, e1, hx1.s3 (show r < 4 + m by omega), ee, ea]
          · have q99 : (99 : Int32).toInt = 99 := rfl
            rw [i32_lt, i32_0] at c1
            rw [i32_le] at c2
            exact hD.2.2.2.2.2.1.put (e1'.newN (by omega) (by omega) (by omega) (by omega) (by omega))
          · obtain ⟨o', er, ho'⟩ := r_rem (g := mA M (x + 62)) f2 e64 e165 hD.h10
            refine ⟨o', put (mA M (x + 62)) r (newN (row (mA M (x + 62)) r) (100 + 4 * s) r c 4), ?_, ho', fun q hq => rfl⟩
            have rn3 : Rn (wI (wA M2 (x + 64) o') 165 (x + 60) (nI (remH h))) (x + 60) (x + 62) := f2.rn
            have e : f_X5_in c 0 99 (wA M2 (x + 62) (mA M (x + 62))) = some (1, _) := in99_ok (lo := 0) c1 c2
            simp only [f_X5_write, cK, kM f2.rn, if_true, if_false, bn, Option.bind_some, Option.map_some, told_eq f2.rn, refuse_eq f2.rn, refuses_eq f2.rn, e10, b01_or, true_or, or_true, isR_ok f2.rn hr hR.2.1 hc.1, isQ_ok f2.rn hs hR.2.2.2.1 hc.2.2.1, e, er, kM rn3, X5_writesValue rn3 (show r < 4 by omega) (show s < 4 by omega), told_eq rn3]
            rfl
        · refine Or.inr (exc_of 1 2 (by decide) (fun M => rfl) ?_ (fun M2 f2 => ?_))
          · simp only [f_X4_write, fj_X4_write_22, cK, hx.k5, if_true, if_false, bx_l, bx_r, bn, Option.bind_some, Option.map_some, b01_or, hx.w134, hx.r100, hx.r101, hx.r102, hx.i96, hx.i97, hx.i98, hx.i99, sta_ok hx hr, reg_ok hx hs, c1, c2]
          · have e : f_X5_in c 0 99 (wA M2 (x + 62) (mA M (x + 62))) = some (0, _) := in99_no (lo := 0) (Or.inr c2)
            simp only [f_X5_write, cK, kM f2.rn, if_true, if_false, bn, Option.bind_some, Option.map_some, told_eq f2.rn, refuse_eq f2.rn, refuses_eq f2.rn, e10, b01_or, true_or, or_true, isR_ok f2.rn hr hR.2.1 hc.1, isQ_ok f2.rn hs hR.2.2.2.1 hc.2.2.1, e]
    · refine Or.inr (exc_of 0 1 (by decide) (fun M => rfl) ?_ (fun M2 f2 => ?_))
      · simp only [f_X4_write, cK, hx.k5, if_true, if_false, bx_l, bx_r, bn, Option.bind_some, Option.map_some, b01_or, hx.w134, hx.r100, hx.r101, hx.r102, hx.i96, hx.i97, hx.i98, hx.i99, sta_ok hx hr, reg_no hx hb]
      · simp only [f_X5_write, fj_X5_write_16, cK, kM f2.rn, if_true, if_false, bn, Option.bind_some, Option.map_some, told_eq f2.rn, refuse_eq f2.rn, refuses_eq f2.rn, e10, b01_or, true_or, or_true, isR_ok f2.rn hr hR.2.1 hc.1, isQ_no f2.rn hb hR.2.2.2.1 hc.2.2.1]
  · refine Or.inr (exc_of 0 1 (by decide) (fun M => rfl) ?_ (fun M2 f2 => ?_))
    · simp only [f_X4_write, cK, hx.k5, if_true, if_false, bx_l, bx_r, bn, Option.bind_some, Option.map_some, b01_or, hx.w134, hx.r100, hx.r101, hx.r102, hx.i96, hx.i97, hx.i98, hx.i99, sta_no hx ha]
    · simp only [f_X5_write, fj_X5_write_16, cK, kM f2.rn, if_true, if_false, bn, Option.bind_some, Option.map_some, told_eq f2.rn, refuse_eq f2.rn, refuses_eq f2.rn, e10, b01_or, true_or, or_true, isR_no f2.rn ha hR.2.1 hc.1]
theorem fr_tr {M1 : Mem} {f : Nat → Int32} (f1 : Fr (hisT x) M M1) : Fr (hisT x) M (wA M1 (x + 31) f) := f1.tr (Fr.wA (Or.inr (Or.inl rfl)))
/-- one state merged into another, recorded -/
theorem c_mar {w : Nat} {p : Nat → Nat} {h b R C Q m : Nat} (hD : InvD n x M w p h b) (hz : wfz M) (hx : Cx x w p M (mA M (x + 62)) R C Q m n) {t s : Nat} (ht : t < 4 + m) (hs : s < 4 + m) : ∃ M1, f_X4_mergeAndRecord x (sto w p t) (sto w p s) M = some (b01 (¬ cov (row (mA M (x + 62)) t) (row (mA M (x + 62)) s)), M1) ∧ Cls x w p M1 (put (mA M (x + 62)) t (absR (row (mA M (x + 62)) t) (row (mA M (x + 62)) s))) (remO (mA M (x + 64)) h (mA M (x + 62))) (remH h) (mA M (x + 65)) b ∧ Fr (hisT x) M M1 := by
  have hR := hx.Rle
  have hc := hx.2.2.2.1
  have t10 : t < 10 := by omega
  obtain ⟨M1, e1, cz, f1⟩ := (hD.1.z hz).record
  have hx1 := cx_of cz hc hx.2.2.2.2.1
  have ec1 := X2_copyFrom hx1.trial (hx1.cl ht).1
  have q1 := CSim.one (x := x) (M := M1) (f := fun i => if i < 132 then mA M1 (clo w p t) i else mA M1 (x + 31) i)
  have hx2 := hx1.tr q1
  have cz2 := cz.keep q1.sim.keep (Nat.le_refl _)
  have ec2 := X2_absorb (hx2.cl ht).1 (hx2.cl hs).1
  have ne1 := hx1.cne ht
  have ne2 := hx1.cne hs
  rw [mA_ne ne1.1, mA_ne ne2.1] at ec2
  have ef : ∀ i, i < 132 → absF (mA M1 (clo w p t)) (mA M1 (clo w p s)) i = absR (row (mA M (x + 62)) t) (row (mA M (x + 62)) s) i := fun i hi => absF_of (hx1.cl ht).2.1 (hx1.cl hs).2.1 (hx1.cl ht).2.2 (hx1.cl hs).2.2 hi
  have cz3 := cz2.row t10 ef
  have es := X2_same (St.wA (a := clo w p t) (g := absF (mA M1 (clo w p t)) (mA M1 (clo w p s))) (hx2.cl ht).1) (St.wA (a := clo w p t) (g := absF (mA M1 (clo w p t)) (mA M1 (clo w p s))) hx2.trial)
  rw [wA_self, mA_ne ne1.1.symm, wA_self, b01_c (eqS_congr (b' := row (mA M (x + 62)) t) ef (fun i hi => by rw [if_pos hi]; exact (hx1.cl ht).2.1 i hi))] at es
  refine ⟨_, ?_, cz3.cls, fr_row hx (fr_tr (hisPT f1)) t10⟩
  have k1 : (mK M1 (x + 30) = 3) = True := eq_true hx1.trial.1
  have k2 := hx2.s3 ht
  have k3 : (mK (wA (wA M1 (x + 31) fun i => if i < 132 then mA M1 (clo w p t) i else mA M1 (x + 31) i) (clo w p t) (absF (mA M1 (clo w p t)) (mA M1 (clo w p s)))) (sto w p t) = 3) = True := eq_true (hx2.cl ht).1.1
  have r3 : gRn 5 138 x (wA (wA M1 (x + 31) fun i => if i < 132 then mA M1 (clo w p t) i else mA M1 (x + 31) i) (clo w p t) (absF (mA M1 (clo w p t)) (mA M1 (clo w p s)))) = some (x + 30) := gRn_ok hx1.1.1.1 hx1.1.1.2.2.2.2.2.1
  simp only [f_X4_mergeAndRecord, cK, hx.k5, if_true, if_false, bx_l, bx_r, bn, Option.bind_some, Option.map_some, b01_or, hx.w134, hx.r100, hx.r101, hx.r102, hx.i96, hx.i97, hx.i98, hx.i99, hx.r136, hx.k27, e1, hx1.r138, k1, ec1, k2, ec2, r3, k3, es]
  by_cases c : cov (row (mA M (x + 62)) t) (row (mA M (x + 62)) s)
  · have c' : eqS (absR (row (mA M (x + 62)) t) (row (mA M (x + 62)) s)) (row (mA M (x + 62)) t) := c
    rw [b01_t c', b01_f (fun h => h c)]; rfl
  · have c' : ¬ eqS (absR (row (mA M (x + 62)) t) (row (mA M (x + 62)) s)) (row (mA M (x + 62)) t) := c
    rw [b01_f c', b01_t c]; rfl
theorem r_now {M3 : Mem} {g : Nat → Int32} (hR : Rn M3 (x + 60) (x + 62)) {t s : Nat} (ht : t < 10) (hs : s < 10) : ∃ g', f_X5_mergesNow (x + 60) (nI t) (nI s) (wA M3 (x + 62) g) = some (b01 (¬ cov (row g t) (row g s)), wA M3 (x + 62) g') ∧ ∀ q, q < 1330 → g' q = put g t (absR (row g t) (row g s)) q := by
  haveI := Classical.propDecidable (cov (row g t) (row g s))
  obtain ⟨g', e1, e2⟩ := X5_mergesNow (g := g) hR ht hs
  refine ⟨g', ?_, e2⟩
  rw [e1]
  by_cases c : cov (row g t) (row g s)
  · rw [if_pos c, b01_f (fun h => h c)]
  · rw [if_neg c, b01_t c]
theorem case_42 (hI : Inv n x M) (hz : wfz M) (hn : n < 100000) {a b : Int32} : fk_law_42 x (x + 60) (x + 68) a b M (Inv (n + 1) x) := by
  obtain ⟨w, p, h, bb, hD⟩ := hI.d
  obtain ⟨R, C, Q, m, hx⟩ := hD.cx
  have hR := hx.Rle
  have hc := hx.2.2.2.1
  refine lw_chgb (F := f_X4_merge x a b M) (G := f_X5_merge (x + 60) a b) hD hz ?_
  rcases rng a R (by omega) with ⟨r, hr, rfl⟩ | ha
  · rcases rng b R (by omega) with ⟨s, hs, rfl⟩ | hb
    · obtain ⟨M1, e1, cz, f1⟩ := c_mar hD hz hx (show r < 4 + m by omega) (show s < 4 + m by omega)
      refine Or.inl ⟨b01 (¬ cov (row (mA M (x + 62)) r) (row (mA M (x + 62)) s)), b01_or _, M1, w, p, put (mA M (x + 62)) r (absR (row (mA M (x + 62)) r) (row (mA M (x + 62)) s)), ?_, cz, f1, ?_, fun M2 f2 e64 e165 _ _ => ?_⟩
      · simp only [f_X4_merge, cK, hx.k5, if_true, if_false, bx_l, bx_r, bn, Option.bind_some, Option.map_some, b01_or, hx.w134, hx.r100, hx.r101, hx.r102, hx.i96, hx.i97, hx.i98, hx.i99, sta_ok hx hr, sta_ok hx hs, e1]
      · exact hD.2.2.2.2.2.1.put (((hx.cl (show r < 4 + m by omega)).2.2.absR (hx.cl (show s < 4 + m by omega)).2.2).mono (by omega))
      · obtain ⟨o', er, ho'⟩ := r_rem (g := mA M (x + 62)) f2 e64 e165 hD.h10
        have rn3 : Rn (wI (wA M2 (x + 64) o') 165 (x + 60) (nI (remH h))) (x + 60) (x + 62) := f2.rn
        obtain ⟨g'', em, hg⟩ := r_now (g := mA M (x + 62)) rn3 (show r < 10 by omega) (show s < 10 by omega)
        refine ⟨o', g'', ?_, ho', hg⟩
        simp only [f_X5_merge, cK, kM f2.rn, if_true, if_false, bn, Option.bind_some, Option.map_some, told_eq f2.rn, refuse_eq f2.rn, refuses_eq f2.rn, e10, b01_or, true_or, or_true, areR_ok f2.rn hr hs hR.2.1 hc.1, er, kM rn3, em, says_eq rn3 (b01_or _)]
        rfl
    · refine Or.inr (exc_of 0 1 (by decide) (fun M => rfl) ?_ (fun M2 f2 => ?_))
      · simp only [f_X4_merge, cK, hx.k5, if_true, if_false, bx_l, bx_r, bn, Option.bind_some, Option.map_some, b01_or, hx.w134, hx.r100, hx.r101, hx.r102, hx.i96, hx.i97, hx.i98, hx.i99, sta_ok hx hr, sta_no hx hb]
      · simp only [f_X5_merge, cK, kM f2.rn, if_true, if_false, bn, Option.bind_some, Option.map_some, told_eq f2.rn, refuse_eq f2.rn, refuses_eq f2.rn, e10, b01_or, true_or, or_true, areR_no f2.rn (Or.inr hb) hR.2.1 hc.1]
  · refine Or.inr (exc_of 0 1 (by decide) (fun M => rfl) ?_ (fun M2 f2 => ?_))
    · simp only [f_X4_merge, cK, hx.k5, if_true, if_false, bx_l, bx_r, bn, Option.bind_some, Option.map_some, b01_or, hx.w134, hx.r100, hx.r101, hx.r102, hx.i96, hx.i97, hx.i98, hx.i99, sta_no hx ha]
    · simp only [f_X5_merge, cK, kM f2.rn, if_true, if_false, bn, Option.bind_some, Option.map_some, told_eq f2.rn, refuse_eq f2.rn, refuses_eq f2.rn, e10, b01_or, true_or, or_true, areR_no f2.rn (Or.inl ha) hR.2.1 hc.1]
theorem case_45 (hI : Inv n x M) (hz : wfz M) (hn : n < 100000) {a b : Int32} : fk_law_45 x (x + 60) (x + 68) a b M (Inv (n + 1) x) := by
  obtain ⟨w, p, h, bb, hD⟩ := hI.d
  obtain ⟨R, C, Q, m, hx⟩ := hD.cx
  have hR := hx.Rle
  have hc := hx.2.2.2.1
  refine lw_chgb (F := f_X4_deliver x a b M) (G := f_X5_deliver (x + 60) a b) hD hz ?_
  rcases rng a m (by omega) with ⟨r, hr, rfl⟩ | ha
  · rcases rng b R (by omega) with ⟨s, hs, rfl⟩ | hb
    · have i4 : (4 : Int32) + nI r = nI (4 + r) := nI_add 4 r
      obtain ⟨M1, e1, cz, f1⟩ := c_mar hD hz hx (show s < 4 + m by omega) (show 4 + r < 4 + m by omega)
      refine Or.inl ⟨b01 (¬ cov (row (mA M (x + 62)) s) (row (mA M (x + 62)) (4 + r))), b01_or _, M1, w, p, put (mA M (x + 62)) s (absR (row (mA M (x + 62)) s) (row (mA M (x + 62)) (4 + r))), ?_, cz, f1, ?_, fun M2 f2 e64 e165 _ _ => ?_⟩
      · simp only [f_X4_deliver, cK, hx.k5, if_true, if_false, bx_l, bx_r, bn, Option.bind_some, Option.map_some, b01_or, hx.w134, hx.r100, hx.r101, hx.r102, hx.i96, hx.i97, hx.i98, hx.i99, mes_ok hx hr, sta_ok hx hs, mesB hx hr, e1]
      · exact hD.2.2.2.2.2.1.put (((hx.cl (show s < 4 + m by omega)).2.2.absR (hx.cl (show 4 + r < 4 + m by omega)).2.2).mono (by omega))
      · obtain ⟨o', er, ho'⟩ := r_rem (g := mA M (x + 62)) f2 e64 e165 hD.h10
        have rn3 : Rn (wI (wA M2 (x + 64) o') 165 (x + 60) (nI (remH h))) (x + 60) (x + 62) := f2.rn
        obtain ⟨g'', em, hg⟩ := r_now (g := mA M (x + 62)) rn3 (show s < 10 by omega) (show 4 + r < 10 by omega)
        refine ⟨o', g'', ?_, ho', hg⟩
        simp only [f_X5_deliver, cK, kM f2.rn, if_true, if_false, bn, Option.bind_some, Option.map_some, told_eq f2.rn, refuse_eq f2.rn, refuses_eq f2.rn, e10, b01_or, true_or, or_true, isM_ok f2.rn hr hR.2.2.2.2 hc.2.2.2.1, isR_ok f2.rn hs hR.2.1 hc.1, er, kM rn3, i4, em, says_eq rn3 (b01_or _)]
        rfl
    · refine Or.inr (exc_of 0 1 (by decide) (fun M => rfl) ?_ (fun M2 f2 => ?_))
      · simp only [f_X4_deliver, cK, hx.k5, if_true, if_false, bx_l, bx_r, bn, Option.bind_some, Option.map_some, b01_or, hx.w134, hx.r100, hx.r101, hx.r102, hx.i96, hx.i97, hx.i98, hx.i99, mes_ok hx hr, sta_no hx hb]
      · simp only [f_X5_deliver, fj_X5_deliver_16, cK, kM f2.rn, if_true, if_false, bn, Option.bind_some, Option.map_some, told_eq f2.rn, refuse_eq f2.rn, refuses_eq f2.rn, e10, b01_or, true_or, or_true, isM_ok f2.rn hr hR.2.2.2.2 hc.2.2.2.1, isR_no f2.rn hb hR.2.1 hc.1]
  · refine Or.inr (exc_of 0 1 (by decide) (fun M => rfl) ?_ (fun M2 f2 => ?_))
    · simp only [f_X4_deliver, cK, hx.k5, if_true, if_false, bx_l, bx_r, bn, Option.bind_some, Option.map_some, b01_or, hx.w134, hx.r100, hx.r101, hx.r102, hx.i96, hx.i97, hx.i98, hx.i99, mes_no hx ha]
    · simp only [f_X5_deliver, fj_X5_deliver_16, cK, kM f2.rn, if_true, if_false, bn, Option.bind_some, Option.map_some, told_eq f2.rn, refuse_eq f2.rn, refuses_eq f2.rn, e10, b01_or, true_or, or_true, isM_no f2.rn ha hR.2.2.2.2 hc.2.2.2.1]
end C7
