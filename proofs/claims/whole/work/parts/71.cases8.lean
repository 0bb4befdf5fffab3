/-! send, drop, mergeAll, restore -/
section C8
variable {n x : Nat} {M : Mem}
theorem mcn_send {g : Nat → Int32} {r : Nat} (h : mcn g < 100) : mcn (sendG g r) = mcn g + 1 := by
  show (sendG g r 3).toNatClampNeg = mcn g + 1
  unfold sendG; rw [u1_self]; exact nI_cl (by omega)
theorem Wf.send {g : Nat → Int32} (h : Wf n g) {r : Nat} (hr : r < 4) (hm : mcn g < 6) : Wf (n + 1) (sendG g r) := by
  obtain ⟨⟨R, C, Q, m, c⟩, h2⟩ := h
  have em := c.m
  have hlo : ∀ q, q < 3 → sendG g r q = g q := fun q hq => by unfold sendG; rw [u1_ne _ _ (by omega), put_lo (by omega), u1_ne _ _ (by omega)]
  refine ⟨⟨R, C, Q, m + 1, (hlo 0 (by omega)).trans c.1, (hlo 1 (by omega)).trans c.2.1, (hlo 2 (by omega)).trans c.2.2.1, by unfold sendG; rw [u1_self, em], c.2.2.2.2.1, c.2.2.2.2.2.1, c.2.2.2.2.2.2.1, c.2.2.2.2.2.2.2.1, by omega⟩, fun t ht hv => ?_⟩
  rw [mcn_send (by omega)] at hv
  by_cases q : t = 4 + mcn g
  · refine ((h2 r (by omega) (by omega)).mono (by omega)).congr (fun i hi => ?_)
    unfold sendG; rw [row_u1 (by omega), q, row_put hi]
  · refine ((h2 t ht (by omega)).mono (by omega)).congr (fun i hi => ?_)
    unfold sendG; rw [row_u1 (by omega), row_put_ne hi q, row_u1 (by omega)]
theorem case_44 (hI : Inv n x M) (hz : wfz M) (hn : n < 100000) {a : Int32} : fk_law_44 x (x + 60) (x + 68) a M (Inv (n + 1) x) := by
  obtain ⟨w, p, h, bb, hD⟩ := hI.d
  obtain ⟨R, C, Q, m, hx⟩ := hD.cx
  have hR := hx.Rle
  have hc := hx.2.2.2.1
  refine lw_chg (H := hnd2 0 2) (F := f_X4_send x a M) (G := f_X5_send (x + 60) a) hD hz ?_
  rcases rng a R (by omega) with ⟨r, hr, rfl⟩ | ha
  · by_cases h6 : m < 6
    · obtain ⟨M1, e1, cz, f1⟩ := (hD.1.z hz).record
      have hx1 := cx_of cz hc hx.2.2.2.2.1
      have hm6 : mcn (mA M (x + 62)) < 6 := by rw [hc.m]; exact h6
      have hg3 : mA M (x + 62) 3 = nI (mcn (mA M (x + 62))) := by rw [hc.m]; exact hc.2.2.2.1
      have zw : w + 24 ≤ mZ M1 := by obtain ⟨rt, c, _, z⟩ := cz; exact z 0 w c.2.2.2.1.1
      obtain ⟨M2, e2, fw, r2⟩ := X3_addMessage (r := r) hx1.2.2.1 zw (by omega) hm6 hg3
      have cz2 := cz.world fw.1 r2
      have pl := hx.2.2.2.2.2
      unfold Place at pl
      have fr2 : Fr (hisT x) M M2 := (hisPT f1).tr (fw.1.mono (fun a h => by unfold hisT hisP; unfold inW at h; omega))
      have w2 : gRn 5 134 x M2 = some w := by
        obtain ⟨rt, ⟨c1, c2, c3, c4, _⟩, _⟩ := cz2
        exact gRn_ok c1.1.1 (c2.1.trans c4.1)
      have i2 : gI 4 99 w M2 = some (nI (m + 1)) := by
        rw [WI r2.1, r2.2.1.2.2.2]; unfold sendG; rw [u1_self, hc.m]
      have em : nI (m + 1) - 1 = nI m := by rw [show (1 : Int32) = nI 1 from rfl, nI_sub (by omega)]; rfl
      have lt6 : (nI m < 6) = True := nI_ltT (b := 6) h6 (by omega)
      have k4 : (mK M1 w = 4) = True := eq_true hx1.2.2.1.1.1.1
      refine Or.inl ⟨nI m, M2, w, p, sendG (mA M (x + 62)) r, ?_, cz2.cls, fr2, hD.2.2.2.2.2.1.send (by omega) hm6, fun M3 f2 e64 e165 _ _ => ?_⟩
      · simp only [f_X4_send, cK, hx.k5, if_true, if_false, bx_l, bx_r, bn, Option.bind_some, Option.map_some, b01_or, hx.w134, hx.r100, hx.r101, hx.r102, hx.i96, hx.i97, hx.i98, hx.i99, rep_ok hx hr, lt6, hx.r136, hx.k27, e1, hx1.w134, k4, e2, w2, i2, em]
      · obtain ⟨o', er, ho'⟩ := r_rem (g := mA M (x + 62)) f2 e64 e165 hD.h10
        have rn3 : Rn (wI (wA M3 (x + 64) o') 165 (x + 60) (nI (remH h))) (x + 60) (x + 62) := f2.rn
        have es := X5_sends (g := mA M (x + 62)) rn3 (r := r) (by omega) hm6 hg3
        have g3 : gA 9 (x + 62) 3 (wA M3 (x + 62) (mA M (x + 62))) = some (nI m) := by rw [← hc.2.2.2.1]; exact gNow f2.rn (i := 3) (by omega)
        have g3' : gA 9 (x + 62) 3 (wA (wI (wA M3 (x + 64) o') 165 (x + 60) (nI (remH h))) (x + 62) (sendG (mA M (x + 62)) r)) = some (nI (m + 1)) := by
          have : sendG (mA M (x + 62)) r 3 = nI (m + 1) := by unfold sendG; rw [u1_self, hc.m]
          rw [← this]; exact gNow rn3 (i := 3) (by omega)
        have ne6 : (nI m = 6) = False := nI_eqF (b := 6) (by omega) (by omega) (by omega)
        refine ⟨o', sendG (mA M (x + 62)) r, ?_, ho', fun q hq => rfl⟩
        simp only [f_X5_send, cK, kM f2.rn, if_true, if_false, bn, Option.bind_some, Option.map_some, told_eq f2.rn, refuse_eq f2.rn, refuses_eq f2.rn, e10, b01_or, true_or, or_true, isR_ok f2.rn hr hR.2.1 hc.1, gW f2.rn, g3, ne6, er, kM rn3, es, gW rn3, g3', em, told_eq rn3]
        rfl
    · obtain rfl : m = 6 := by omega
      refine Or.inr (exc_of 2 2 (by decide) (fun M => rfl) ?_ (fun M2 f2 => ?_))
      · have lt6 : (nI 6 < 6) = False := eq_false (by decide)
        simp only [f_X4_send, cK, hx.k5, if_true, if_false, bx_l, bx_r, bn, Option.bind_some, Option.map_some, b01_or, hx.w134, hx.r100, hx.r101, hx.r102, hx.i96, hx.i97, hx.i98, hx.i99, rep_ok hx hr, lt6]
      · have g3 : gA 9 (x + 62) 3 (wA M2 (x + 62) (mA M (x + 62))) = some (nI 6) := by rw [← hc.2.2.2.1]; exact gNow f2.rn (i := 3) (by omega)
        have ne6 : (nI 6 = 6) = True := eq_true rfl
        simp only [f_X5_send, cK, kM f2.rn, if_true, if_false, bn, Option.bind_some, Option.map_some, told_eq f2.rn, refuse_eq f2.rn, refuses_eq f2.rn, e10, b01_or, true_or, or_true, isR_ok f2.rn hr hR.2.1 hc.1, gW f2.rn, g3, ne6]
  · refine Or.inr (exc_of 0 1 (by decide) (fun M => rfl) ?_ (fun M2 f2 => ?_))
    · simp only [f_X4_send, cK, hx.k5, if_true, if_false, bx_l, bx_r, bn, Option.bind_some, Option.map_some, b01_or, hx.w134, hx.r100, hx.r101, hx.r102, hx.i96, hx.i97, hx.i98, hx.i99, rep_no hx ha]
    · simp only [f_X5_send, cK, kM f2.rn, if_true, if_false, bn, Option.bind_some, Option.map_some, told_eq f2.rn, refuse_eq f2.rn, refuses_eq f2.rn, e10, b01_or, true_or, or_true, isR_no f2.rn ha hR.2.1 hc.1]
theorem mcn_drop {g : Nat → Int32} {i : Nat} (h : mcn g < 100) : mcn (dropG g i) = mcn g - 1 := by
  show (dropG g i 3).toNatClampNeg = mcn g - 1
  unfold dropG; rw [dropL_lo _ _ _ _ (by omega), u1_self]; exact nI_cl (by omega)
theorem Wf.drop {g : Nat → Int32} (h : Wf n g) {i : Nat} (hi : i < mcn g) : Wf (n + 1) (dropG g i) := by
  obtain ⟨⟨R, C, Q, m, c⟩, h2⟩ := h
  have em := c.m
  have m6 := c.2.2.2.2.2.2.2.2
  have hlo : ∀ q, q < 3 → dropG g i q = g q := fun q hq => by unfold dropG; rw [dropL_lo _ _ _ _ (by omega), u1_ne _ _ (by omega)]
  refine ⟨⟨R, C, Q, m - 1, (hlo 0 (by omega)).trans c.1, (hlo 1 (by omega)).trans c.2.1, (hlo 2 (by omega)).trans c.2.2.1, by unfold dropG; rw [dropL_lo _ _ _ _ (by omega), u1_self, em], c.2.2.2.2.1, c.2.2.2.2.2.1, c.2.2.2.2.2.2.1, c.2.2.2.2.2.2.2.1, by omega⟩, fun t ht hv => ?_⟩
  rw [mcn_drop (by omega)] at hv
  by_cases q : 4 + i ≤ t ∧ t < 4 + i + (mcn g - 1 - i)
  · refine ((h2 (t + 1) (by omega) (by omega)).mono (by omega)).congr (fun j hj => ?_)
    unfold dropG; rw [dropL_r _ _ _ _ _ (by omega) hj, if_pos q, row_u1 (by omega)]
  · refine ((h2 t ht (by omega)).mono (by omega)).congr (fun j hj => ?_)
    unfold dropG; rw [dropL_r _ _ _ _ _ (by omega) hj, if_neg q, row_u1 (by omega)]
theorem r_drop {M3 : Mem} {m w : Nat} {g : Nat → Int32} (hR : Rn M3 m w) {i c : Nat} (hi : i ≤ c) (hc : c ≤ 5) (hg : g 3 = nI c) : fj_X5_drop_30 m (nI i) (wA M3 w g) = some (nI c, wA (wI M3 161 m 0) w (dropL g i (c - i))) := by
  have g3 : ∀ k, gA 9 w 3 (wA M3 w (dropL g i k)) = some (nI c) := fun k => by
    rw [← hg, ← dropL_lo g i k 3 (by omega)]; exact gNow hR (i := 3) (by omega)
  unfold fj_X5_drop_30
  refine loopM_run (st := fun k => (nI (i + k), wA M3 w (dropL g i k))) (N := c - i) rfl (fun k hk => ?_) ?_ (FUn (by omega))
  · have hl : ¬ (nI c ≤ nI (i + k)) := nI_ge (by omega) (by omega)
    have i4 : (4 : Int32) + nI (i + k) = nI (4 + (i + k)) := nI_add 4 _
    have i5 : nI (4 + (i + k)) + 1 = nI (4 + (i + k + 1)) := nI_add _ 1
    have ei : nI (i + k) + 1 = nI (i + (k + 1)) := nI_add _ 1
    have eg := gNow (g := dropL g i k) hR (i := 4 + (i + k + 1)) (by omega)
    have es : sA 9 w (nI (4 + (i + k))) (dropL g i k (4 + (i + k + 1))) (wA M3 w (dropL g i k)) = some (wA M3 w (u1 (dropL g i k) (4 + (i + k)) (dropL g i k (4 + (i + k + 1))))) := by
      rw [sA_w, if_pos ⟨hR.2.2.1, by rw [show mN (wA M3 w (dropL g i k)) w = 1594 from hR.2.2.2, inT (by omega) (by omega)]; exact not_false⟩, nI_cl (by omega), wA_self, wA_again, nar9]
    have ec := X5_copies (g := u1 (dropL g i k) (4 + (i + k)) (dropL g i k (4 + (i + k + 1)))) hR (t := 4 + (i + k)) (u := 4 + (i + k + 1)) (by omega) (by omega)
    rw [row_u1 (by omega)] at ec
    simp only [fc_X5_drop_30, gW hR, g3, Option.bind_some, hl, if_false, i4, i5, eg, es, cK, kM hR, if_true, ec, ei]
    rfl
  · have hl : nI c ≤ nI (i + (c - i)) := by rw [show i + (c - i) = c by omega]; exact Int32.le_refl _
    simp only [fc_X5_drop_30, fj_X5_drop_76, gW hR, g3, Option.bind_some, hl, if_true, cK, kM hR, told_eq hR, bn, Option.map_some]
theorem case_46 (hI : Inv n x M) (hz : wfz M) (hn : n < 100000) {a : Int32} : fk_law_46 x (x + 60) (x + 68) a M (Inv (n + 1) x) := by
  obtain ⟨w, p, h, bb, hD⟩ := hI.d
  obtain ⟨R, C, Q, m, hx⟩ := hD.cx
  have hR := hx.Rle
  have hc := hx.2.2.2.1
  refine lw_chg (H := hnd1 0) (F := f_X4_drop x a M) (G := f_X5_drop (x + 60) a) hD hz ?_
  rcases rng a m (by omega) with ⟨r, hr, rfl⟩ | ha
  · obtain ⟨M1, e1, cz, f1⟩ := (hD.1.z hz).record
    have hx1 := cx_of cz hc hx.2.2.2.2.1
    have hrm : r < mcn (mA M (x + 62)) := by rw [hc.m]; exact hr
    have hm6 : mcn (mA M (x + 62)) ≤ 6 := by rw [hc.m]; omega
    have hg3 : mA M (x + 62) 3 = nI (mcn (mA M (x + 62))) := by rw [hc.m]; exact hc.2.2.2.1
    have zw : w + 24 ≤ mZ M1 := by obtain ⟨rt, c, _, z⟩ := cz; exact z 0 w c.2.2.2.1.1
    obtain ⟨M2, p2, e2, fw, r2⟩ := X3_removeMessage hx1.2.2.1 zw hrm hm6 hg3
    have cz2 := cz.world fw r2
    have pl := hx.2.2.2.2.2
    unfold Place at pl
    have fr2 : Fr (hisT x) M M2 := (hisPT f1).tr (fw.mono (fun a h => by unfold hisT hisP; unfold inW at h; omega))
    have w2 : gRn 5 134 x M2 = some w := by
      obtain ⟨rt, ⟨c1, c2, c3, c4, _⟩, _⟩ := cz2
      exact gRn_ok c1.1.1 (c2.1.trans c4.1)
    have i2 : gI 4 99 w M2 = some (nI (m - 1)) := by
      rw [WI r2.1, r2.2.1.2.2.2]; unfold dropG; rw [dropL_lo _ _ _ _ (by omega), u1_self, hc.m]
    have k4 : (mK M1 w = 4) = True := eq_true hx1.2.2.1.1.1.1
    refine Or.inl ⟨nI (m - 1), M2, w, p2, dropG (mA M (x + 62)) r, ?_, cz2.cls, fr2, hD.2.2.2.2.2.1.drop hrm, fun M3 f2 e64 e165 _ _ => ?_⟩
    · simp only [f_X4_drop, cK, hx.k5, if_true, if_false, bx_l, bx_r, bn, Option.bind_some, Option.map_some, b01_or, hx.w134, hx.r100, hx.r101, hx.r102, hx.i96, hx.i97, hx.i98, hx.i99, mes_ok hx hr, hx.r136, hx.k27, e1, hx1.w134, k4, e2, w2, i2]
    · obtain ⟨o', er, ho'⟩ := r_rem (g := mA M (x + 62)) f2 e64 e165 hD.h10
      have rn3 : Rn (wI (wA M3 (x + 64) o') 165 (x + 60) (nI (remH h))) (x + 60) (x + 62) := f2.rn
      have g3 : gA 9 (x + 62) 3 (wA (wI (wA M3 (x + 64) o') 165 (x + 60) (nI (remH h))) (x + 62) (mA M (x + 62))) = some (nI m) := by rw [← hc.2.2.2.1]; exact gNow rn3 (i := 3) (by omega)
      have em : nI m - 1 = nI (m - 1) := by rw [show (1 : Int32) = nI 1 from rfl, nI_sub (by omega)]
      have es : sA 9 (x + 62) 3 (nI (m - 1)) (wA (wI (wA M3 (x + 64) o') 165 (x + 60) (nI (remH h))) (x + 62) (mA M (x + 62))) = some (wA (wI (wA M3 (x + 64) o') 165 (x + 60) (nI (remH h))) (x + 62) (u1 (mA M (x + 62)) 3 (nI (m - 1)))) := by
        have hin : ¬ ((3 : Int32) < 0 ∨ 1594 ≤ (3 : Int32).toNatClampNeg) := by decide
        rw [sA_w, if_pos ⟨rn3.2.2.1, by rw [show mN (wA (wI (wA M3 (x + 64) o') 165 (x + 60) (nI (remH h))) (x + 62) (mA M (x + 62))) (x + 62) = 1594 from rn3.2.2.2]; exact hin⟩, wA_self, wA_again, nar9]
        rfl
      have ed := r_drop (g := u1 (mA M (x + 62)) 3 (nI (m - 1))) rn3 (i := r) (c := m - 1) (by omega) (by omega) (u1_self _ _ _)
      refine ⟨o', dropG (mA M (x + 62)) r, ?_, ho', fun q hq => rfl⟩
      simp only [f_X5_drop, cK, kM f2.rn, if_true, if_false, bn, Option.bind_some, Option.map_some, told_eq f2.rn, refuse_eq f2.rn, refuses_eq f2.rn, e10, b01_or, true_or, or_true, isM_ok f2.rn hr hR.2.2.2.2 hc.2.2.2.1, er, gW rn3, g3, em, es]
      rw [ed]
      unfold dropG refM
      rw [hc.m]
  · refine Or.inr (exc_of 0 1 (by decide) (fun M => rfl) ?_ (fun M2 f2 => ?_))
    · simp only [f_X4_drop, cK, hx.k5, if_true, if_false, bx_l, bx_r, bn, Option.bind_some, Option.map_some, b01_or, hx.w134, hx.r100, hx.r101, hx.r102, hx.i96, hx.i97, hx.i98, hx.i99, mes_no hx ha]
    · simp only [f_X5_drop, cK, kM f2.rn, if_true, if_false, bn, Option.bind_some, Option.map_some, told_eq f2.rn, refuse_eq f2.rn, refuses_eq f2.rn, e10, b01_or, true_or, or_true, isM_no f2.rn ha hR.2.2.2.2 hc.2.2.2.1]
/-- every replica before the i-th made U -/
def allU (g U : Nat → Int32) : Nat → Nat → Int32
  | 0 => g
  | i + 1 => put (allU g U i) i U
theorem allU_lo (g U : Nat → Int32) (i q : Nat) (hq : q < 10) : allU g U i q = g q := by
  induction i with
  | zero => rfl
  | succ i ih => unfold allU; rw [put_lo hq, ih]
theorem allU_hi (g U : Nat → Int32) (i t : Nat) (ht : i ≤ t) (j : Nat) (hj : j < 132) : row (allU g U i) t j = row g t j := by
  induction i with
  | zero => rfl
  | succ i ih => unfold allU; rw [row_put_ne hj (by omega), ih (by omega)]
theorem allU_row (g U : Nat → Int32) (i t : Nat) (j : Nat) (hj : j < 132) : row (allU g U i) t j = if t < i then U j else row g t j := by
  induction i with
  | zero => rw [if_neg (by omega)]; rfl
  | succ i ih =>
    unfold allU
    by_cases q : t = i
    · subst q; rw [row_put hj, if_pos (by omega)]
    · rw [row_put_ne hj q, ih]
      by_cases q2 : t < i
      · rw [if_pos q2, if_pos (by omega)]
      · rw [if_neg q2, if_neg (by omega)]
noncomputable def difU (g U : Nat → Int32) (n : Nat) : Nat := @cnt (fun k => ¬ eqS (row g k) U) (fun _ => Classical.propDecidable _) n
theorem difU_t {g U : Nat → Int32} {k : Nat} (h : ¬ eqS (row g k) U) : difU g U (k + 1) = difU g U k + 1 := @cnt_t (fun k => ¬ eqS (row g k) U) (fun _ => Classical.propDecidable _) k h
theorem difU_f {g U : Nat → Int32} {k : Nat} (h : eqS (row g k) U) : difU g U (k + 1) = difU g U k := @cnt_f (fun k => ¬ eqS (row g k) U) (fun _ => Classical.propDecidable _) k (fun e => e h)
theorem Wf.allU {g U : Nat → Int32} (h : Wf n g) (hU : WFr n U) (i : Nat) : Wf (n + 1) (allU g U i) := by
  obtain ⟨⟨R, C, Q, m, c⟩, h2⟩ := h
  have em : mcn (Jvm.Pilot.COfflineNotesLaw_law_r8908_f384f3.allU g U i) = mcn g := by unfold mcn; rw [allU_lo _ _ _ _ (by omega)]
  refine ⟨⟨R, C, Q, m, (allU_lo _ _ _ _ (by omega)).trans c.1, (allU_lo _ _ _ _ (by omega)).trans c.2.1, (allU_lo _ _ _ _ (by omega)).trans c.2.2.1, (allU_lo _ _ _ _ (by omega)).trans c.2.2.2.1, c.2.2.2.2⟩, fun t ht hv => ?_⟩
  rw [em] at hv
  by_cases q : t < i
  · exact (hU.mono (by omega)).congr (fun j hj => by rw [allU_row _ _ _ _ _ hj, if_pos q])
  · exact ((h2 t ht hv).mono (by omega)).congr (fun j hj => by rw [allU_row _ _ _ _ _ hj, if_neg q])
theorem case_43 (hI : Inv n x M) (hz : wfz M) (hn : n < 100000) : fk_law_43 x (x + 60) (x + 68) M (Inv (n + 1) x) := by
  obtain ⟨w, p, h, bb, hD⟩ := hI.d
  obtain ⟨R, C, Q, m, hx⟩ := hD.cx
  have hR := hx.Rle
  have hc := hx.2.2.2.1
  have fx := hI.fix
  obtain ⟨M1, e1, cz, f1⟩ := (hD.1.z hz).record
  have hx1 := cx_of cz hc hx.2.2.2.2.1
  obtain ⟨T, ek, et⟩ := c_all hx1
  have q1 := CSim.one (x := x) (M := M1) (f := T)
  have cz2 := cz.keep q1.sim.keep (Nat.le_refl _)
  have wU := WFr.upR hx1 (R - 1) (by omega)
  have lp : ∃ y, fj_X4_mergeAll_20 x (x + 30) 0 0 (wA M1 (x + 31) T) = some y ∧ (y.1 = nI (difU (mA M (x + 62)) (upR (mA M (x + 62)) (R - 1)) R) ∧ ClsZ x w p y.2 (allU (mA M (x + 62)) (upR (mA M (x + 62)) (R - 1)) R) (remO (mA M (x + 64)) h (mA M (x + 62))) (remH h) (mA M (x + 65)) bb ∧ Fr (hisT x) M y.2) := by
    unfold fj_X4_mergeAll_20
    refine loopM_inv (N := R) (P := fun i s => s.1 = nI (difU (mA M (x + 62)) (upR (mA M (x + 62)) (R - 1)) i) ∧ s.2.1 = nI i ∧ mA s.2.2 (x + 31) = T ∧ ClsZ x w p s.2.2 (allU (mA M (x + 62)) (upR (mA M (x + 62)) (R - 1)) i) (remO (mA M (x + 64)) h (mA M (x + 62))) (remH h) (mA M (x + 65)) bb ∧ Fr (hisT x) M s.2.2) ⟨rfl, rfl, wA_self _ _ _, cz2, fr_tr (hisPT f1)⟩ (fun i s hi hp => ?_) (fun s hp => ?_) (FUn (by omega))
    · obtain ⟨s1, s2, M3⟩ := s
      obtain ⟨a1, a2, a3, a4, a5⟩ := hp
      dsimp only at a1 a2 a3 a4 a5
      subst a1 a2
      have cn : Cnt (allU (mA M (x + 62)) (upR (mA M (x + 62)) (R - 1)) i) R C Q m := ⟨(allU_lo _ _ _ _ (by omega)).trans hc.1, (allU_lo _ _ _ _ (by omega)).trans hc.2.1, (allU_lo _ _ _ _ (by omega)).trans hc.2.2.1, (allU_lo _ _ _ _ (by omega)).trans hc.2.2.2.1, hc.2.2.2.2⟩
      have hx3 : Cx x w p M3 (allU (mA M (x + 62)) (upR (mA M (x + 62)) (R - 1)) i) R C Q m (n + 1) := cx_of a4 cn (fun t ht hv => (hD.2.2.2.2.2.1.allU wU i).2 t ht (by rw [cn.m]; exact hv))
      have hl : ¬ (nI R ≤ nI i) := nI_ge hi (by omega)
      have ei : nI i + 1 = nI (i + 1) := nI_add i 1
      obtain ⟨c0, d0, e0⟩ := hx3.cl (show i < 4 + m by omega)
      have eqT : ∀ j, j < 132 → mA M3 (x + 31) j = upR (mA M (x + 62)) (R - 1) j := fun j hj => by rw [a3]; exact et j hj
      have es := X2_same c0 hx3.trial
      rw [b01_c (eqS_congr (fun j hj => (d0 j hj).trans (allU_hi _ _ i i (Nat.le_refl _) j hj)) eqT)] at es
      by_cases c : eqS (row (mA M (x + 62)) i) (upR (mA M (x + 62)) (R - 1))
      · rw [b01_t c] at es
        refine ⟨(nI (difU (mA M (x + 62)) (upR (mA M (x + 62)) (R - 1)) (i + 1)), nI (i + 1), M3), ?_, rfl, rfl, a3, ?_, a5⟩
        · rw [difU_f c]
          simp only [fc_X4_mergeAll_20, fj_X4_mergeAll_60, hx3.w134, hx3.i96, hx3.r100, repB hx3 hi, Option.bind_some, hl, if_false, cK, hx3.s3 (show i < 4 + m by omega), if_true, es, bn, e10, ei]
        · have := a4.row (show i < 10 by omega) (a := mA M3 (clo w p i)) (c := upR (mA M (x + 62)) (R - 1)) (fun j hj => by rw [d0 j hj, allU_hi _ _ i i (Nat.le_refl _) j hj]; exact c j hj)
          rwa [wA_id] at this
      · rw [b01_f c] at es
        have ec := X2_copyFrom c0 hx3.trial
        refine ⟨(nI (difU (mA M (x + 62)) (upR (mA M (x + 62)) (R - 1)) (i + 1)), nI (i + 1), wA M3 (clo w p i) (fun j => if j < 132 then mA M3 (x + 31) j else mA M3 (clo w p i) j)), ?_, rfl, rfl, ?_, ?_, ?_⟩
        · rw [difU_t c]
          have ed : nI (difU (mA M (x + 62)) (upR (mA M (x + 62)) (R - 1)) i) + 1 = nI (difU (mA M (x + 62)) (upR (mA M (x + 62)) (R - 1)) i + 1) := nI_add _ 1
          simp only [fc_X4_mergeAll_20, fj_X4_mergeAll_60, hx3.w134, hx3.i96, hx3.r100, repB hx3 hi, Option.bind_some, hl, if_false, cK, hx3.s3 (show i < 4 + m by omega), if_true, es, bn, ec, ei, ed]
        · show mA (wA M3 (clo w p i) _) (x + 31) = T
          rw [mA_ne (hx3.cne (show i < 4 + m by omega)).1.symm, a3]
        · exact a4.row (show i < 10 by omega) (fun j hj => by rw [if_pos hj]; exact eqT j hj)
        · exact fr_row hx a5 (by omega)
    · obtain ⟨s1, s2, M3⟩ := s
      obtain ⟨a1, a2, a3, a4, a5⟩ := hp
      dsimp only at a1 a2 a3 a4 a5
      subst a1 a2
      have cn : Cnt (allU (mA M (x + 62)) (upR (mA M (x + 62)) (R - 1)) R) R C Q m := ⟨(allU_lo _ _ _ _ (by omega)).trans hc.1, (allU_lo _ _ _ _ (by omega)).trans hc.2.1, (allU_lo _ _ _ _ (by omega)).trans hc.2.2.1, (allU_lo _ _ _ _ (by omega)).trans hc.2.2.2.1, hc.2.2.2.2⟩
      have hx3 : Cx x w p M3 (allU (mA M (x + 62)) (upR (mA M (x + 62)) (R - 1)) R) R C Q m (n + 1) := cx_of a4 cn (fun t ht hv => (hD.2.2.2.2.2.1.allU wU R).2 t ht (by rw [cn.m]; exact hv))
      have hl : nI R ≤ nI R := Int32.le_refl _
      refine ⟨(nI (difU (mA M (x + 62)) (upR (mA M (x + 62)) (R - 1)) R), M3), ?_, rfl, a4, a5⟩
      simp only [fc_X4_mergeAll_20, fj_X4_mergeAll_66, hx3.w134, hx3.i96, Option.bind_some, hl, if_true, Option.map_some]
  obtain ⟨⟨v, M3⟩, lp, rfl, cz3, f3⟩ := lp
  have eF : f_X4_mergeAll x M = some (nI (difU (mA M (x + 62)) (upR (mA M (x + 62)) (R - 1)) R), M3) := by
    simp only [f_X4_mergeAll, cK, hx.k5, if_true, if_false, bx_l, bx_r, bn, Option.bind_some, Option.map_some, b01_or, hx.w134, hx.r100, hx.r101, hx.r102, hx.i96, hx.i97, hx.i98, hx.i99, hx.r136, hx.k27, e1, hx1.k5, ek, lp]
  obtain ⟨fx3, a62, a64, i165, a65, i167⟩ := frT hI hz f3
  obtain ⟨o', er, ho'⟩ := r_rem (g := mA M (x + 62)) fx3 a64 (i165.trans hD.2.1) hD.h10
  have rn3 : Rn (wI (wA M3 (x + 64) o') 165 (x + 60) (nI (remH h))) (x + 60) (x + 62) := fx3.rn
  have t1 := X5_mergesUp (g := mA M (x + 62)) rn3 hR.1 hR.2.1 hc.1
  have lr : ∃ y, fj_X5_mergeAll_12 (x + 60) 0 0 (wA (wI (wA M3 (x + 64) o') 165 (x + 60) (nI (remH h))) (x + 62) (put (mA M (x + 62)) 10 (upR (mA M (x + 62)) (R - 1)))) = some y ∧ (∃ g'' : Nat → Int32, y = (nI (difU (mA M (x + 62)) (upR (mA M (x + 62)) (R - 1)) R), refM x M3 o' h 0 g'') ∧ ∀ q, q < 1330 → g'' q = allU (mA M (x + 62)) (upR (mA M (x + 62)) (R - 1)) R q) := by
    unfold fj_X5_mergeAll_12
    refine loopM_inv (N := R) (P := fun i s => s.1 = nI (difU (mA M (x + 62)) (upR (mA M (x + 62)) (R - 1)) i) ∧ s.2.1 = nI i ∧ ∃ g'' : Nat → Int32, s.2.2 = wA (wI (wA M3 (x + 64) o') 165 (x + 60) (nI (remH h))) (x + 62) g'' ∧ (∀ q, q < 1330 → g'' q = allU (mA M (x + 62)) (upR (mA M (x + 62)) (R - 1)) i q) ∧ ∀ j, j < 132 → row g'' 10 j = upR (mA M (x + 62)) (R - 1) j) ⟨rfl, rfl, _, rfl, fun q hq => put_hi (by omega) hq, fun j hj => row_put hj⟩ (fun i s hi hp => ?_) (fun s hp => ?_) (FUn (by omega))
    · obtain ⟨s1, s2, s3⟩ := s
      obtain ⟨a1, a2, g2, a3, a4, a5⟩ := hp
      dsimp only at a1 a2 a3
      subst a1 a2 a3
      have g0 : gA 9 (x + 62) 0 (wA (wI (wA M3 (x + 64) o') 165 (x + 60) (nI (remH h))) (x + 62) g2) = some (nI R) := by
        have : g2 0 = nI R := (a4 0 (by omega)).trans ((allU_lo _ _ _ _ (by omega)).trans hc.1)
        rw [← this]; exact gNow rn3 (i := 0) (by omega)
      have hl : ¬ (nI R ≤ nI i) := nI_ge hi (by omega)
      have ei : nI i + 1 = nI (i + 1) := nI_add i 1
      have rw0 : ∀ j, j < 132 → row g2 i j = row (mA M (x + 62)) i j := fun j hj => (a4 _ (by rw [bs_eq]; omega)).trans (allU_hi _ _ i i (Nat.le_refl _) j hj)
      have ea : f_X5_areAlike (x + 60) (nI i) 10 (wA (wI (wA M3 (x + 64) o') 165 (x + 60) (nI (remH h))) (x + 62) g2) = _ := X5_alike rn3 (t := i) (u := 10) (by omega) (by omega)
      rw [b01_c (eqS_congr rw0 a5)] at ea
      have ec : f_X5_copies (x + 60) (nI i) 10 (wA (wI (wA M3 (x + 64) o') 165 (x + 60) (nI (remH h))) (x + 62) g2) = _ := X5_copies rn3 (t := i) (u := 10) (by omega) (by omega)
      refine ⟨(nI (difU (mA M (x + 62)) (upR (mA M (x + 62)) (R - 1)) (i + 1)), nI (i + 1), wA (wI (wA M3 (x + 64) o') 165 (x + 60) (nI (remH h))) (x + 62) (put g2 i (row g2 10))), ?_, rfl, rfl, put g2 i (row g2 10), rfl, fun q hq => ?_, fun j hj => (row_put_ne hj (by omega)).trans (a5 j hj)⟩
      · by_cases c : eqS (row (mA M (x + 62)) i) (upR (mA M (x + 62)) (R - 1))
        · rw [b01_t c] at ea
          rw [difU_f c]
          simp only [fc_X5_mergeAll_12, fj_X5_mergeAll_38, gW rn3, g0, Option.bind_some, hl, if_false, cK, kM rn3, if_true, ea, bn, e10, ec, Int32.add_zero, ei]
        · rw [b01_f c] at ea
          rw [difU_t c]
          have ed : nI (difU (mA M (x + 62)) (upR (mA M (x + 62)) (R - 1)) i) + 1 = nI (difU (mA M (x + 62)) (upR (mA M (x + 62)) (R - 1)) i + 1) := nI_add _ 1
          simp only [fc_X5_mergeAll_12, fj_X5_mergeAll_38, gW rn3, g0, Option.bind_some, hl, if_false, cK, kM rn3, if_true, ea, bn, ec, ed, ei]
      · show put g2 i (row g2 10) q = put (allU (mA M (x + 62)) (upR (mA M (x + 62)) (R - 1)) i) i (upR (mA M (x + 62)) (R - 1)) q
        unfold put
        by_cases c : bs i ≤ q ∧ q < bs i + 132
        · rw [if_pos c, if_pos c, a5 _ (by omega)]
        · rw [if_neg c, if_neg c, a4 q hq]
    · obtain ⟨s1, s2, s3⟩ := s
      obtain ⟨a1, a2, g2, a3, a4, a5⟩ := hp
      dsimp only at a1 a2 a3
      subst a1 a2 a3
      have g0 : gA 9 (x + 62) 0 (wA (wI (wA M3 (x + 64) o') 165 (x + 60) (nI (remH h))) (x + 62) g2) = some (nI R) := by
        have : g2 0 = nI R := (a4 0 (by omega)).trans ((allU_lo _ _ _ _ (by omega)).trans hc.1)
        rw [← this]; exact gNow rn3 (i := 0) (by omega)
      have hl : nI R ≤ nI R := Int32.le_refl _
      refine ⟨(nI (difU (mA M (x + 62)) (upR (mA M (x + 62)) (R - 1)) R), refM x M3 o' h 0 g2), ?_, g2, rfl, a4⟩
      simp only [fc_X5_mergeAll_12, fj_X5_mergeAll_53, gW rn3, g0, Option.bind_some, hl, if_true, cK, kM rn3, told_eq rn3, bn, Option.map_some]
      rfl
  obtain ⟨y, lr, g'', rfl, hg⟩ := lr
  have eG : f_X5_mergeAll (x + 60) (wA M3 (x + 62) (mA M (x + 62))) = some (nI (difU (mA M (x + 62)) (upR (mA M (x + 62)) (R - 1)) R), refM x M3 o' h 0 g'') := by
    simp only [f_X5_mergeAll, cK, kM fx3.rn, kM rn3, if_true, er, t1, Option.bind_some]
    exact lr
  rw [← a62, wA_id] at eG
  have hM3 : M3 = setZ (wL M3 (x + 68) (mL M3 (x + 68))) (mZ M3) := by rw [wL_id]; rfl
  have hfin := fin_chg hD hz cz3.cls f3 (hD.2.2.2.2.2.1.allU wU R) (M2 := M3) ⟨_, _, hM3⟩ ho' hg (u := 0)
  refine ⟨refM x M3 o' h 0 g'', ?_, hfin⟩
  have k5 : (mK M x = 5) = True := eq_true fx.1.1
  have k6 : (mK M3 (x + 60) = 6) = True := eq_true fx3.rn.1
  rw [← a62] at eF
  simp only [fr_law_43, cK, k5, k6, if_true, bn, eF, eG]
end C8
