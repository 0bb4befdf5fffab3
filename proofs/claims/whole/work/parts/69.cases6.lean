/-! COUNTERS, TAGS, REGISTERS CHANGED -/
theorem u1_g {g : Nat → Int32} {t i : Nat} {v : Int32} (h : i < 132) : u1 g (bs t + i) v = put g t (u1 (row g t) i v) := by rw [← u1_put h, put_row]
theorem mcn_put {g : Nat → Int32} {t : Nat} {a : Nat → Int32} : mcn (put g t a) = mcn g := by unfold mcn; rw [put_lo (by omega)]
theorem Wf.put {n : Nat} {g : Nat → Int32} (h : Wf n g) {t : Nat} {a : Nat → Int32} (ha : WFr (n + 1) a) : Wf (n + 1) (Jvm.Pilot.COfflineNotesLaw_law_r8908_f384f3.put g t a) := by
  obtain ⟨⟨R, C, Q, m, c⟩, h2⟩ := h
  refine ⟨⟨R, C, Q, m, (put_lo (by omega)).trans c.1, (put_lo (by omega)).trans c.2.1, (put_lo (by omega)).trans c.2.2.1, (put_lo (by omega)).trans c.2.2.2.1, c.2.2.2.2⟩, fun u hu hv => ?_⟩
  rw [mcn_put] at hv
  by_cases q : u = t
  · subst q; exact ha.congr (fun i hi => row_put hi)
  · exact ((h2 u hu hv).mono (by omega)).congr (fun i hi => row_put_ne hi q)
section C6
variable {n x : Nat} {M : Mem}
theorem Cx.r136 {w : Nat} {p : Nat → Nat} {g : Nat → Int32} {R C Q m k : Nat} (h : Cx x w p M g R C Q m k) : gRn 5 136 x M = some (x + 27) := gRn_ok h.1.1.1 h.1.1.2.2.2.1
theorem Cx.k27 {w : Nat} {p : Nat → Nat} {g : Nat → Int32} {R C Q m k : Nat} (h : Cx x w p M g R C Q m k) : (mK M (x + 27) = 1) = True := eq_true h.1.2.2.1.1
theorem r_rem {M2 : Mem} {o g : Nat → Int32} {h : Nat} (f2 : Fix x M2) (e64 : mA M2 (x + 64) = o) (e165 : mI M2 165 (x + 60) = nI h) (hh : h ≤ 10) : ∃ o', f_X5_remembers (x + 60) (wA M2 (x + 62) g) = some (wA (wI (wA M2 (x + 64) o') 165 (x + 60) (nI (remH h))) (x + 62) g) ∧ ∀ q, q < 13300 → o' q = remO o h g q := by
  subst e64
  exact X5_remembers f2.rn f2.2.2.2.2.2.2.1.2.2.2.2.1 f2.2.2.2.2.2.2.2.1.2.2.2.1.1 f2.2.2.2.2.2.2.2.1.2.2.2.1.2 (by omega) hh e165
theorem InvD.h10 {w : Nat} {p : Nat → Nat} {h b : Nat} (H : InvD n x M w p h b) : h ≤ 10 := by obtain ⟨⟨rt, _, _, _, _, ⟨nx, _, q, _⟩, _⟩, _⟩ := H; exact q
theorem hisPT {M2 : Mem} (f : Fr (hisP x) M M2) : Fr (hisT x) M M2 := f.mono (fun a h => Or.inl h)
theorem in99_ok {lo : Nat} {c : Int32} {M : Mem} (h1 : ¬ c < nI lo) (h2 : c ≤ 99) : f_X5_in c (nI lo) 99 M = some (1, M) := by
  have h3 : ¬ (99 : Int32) < c := Int32.not_lt.mpr h2
  simp only [f_X5_in, fj_X5_in_15, h1, h3, if_false, or_true, if_true]
theorem in99_no {lo : Nat} {c : Int32} {M : Mem} (h : c < nI lo ∨ ¬ c ≤ 99) : f_X5_in c (nI lo) 99 M = some (0, M) := by
  by_cases h1 : c < nI lo
  · simp only [f_X5_in, fj_X5_in_14, fj_X5_in_15, h1, true_or, if_true]
  · have h3 : (99 : Int32) < c := Int32.not_le.mp (h.resolve_left h1)
    simp only [f_X5_in, fj_X5_in_14, fj_X5_in_15, h1, h3, if_false, true_or, if_true]
theorem chc_ok {w : Nat} {p : Nat → Nat} {h b : Nat} (hD : InvD n x M w p h b) (hz : wfz M) {R C Q m : Nat} (hx : Cx x w p M (mA M (x + 62)) R C Q m n) {off r s : Nat} {c : Int32} (ho : off = 4 ∨ off = 20) (hr : r < R) (hs : s < C) (c1 : ¬ c < 1) (c2 : c ≤ 99) (hn : n < 100000) {G : Mem → Option (Int32 × Mem)}
    (hG : ∀ M2 M3 : Mem, Fix x M2 → Rn M3 (x + 60) (x + 62) → f_X5_remembers (x + 60) (wA M2 (x + 62) (mA M (x + 62))) = some (wA M3 (x + 62) (mA M (x + 62))) → G (wA M2 (x + 62) (mA M (x + 62))) = fj_X5_counts_66 (x + 60) (nI r) (nI s) c (x + 62) (nI (bs r + (off + (4 * s + r)))) (wA M3 (x + 62) (mA M (x + 62)))) :
    ∃ v, ChgOK n x M h b (f_X4_changeCounter x (nI off) (nI r) (nI s) c M) G v := by
  have hR := hx.Rle
  have hc := hx.2.2.2.1
  have hi : off + (4 * s + r) < 36 := by omega
  obtain ⟨M1, e1, cz, f1⟩ := (hD.1.z hz).record
  have hx1 := cx_of cz hc hx.2.2.2.2.1
  obtain ⟨q0, d0, e0⟩ := hx1.cl (show r < 4 + m by omega)
  have ea := X2_addToSum (i := off) (j := s) (k := r) (v := c) q0 (by omega) (by omega) (by omega)
  have et := X2_total (j := s) (St.wA (a := clo w p r) (g := u1 (mA M1 (clo w p r)) (off + s * 4 + r) (mA M1 (clo w p r) (off + s * 4 + r) + c)) q0) (by omega)
  rw [wA_self] at et
  have ex : off + s * 4 + r = off + (4 * s + r) := by omega
  have ec : ∀ i, i < 132 → u1 (mA M1 (clo w p r)) (off + s * 4 + r) (mA M1 (clo w p r) (off + s * 4 + r) + c) i = u1 (row (mA M (x + 62)) r) (off + (4 * s + r)) (row (mA M (x + 62)) r (off + (4 * s + r)) + c) i := fun i hi => by
    rw [ex, d0 _ (by omega)]
    by_cases q : i = off + (4 * s + r)
    · rw [q, u1_self, u1_self]
    · rw [u1_ne _ _ q, u1_ne _ _ q]; exact d0 i hi
  rw [tot_congr (c := s) ec (by omega) 4 (by omega)] at et
  have k3 : (mK (wA M1 (clo w p r) (u1 (mA M1 (clo w p r)) (off + s * 4 + r) (mA M1 (clo w p r) (off + s * 4 + r) + c))) (sto w p r) = 3) = True := eq_true q0.1
  refine ⟨tot (u1 (row (mA M (x + 62)) r) (off + (4 * s + r)) (row (mA M (x + 62)) r (off + (4 * s + r)) + c)) s 4, _, w, p, put (mA M (x + 62)) r (u1 (row (mA M (x + 62)) r) (off + (4 * s + r)) (row (mA M (x + 62)) r (off + (4 * s + r)) + c)), ?_, (cz.row (show r < 10 by omega) ec).cls, ?_, ?_, fun M2 f2 e64 e165 _ _ => ?_⟩
  · simp only [f_X4_changeCounter, cK, hx.k5, if_true, if_false, bx_l, bx_r, bn, Option.bind_some, Option.map_some, b01_or, hx.w134, hx.r100, hx.r101, hx.r102, hx.i96, hx.i97, hx.i98, hx.i99, sta_ok hx hr, cou_ok hx hs, c1, c2, hx.r136, hx.k27, e1, hx1.s3 (show r < 4 + m by omega), ea, k3, et]
  · refine (hisPT f1).tr (Fr.wA ?_)
    have pl := hx.2.2.2.2.2
    unfold Place at pl
    have := sto_lt hx.2.2.1.1 (show r < 10 by omega)
    unfold hisT hisP clo; omega
  · have q1 : (1 : Int32).toInt = 1 := rfl
    have q99 : (99 : Int32).toInt = 99 := rfl
    rw [i32_lt] at c1
    rw [i32_le] at c2
    exact hD.2.2.2.2.2.1.put (e0.sum (by omega) (by omega) (by omega))
  · obtain ⟨o', er, ho'⟩ := r_rem (g := mA M (x + 62)) f2 e64 e165 hD.h10
    refine ⟨o', put (mA M (x + 62)) r (u1 (row (mA M (x + 62)) r) (off + (4 * s + r)) (row (mA M (x + 62)) r (off + (4 * s + r)) + c)), ?_, ho', fun q hq => rfl⟩
    rw [hG M2 (wI (wA M2 (x + 64) o') 165 (x + 60) (nI (remH h))) f2 f2.rn er]
    have hb := bs_le (show r < 12 by omega)
    have rn3 : Rn (wI (wA M2 (x + 64) o') 165 (x + 60) (nI (remH h))) (x + 60) (x + 62) := f2.rn
    have eg := gNow (g := mA M (x + 62)) rn3 (i := bs r + (off + (4 * s + r))) (by omega)
    have es : sA 9 (x + 62) (nI (bs r + (off + (4 * s + r)))) (mA M (x + 62) (bs r + (off + (4 * s + r))) + c) (wA (wI (wA M2 (x + 64) o') 165 (x + 60) (nI (remH h))) (x + 62) (mA M (x + 62))) = some (wA (wI (wA M2 (x + 64) o') 165 (x + 60) (nI (remH h))) (x + 62) (put (mA M (x + 62)) r (u1 (row (mA M (x + 62)) r) (off + (4 * s + r)) (row (mA M (x + 62)) r (off + (4 * s + r)) + c)))) := by
      rw [sA_w, if_pos ⟨rn3.2.2.1, by rw [show mN (wA (wI (wA M2 (x + 64) o') 165 (x + 60) (nI (remH h))) (x + 62) (mA M (x + 62))) (x + 62) = 1594 from rn3.2.2.2, inT (by omega) (by omega)]; exact not_false⟩, nI_cl (by omega), wA_self, wA_again, nar9, u1_g (by omega)]
      rfl
    have ew := X5_worth (g := put (mA M (x + 62)) r (u1 (row (mA M (x + 62)) r) (off + (4 * s + r)) (row (mA M (x + 62)) r (off + (4 * s + r)) + c))) rn3 (t := r) (i := s) (by omega) (by omega)
    rw [tot_congr (b := u1 (row (mA M (x + 62)) r) (off + (4 * s + r)) (row (mA M (x + 62)) r (off + (4 * s + r)) + c)) (fun i hi => row_put hi) (show s < 4 by omega) 4 (by omega)] at ew
    simp only [fj_X5_counts_66, Option.bind_some, eg, es, ew, cK, kM rn3, if_true, bn, told_eq rn3]
    rfl
theorem exc_of {F : Option ((Int32 ⊕ Nat) × Mem)} {G : Mem → Option (Int32 × Mem)} {H : Nat → Mem → Option (Int32 × Mem)} (E : Nat) (kx : Int32) (hk : kx ≠ 0) (hH : ∀ M, H E M = some (kx, M)) (hF : F = some (.inr E, M)) (hG : ∀ M2, Fix x M2 → G (wA M2 (x + 62) (mA M (x + 62))) = some (0, wA (wI M2 161 (x + 60) kx) (x + 62) (mA M (x + 62)))) : ExcOK x M F G H := ⟨E, kx, M, hk, hH, hF, CSim.refl, fun M2 f2 _ _ => ⟨0, hG M2 f2⟩⟩
theorem chc_case (hI : Inv n x M) (hz : wfz M) (hn : n < 100000) {a b c : Int32} {off : Nat} (ho : off = 4 ∨ off = 20) {sg : Int32} (hsg : (sg = 1 ∧ off = 4) ∨ (sg = -1 ∧ off = 20)) : ∃ w p h bb, InvD n x M w p h bb ∧ ((∃ v, ChgOK n x M h bb (f_X4_changeCounter x (nI off) a b c M) (f_X5_counts (x + 60) a b c sg) v) ∨ ExcOK x M (f_X4_changeCounter x (nI off) a b c M) (f_X5_counts (x + 60) a b c sg) (hnd2 0 1)) := by
  obtain ⟨w, p, h, bb, hD⟩ := hI.d
  obtain ⟨R, C, Q, m, hx⟩ := hD.cx
  have hR := hx.Rle
  have hc := hx.2.2.2.1
  refine ⟨w, p, h, bb, hD, ?_⟩
  rcases rng a R (by omega) with ⟨r, hr, rfl⟩ | ha
  · rcases rng b C (by omega) with ⟨s, hs, rfl⟩ | hb
    · by_cases c1 : c < 1
      · refine Or.inr (exc_of 1 2 (by decide) (fun M => rfl) ?_ (fun M2 f2 => ?_))
        · simp only [f_X4_changeCounter, fj_X4_changeCounter_25, cK, hx.k5, if_true, if_false, bx_l, bx_r, bn, Option.bind_some, Option.map_some, b01_or, hx.w134, hx.r100, hx.r101, hx.r102, hx.i96, hx.i97, hx.i98, hx.i99, sta_ok hx hr, cou_ok hx hs, c1]
        · have e : f_X5_in c 1 99 (wA M2 (x + 62) (mA M (x + 62))) = some (0, _) := in99_no (lo := 1) (Or.inl c1)
          simp only [f_X5_counts, cK, kM f2.rn, if_true, if_false, bn, Option.bind_some, Option.map_some, told_eq f2.rn, refuse_eq f2.rn, refuses_eq f2.rn, e10, b01_or, true_or, or_true, isR_ok f2.rn hr hR.2.1 hc.1, isC_ok f2.rn hs hR.2.2.1 hc.2.1, e]
      · by_cases c2 : c ≤ 99
        · refine Or.inl (chc_ok hD hz hx ho hr hs c1 c2 hn (fun M2 M3 f2 rn3 er => ?_))
          have e : f_X5_in c 1 99 (wA M2 (x + 62) (mA M (x + 62))) = some (1, _) := in99_ok (lo := 1) c1 c2
          simp only [f_X5_counts, cK, kM f2.rn, if_true, if_false, bn, Option.bind_some, Option.map_some, told_eq f2.rn, refuse_eq f2.rn, refuses_eq f2.rn, e10, b01_or, true_or, or_true, isR_ok f2.rn hr hR.2.1 hc.1, isC_ok f2.rn hs hR.2.2.1 hc.2.1, e, er, gW rn3]
          rcases hsg with ⟨rfl, rfl⟩ | ⟨rfl, rfl⟩
          · rw [if_neg (by decide), X5_more]
          · rw [if_pos (by decide), X5_less]
        · refine Or.inr (exc_of 1 2 (by decide) (fun M => rfl) ?_ (fun M2 f2 => ?_))
          · simp only [f_X4_changeCounter, fj_X4_changeCounter_25, cK, hx.k5, if_true, if_false, bx_l, bx_r, bn, Option.bind_some, Option.map_some, b01_or, hx.w134, hx.r100, hx.r101, hx.r102, hx.i96, hx.i97, hx.i98, hx.i99, sta_ok hx hr, cou_ok hx hs, c1, c2]
          · have e : f_X5_in c 1 99 (wA M2 (x + 62) (mA M (x + 62))) = some (0, _) := in99_no (lo := 1) (Or.inr c2)
            simp only [f_X5_counts, cK, kM f2.rn, if_true, if_false, bn, Option.bind_some, Option.map_some, told_eq f2.rn, refuse_eq f2.rn, refuses_eq f2.rn, e10, b01_or, true_or, or_true, isR_ok f2.rn hr hR.2.1 hc.1, isC_ok f2.rn hs hR.2.2.1 hc.2.1, e]
    · refine Or.inr (exc_of 0 1 (by decide) (fun M => rfl) ?_ (fun M2 f2 => ?_))
      · simp only [f_X4_changeCounter, cK, hx.k5, if_true, if_false, bx_l, bx_r, bn, Option.bind_some, Option.map_some, b01_or, hx.w134, hx.r100, hx.r101, hx.r102, hx.i96, hx.i97, hx.i98, hx.i99, sta_ok hx hr, cou_no hx hb]
      · simp only [f_X5_counts, fj_X5_counts_16, cK, kM f2.rn, if_true, if_false, bn, Option.bind_some, Option.map_some, told_eq f2.rn, refuse_eq f2.rn, refuses_eq f2.rn, e10, b01_or, true_or, or_true, isR_ok f2.rn hr hR.2.1 hc.1, isC_no f2.rn hb hR.2.2.1 hc.2.1]
  · refine Or.inr (exc_of 0 1 (by decide) (fun M => rfl) ?_ (fun M2 f2 => ?_))
    · simp only [f_X4_changeCounter, cK, hx.k5, if_true, if_false, bx_l, bx_r, bn, Option.bind_some, Option.map_some, b01_or, hx.w134, hx.r100, hx.r101, hx.r102, hx.i96, hx.i97, hx.i98, hx.i99, sta_no hx ha]
    · simp only [f_X5_counts, fj_X5_counts_16, cK, kM f2.rn, if_true, if_false, bn, Option.bind_some, Option.map_some, told_eq f2.rn, refuse_eq f2.rn, refuses_eq f2.rn, e10, b01_or, true_or, or_true, isR_no f2.rn ha hR.2.1 hc.1]
theorem inl_id {F : Option ((Int32 ⊕ Nat) × Mem)} : (bx F (fun ex M => some ((.inr ex, M))) fun v1 M2 => some (.inl v1, M2)) = F := by
  cases F with
  | none => rfl
  | some q => obtain ⟨r, M⟩ := q; cases r <;> rfl
theorem case_37 (hI : Inv n x M) (hz : wfz M) (hn : n < 100000) {a b c : Int32} : fk_law_37 x (x + 60) (x + 68) a b c M (Inv (n + 1) x) := by
  obtain ⟨w, p, h, bb, hD, hh⟩ := chc_case hI hz hn (a := a) (b := b) (c := c) (off := 4) (Or.inl rfl) (sg := 1) (Or.inl ⟨rfl, rfl⟩)
  have e1 : f_X4_increment x a b c M = f_X4_changeCounter x (nI 4) a b c M := by unfold f_X4_increment; rw [cK_ok hI.fix.1.1, inl_id]; rfl
  have e2 : ∀ M2, Fix x M2 → f_X5_increment (x + 60) a b c (wA M2 (x + 62) (mA M (x + 62))) = f_X5_counts (x + 60) a b c 1 (wA M2 (x + 62) (mA M (x + 62))) := fun M2 f2 => by unfold f_X5_increment; rw [cK_ok (M := wA M2 (x + 62) (mA M (x + 62))) f2.rn.1]; cases f_X5_counts (x + 60) a b c 1 (wA M2 (x + 62) (mA M (x + 62))) <;> rfl
  refine lw_chg (H := hnd2 0 1) (F := f_X4_increment x a b c M) (G := f_X5_increment (x + 60) a b c) hD hz ?_
  rw [e1]
  rcases hh with ⟨v, M1, w', p', g', h1, h2, h3, h4, h5⟩ | ⟨E, kx, M1, h1, h2, h3, h4, h5⟩
  · exact Or.inl ⟨v, M1, w', p', g', h1, h2, h3, h4, fun M2 f2 a1 a2 a3 a4 => by rw [e2 M2 f2]; exact h5 M2 f2 a1 a2 a3 a4⟩
  · exact Or.inr ⟨E, kx, M1, h1, h2, h3, h4, fun M2 f2 a1 a2 => by rw [e2 M2 f2]; exact h5 M2 f2 a1 a2⟩
theorem case_38 (hI : Inv n x M) (hz : wfz M) (hn : n < 100000) {a b c : Int32} : fk_law_38 x (x + 60) (x + 68) a b c M (Inv (n + 1) x) := by
  obtain ⟨w, p, h, bb, hD, hh⟩ := chc_case hI hz hn (a := a) (b := b) (c := c) (off := 20) (Or.inr rfl) (sg := -1) (Or.inr ⟨rfl, rfl⟩)
  have e1 : f_X4_decrement x a b c M = f_X4_changeCounter x (nI 20) a b c M := by unfold f_X4_decrement; rw [cK_ok hI.fix.1.1, inl_id]; rfl
  have e2 : ∀ M2, Fix x M2 → f_X5_decrement (x + 60) a b c (wA M2 (x + 62) (mA M (x + 62))) = f_X5_counts (x + 60) a b c (-1) (wA M2 (x + 62) (mA M (x + 62))) := fun M2 f2 => by unfold f_X5_decrement; rw [cK_ok (M := wA M2 (x + 62) (mA M (x + 62))) f2.rn.1]; cases f_X5_counts (x + 60) a b c (-1) (wA M2 (x + 62) (mA M (x + 62))) <;> rfl
  refine lw_chg (H := hnd2 0 1) (F := f_X4_decrement x a b c M) (G := f_X5_decrement (x + 60) a b c) hD hz ?_
  rw [e1]
  rcases hh with ⟨v, M1, w', p', g', h1, h2, h3, h4, h5⟩ | ⟨E, kx, M1, h1, h2, h3, h4, h5⟩
  · exact Or.inl ⟨v, M1, w', p', g', h1, h2, h3, h4, fun M2 f2 a1 a2 a3 a4 => by rw [e2 M2 f2]; exact h5 M2 f2 a1 a2 a3 a4⟩
  · exact Or.inr ⟨E, kx, M1, h1, h2, h3, h4, fun M2 f2 a1 a2 => by rw [e2 M2 f2]; exact h5 M2 f2 a1 a2⟩
theorem fr_row {w : Nat} {p : Nat → Nat} {g : Nat → Int32} {R C Q m k : Nat} {M1 : Mem} {f : Nat → Int32} (hx : Cx x w p M g R C Q m k) (f1 : Fr (hisT x) M M1) {t : Nat} (ht : t < 10) : Fr (hisT x) M (wA M1 (clo w p t) f) := by
  refine f1.tr (Fr.wA ?_)
  have pl := hx.2.2.2.2.2
  unfold Place at pl
  have := sto_lt hx.2.2.1.1 ht
  unfold hisT hisP clo; omega
theorem newN_congr {a b : Nat → Int32} {f r : Nat} {v : Int32} (e : ∀ i, i < 132 → a i = b i) (hr : r < 132) : ∀ i, i < 132 → newN a f r v 4 i = newN b f r v 4 i := fun i hi => by
  unfold newN; rw [e r hr, e i hi]
theorem case_39 (hI : Inv n x M) (hz : wfz M) (hn : n < 100000) {a b : Int32} : fk_law_39 x (x + 60) (x + 68) a b M (Inv (n + 1) x) := by
  obtain ⟨w, p, h, bb, hD⟩ := hI.d
  obtain ⟨R, C, Q, m, hx⟩ := hD.cx
  have hR := hx.Rle
  have hc := hx.2.2.2.1
  refine lw_chg (H := hnd1 0) (F := f_X4_addTag x a b M) (G := f_X5_addTag (x + 60) a b) hD hz ?_
  rcases rng a R (by omega) with ⟨r, hr, rfl⟩ | ha
  · rcases rng b 16 (by omega) with ⟨s, hs, rfl⟩ | hb
    · obtain ⟨M1, e1, cz, f1⟩ := (hD.1.z hz).record
      have hx1 := cx_of cz hc hx.2.2.2.2.1
      obtain ⟨q0, d0, e0⟩ := hx1.cl (show r < 4 + m by omega)
      have ea := X2_putTag (r := r) (t := s) q0 (by omega) hs
      have ev := X2_version (i := r) (St.wA (a := clo w p r) (g := newN (mA M1 (clo w p r)) (36 + s * 4) r 0 4) q0) (by omega)
      rw [wA_self, newN_r, d0 r (by omega)] at ev
      have k3 : (mK (wA M1 (clo w p r) (newN (mA M1 (clo w p r)) (36 + s * 4) r 0 4)) (sto w p r) = 3) = True := eq_true q0.1
      have ec : ∀ i, i < 132 → newN (mA M1 (clo w p r)) (36 + s * 4) r 0 4 i = newN (row (mA M (x + 62)) r) (36 + 4 * s) r 0 4 i := by
        rw [show 36 + s * 4 = 36 + 4 * s by omega]; exact newN_congr d0 (by omega)
      refine Or.inl ⟨row (mA M (x + 62)) r r + 1, _, w, p, put (mA M (x + 62)) r (newN (row (mA M (x + 62)) r) (36 + 4 * s) r 0 4), ?_, (cz.row (show r < 10 by omega) ec).cls, fr_row hx (hisPT f1) (by omega), ?_, fun M2 f2 e64 e165 _ _ => ?_⟩
      · simp only [f_X4_addTag, cK, hx.k5, if_true, if_false, bx_l, bx_r, bn, Option.bind_some, Option.map_some, b01_or, hx.w134, hx.r100, hx.r101, hx.r102, hx.i96, hx.i97, hx.i98, hx.i99, sta_ok hx hr, tagc_ok hs, hx.r136, hx.k27, e1, hx1.s3 (show r < 4 + m by omega), ea, k3, ev]
      · exact hD.2.2.2.2.2.1.put (e0.newN (by omega) (by omega) (by omega) (by omega) (by decide))
      · obtain ⟨o', er, ho'⟩ := r_rem (g := mA M (x + 62)) f2 e64 e165 hD.h10
        refine ⟨o', put (mA M (x + 62)) r (newN (row (mA M (x + 62)) r) (36 + 4 * s) r 0 4), ?_, ho', fun q hq => rfl⟩
        have rn3 : Rn (wI (wA M2 (x + 64) o') 165 (x + 60) (nI (remH h))) (x + 60) (x + 62) := f2.rn
        simp only [f_X5_addTag, cK, kM f2.rn, if_true, if_false, bn, Option.bind_some, Option.map_some, told_eq f2.rn, refuse_eq f2.rn, refuses_eq f2.rn, e10, b01_or, true_or, or_true, isR_ok f2.rn hr hR.2.1 hc.1, inT_ok hs, er, kM rn3, X5_adds rn3 (show r < 4 by omega) hs, told_eq rn3]
        rfl
    · refine Or.inr (exc_of 0 1 (by decide) (fun M => rfl) ?_ (fun M2 f2 => ?_))
      · simp only [f_X4_addTag, cK, hx.k5, if_true, if_false, bx_l, bx_r, bn, Option.bind_some, Option.map_some, b01_or, hx.w134, hx.r100, hx.r101, hx.r102, hx.i96, hx.i97, hx.i98, hx.i99, sta_ok hx hr, tagc_no hb]
      · simp only [f_X5_addTag, fj_X5_addTag_15, cK, kM f2.rn, if_true, if_false, bn, Option.bind_some, Option.map_some, told_eq f2.rn, refuse_eq f2.rn, refuses_eq f2.rn, e10, b01_or, true_or, or_true, isR_ok f2.rn hr hR.2.1 hc.1, inT_no hb]
  · refine Or.inr (exc_of 0 1 (by decide) (fun M => rfl) ?_ (fun M2 f2 => ?_))
    · simp only [f_X4_addTag, cK, hx.k5, if_true, if_false, bx_l, bx_r, bn, Option.bind_some, Option.map_some, b01_or, hx.w134, hx.r100, hx.r101, hx.r102, hx.i96, hx.i97, hx.i98, hx.i99, sta_no hx ha]
    · simp only [f_X5_addTag, fj_X5_addTag_15, cK, kM f2.rn, if_true, if_false, bn, Option.bind_some, Option.map_some, told_eq f2.rn, refuse_eq f2.rn, refuses_eq f2.rn, e10, b01_or, true_or, or_true, isR_no f2.rn ha hR.2.1 hc.1]
end C6
