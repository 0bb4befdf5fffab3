/-! restore, undo, save -/
theorem bit_t : ∀ b : Fin 4, ∀ s : Fin 2, (((nI b.val >>> (nI s.val &&& 31)) &&& 1 = 0) ↔ ¬ (b.val / 2 ^ s.val % 2 = 1)) := by decide
theorem bit_s : ∀ b : Fin 4, ∀ s : Fin 2, ∃ b' : Fin 4, nI b.val ||| ((1 : Int32) <<< (nI s.val &&& 31)) = nI b'.val ∧ ∀ s' : Fin 2, (b'.val / 2 ^ s'.val % 2 = 1 ↔ (b.val / 2 ^ s'.val % 2 = 1 ∨ s' = s)) := by decide
section C9
variable {n x : Nat} {M : Mem}
/-- the law's end for an int, whatever has changed -/
theorem lw_gen {H : Nat → Mem → Option (Int32 × Mem)} {F : Option ((Int32 ⊕ Nat) × Mem)} {G : Mem → Option (Int32 × Mem)} (hI : Inv n x M)
    (hh : (∃ v M1, F = some (.inl v, M1) ∧ Fix x M1 ∧ ∀ fL z, wfz (setZ (wL M1 (x + 68) fL) z) → ∃ M4, G (setZ (wL M1 (x + 68) fL) z) = some (v, M4) ∧ Fix x M4 ∧ mI M4 161 (x + 60) = 0 ∧ mL M4 (x + 68) = fL ∧ Inv (n + 1) x M4) ∨ ExcOK x M F G H) :
    ∃ kv M1, (bx (cK 5 x M F) H fun v1 M2 => (sL (x + 68) 0 v1.toInt64 M2).bind fun M3 => some (0, M3)) = some (kv, M1) ∧ ∀ z, wfz (setZ M1 z) → ∃ M2, (bn (cK 6 (x + 60) (setZ M1 z) (G (setZ M1 z))) fun v4 M3 => bn (cK 6 (x + 60) M3 (f_X5_thrown (x + 60) M3)) fun v6 M5 => (if v6 = kv then (if kv = 0 then (gL (x + 68) 0 M5).bind fun v7 => (if (lg_cmp v7 v4.toInt64) = 0 then some M5 else none) else some M5) else none)) = some M2 ∧ Inv (n + 1) x M2 := by
  have fx := hI.fix
  rcases hh with ⟨v, M1, h1, f1, h3⟩ | ⟨E, kx, M1, hk0, hH, h1, h2, h3⟩
  · refine ⟨0, wL M1 (x + 68) (u1 (mL M1 (x + 68)) 0 v.toInt64), ?_, fun z hwz => ?_⟩
    · rw [cK_ok fx.1.1, h1]
      show ((sL (x + 68) 0 v.toInt64 M1).bind fun M3 => some ((0 : Int32), M3)) = _
      rw [sL_ok f1]; rfl
    · have f2 : Fix x (setZ (wL M1 (x + 68) (u1 (mL M1 (x + 68)) 0 v.toInt64)) z) := f1
      obtain ⟨M4, e1, f3, e161, eL, hi⟩ := h3 _ z hwz
      refine ⟨M4, ?_, hi⟩
      rw [cK_ok f2.rn.1, e1, bn_some, cK_ok f3.rn.1, thrown_eq f3.rn.1, bn_some, if_pos e161, if_pos rfl, gL_ok f3, Option.bind_some]
      rw [if_pos (by rw [eL, u1_self]; exact lg_cmp0 _)]
  · refine ⟨kx, M1, ?_, fun z _ => ?_⟩
    · rw [cK_ok fx.1.1, h1]; exact hH M1
    · exact exc_end hI h2 hk0 h3 (Inv (n + 1) x) (fun _ h => h)
def cpN (g o : Nat → Int32) (s n : Nat) : Nat → Int32 := fun q => if q < n then o (1330 * s + q) else g q
theorem cpN_0 (g o : Nat → Int32) (s : Nat) : cpN g o s 0 = g := funext fun q => if_neg (by omega)
theorem cpN_step (g o : Nat → Int32) (s n : Nat) : u1 (cpN g o s n) n (o (s * 1330 + n)) = cpN g o s (n + 1) := by
  funext q; unfold u1 cpN
  by_cases c : q = n
  · rw [if_pos c, if_pos (by omega), c]; exact congrArg o (by omega)
  · rw [if_neg c]; by_cases c2 : q < n
    · rw [if_pos c2, if_pos (by omega)]
    · rw [if_neg c2, if_neg (by omega)]
theorem Fix.k65 {M : Mem} (h : Fix x M) : mR M 166 (x + 60) = some (x + 65) ∧ mK M (x + 65) = 9 ∧ mN M (x + 65) = 2660 := ⟨h.2.2.2.2.2.2.1.2.2.2.2.2.1, h.2.2.2.2.2.2.2.1.2.2.2.2.1.1, h.2.2.2.2.2.2.2.1.2.2.2.2.1.2⟩
theorem r_restore {M3 : Mem} {g : Nat → Int32} (f3 : Fix x M3) {s m : Nat} (hs : s < 2) (hm : mA M3 (x + 65) (1330 * s + 3) = nI m) : fj_X5_restore_38 (x + 60) (nI s) 0 (wA M3 (x + 62) g) = some (nI m, wA (wI M3 161 (x + 60) 0) (x + 62) (cpN g (mA M3 (x + 65)) s 1330)) := by
  obtain ⟨h1, h2, h3, h4⟩ := f3.rn
  obtain ⟨k1, k2, k3⟩ := f3.k65
  unfold fj_X5_restore_38
  refine loopM_run (st := fun i => (nI i, wA M3 (x + 62) (cpN g (mA M3 (x + 65)) s i))) (N := 1330) ?_ (fun i hi => ?_) ?_ (FUn (by decide))
  · show _ = (nI 0, wA M3 (x + 62) (cpN g (mA M3 (x + 65)) s 0))
    rw [cpN_0]; rfl
  · have e5 : mA (wA M3 (x + 62) (cpN g (mA M3 (x + 65)) s i)) (x + 65) = mA M3 (x + 65) := mA_ne (by omega)
    simp (disch := omega) only [fc_X5_restore_38, h1, h2, h3, h4, k1, k2, k3, e5, gI, gR, gRn, sI_w, sR_w, gA, sA_w, gB, gBn, sBn_w, sB0_w, gL, sL_w, cK, bn, Option.bind_some, Option.map_some, nar9, inT, wA_self, wA_again, wB_self, wB_again, wL_self, wL_again, u1_self, nI_add, nI_mul, nI_sub, nI_div, nI_leT, nI_leF, nI_ltT, nI_ltF, nI_eqT, nI_eqF, nI_neg, nI_cl, lit_nI, nI_nlt0, if_true, if_false, if_pos, if_neg, true_and, and_true, not_false_eq_true, or_self, or_false, false_or, reduceIte, and_self, not_true_eq_false, ne_eq, mK_wI, mN_wI, mR_wI, mA_wI, mB_wI, mL_wI, mZ_wI, mK_wA, mN_wA, mI_wA, mR_wA, mB_wA, mL_wA, mZ_wA, mK_wB, mN_wB, mI_wB, mR_wB, mA_wB, mL_wB, mZ_wB, mK_wR, mN_wR, mI_wR, mA_wR, mB_wR, mL_wR, mZ_wR, mK_wL, mN_wL, mI_wL, mR_wL, mA_wL, mB_wL, mZ_wL, cpN_step]
  · have rn : Rn M3 (x + 60) (x + 62) := f3.rn
    have g3 : gA 9 (x + 62) 3 (wA M3 (x + 62) (cpN g (mA M3 (x + 65)) s 1330)) = some (nI m) := by
      have : cpN g (mA M3 (x + 65)) s 1330 3 = nI m := by unfold cpN; rw [if_pos (by omega)]; exact hm
      rw [← this]; exact gNow rn (i := 3) (by omega)
    have hl : (1330 : Int32) ≤ nI 1330 := by decide
    simp only [fc_X5_restore_38, fj_X5_restore_69, hl, if_true, gW rn, g3, Option.bind_some, cK, kM rn, told_eq rn, bn, Option.map_some]
theorem case_47 (hI : Inv n x M) (hz : wfz M) (hn : n < 100000) {a : Int32} : fk_law_47 x (x + 60) (x + 68) a M (Inv (n + 1) x) := by
  obtain ⟨w, p, h, bb, hD⟩ := hI.d
  obtain ⟨R, C, Q, m, hx⟩ := hD.cx
  have hR := hx.Rle
  have hc := hx.2.2.2.1
  have fx := hI.fix
  have hb4 : bb < 4 := by obtain ⟨rt, c⟩ := hD.1; exact c.2.2.2.2.2.1
  have r137 : gRn 5 137 x M = some (x + 29) := gRn_ok fx.1.1 fx.1.2.2.2.2.1
  refine lw_chg (H := hnd2 0 2) (F := f_X4_restore x a M) (G := f_X5_restore (x + 60) a) hD hz ?_
  rcases rng a 2 (by omega) with ⟨s, hs, rfl⟩ | ha
  · have gBs : gB 11 (x + 29) (nI s) M = some (mB M (x + 29) s) := by
      unfold gB; rw [if_pos ⟨fx.2.2.2.1.1, by rw [fx.2.2.2.1.2, inT hs (by omega)]; exact not_false⟩, nI_cl (by omega)]
    have bt := bit_t ⟨bb, hb4⟩ ⟨s, hs⟩
    dsimp only at bt
    by_cases c : bit bb s
    · obtain ⟨M1, e1, cz, f1⟩ := (hD.1.z hz).record
      have CZ := cz
      obtain ⟨rt, ⟨c1, c2, c3, c4, c5, c6⟩, z1, z2⟩ := cz
      obtain ⟨u, q, ru, rel⟩ := (c6.2 s hs).1 c
      have eBu : mB M (x + 29) s = some u := by
        have hz69 : x + 69 ≤ mZ M := by
          have := hz (x + 68) (by rw [fx.2.2.2.2.2.2.2.2.1]; decide)
          omega
        rw [← (f1.at (show x + 29 < mZ M by omega) (by unfold hisP; omega)).2.2.1, c2.2.2.2 s hs]; exact ru
      obtain ⟨M2, e2, fw, r2⟩ := X3_copyFrom c4.2.1 rel (c3.2.1 0 (12 + s) w u (by omega) c4.1 ru) (z2 0 w c4.1) (z2 _ u ru)
      have cz2 := CZ.world fw.1 r2
      have pl := hx.2.2.2.2.2
      unfold Place at pl
      have fr2 : Fr (hisT x) M M2 := (hisPT f1).tr (fw.1.mono (fun a h => by unfold hisT hisP; unfold inW at h; omega))
      obtain ⟨⟨R', C', Q', m', wc⟩, wr⟩ := hD.2.2.2.2.2.2.2 s hs c
      have hx1 := cx_of CZ hc hx.2.2.2.2.1
      have w2 : gRn 5 134 x M2 = some w := by
        obtain ⟨rt, ⟨c1, c2, c3, c4, _⟩, _⟩ := cz2
        exact gRn_ok c1.1.1 (c2.1.trans c4.1)
      have i2 : gI 4 99 w M2 = some (nI m') := by
        rw [WI r2.1, r2.2.1.2.2.2]; exact congrArg some wc.2.2.2.1
      have k4 : (mK M1 w = 4) = True := eq_true c4.2.1.1.1
      refine Or.inl ⟨nI m', M2, w, p, sl (mA M (x + 65)) s, ?_, cz2.cls, fr2, (hD.2.2.2.2.2.2.2 s hs c).mono (by omega), fun M3 f2 e64 e165 e65 e167 => ?_⟩
      · simp only [f_X4_restore, cK, hx.k5, if_true, if_false, bx_l, bx_r, bn, Option.bind_some, Option.map_some, b01_or, hx.w134, hx.r100, hx.r101, hx.r102, hx.i96, hx.i97, hx.i98, hx.i99, slot_ok hs, r137, gBs, eBu, hx.r136, hx.k27, e1, hx1.w134, k4, e2, w2, i2]
      · obtain ⟨o', er, ho'⟩ := r_rem (g := mA M (x + 62)) f2 e64 e165 hD.h10
        have f3 : Fix x (wI (wA M3 (x + 64) o') 165 (x + 60) (nI (remH h))) := f2
        have rn3 : Rn (wI (wA M3 (x + 64) o') 165 (x + 60) (nI (remH h))) (x + 60) (x + 62) := f2.rn
        have e65' : mA (wI (wA M3 (x + 64) o') 165 (x + 60) (nI (remH h))) (x + 65) = mA M (x + 65) := (mA_ne (M := M3) (g := o') (by omega)).trans e65
        have es := r_restore (g := mA M (x + 62)) f3 hs (m := m') (by rw [e65']; exact wc.2.2.2.1)
        rw [e65'] at es
        have in1 : f_X5_in (nI s) 0 1 (wA M3 (x + 62) (mA M (x + 62))) = some (1, _) := in_ok (n := 2) hs (by omega)
        have i167 : gI 6 167 (x + 60) (wA M3 (x + 62) (mA M (x + 62))) = some (nI bb) := by
          unfold gI; rw [if_pos (show mK (wA M3 (x + 62) (mA M (x + 62))) (x + 60) = 6 from f2.rn.1)]; exact congrArg some (e167.trans hD.2.2.1)
        have bt' : ((nI bb >>> (nI s &&& 31)) &&& 1 = 0) = False := eq_false (fun e => bt.mp e c)
        refine ⟨o', cpN (mA M (x + 62)) (mA M (x + 65)) s 1330, ?_, ho', fun q hq => if_pos hq⟩
        simp only [f_X5_restore, cK, kM f2.rn, if_true, if_false, bn, Option.bind_some, Option.map_some, told_eq f2.rn, refuse_eq f2.rn, refuses_eq f2.rn, e10, b01_or, true_or, or_true, in1, i167, bt', er, es]
        rfl
    · have eBn : mB M (x + 29) s = none := by
        obtain ⟨rt, c1, c2, c3, c4, c5, c6⟩ := hD.1
        rw [c2.2.2.2 s hs]; exact (c6.2 s hs).2 c
      refine Or.inr ⟨2, 2, M, by decide, fun M => rfl, ?_, CSim.refl, fun M2 f2 eI _ => ⟨0, ?_⟩⟩
      · simp only [f_X4_restore, cK, hx.k5, if_true, if_false, bx_l, bx_r, bn, Option.bind_some, Option.map_some, b01_or, hx.w134, hx.r100, hx.r101, hx.r102, hx.i96, hx.i97, hx.i98, hx.i99, slot_ok hs, r137, gBs, eBn]
      · have in1 : f_X5_in (nI s) 0 1 (wA M2 (x + 62) (mA M (x + 62))) = some (1, _) := in_ok (n := 2) hs (by omega)
        have i167 : gI 6 167 (x + 60) (wA M2 (x + 62) (mA M (x + 62))) = some (nI bb) := by
          unfold gI; rw [if_pos (show mK (wA M2 (x + 62) (mA M (x + 62))) (x + 60) = 6 from f2.rn.1)]; exact congrArg some ((eI 167 (by omega) (by omega)).trans hD.2.2.1)
        have bt' : ((nI bb >>> (nI s &&& 31)) &&& 1 = 0) = True := eq_true (bt.mpr c)
        simp only [f_X5_restore, cK, kM f2.rn, if_true, if_false, bn, Option.bind_some, Option.map_some, told_eq f2.rn, refuse_eq f2.rn, refuses_eq f2.rn, e10, b01_or, true_or, or_true, in1, i167, bt']
  · refine Or.inr (exc_of 0 1 (by decide) (fun M => rfl) ?_ (fun M2 f2 => ?_))
    · simp only [f_X4_restore, cK, hx.k5, if_true, if_false, bx_l, bx_r, bn, Option.bind_some, Option.map_some, b01_or, hx.w134, hx.r100, hx.r101, hx.r102, hx.i96, hx.i97, hx.i98, hx.i99, slot_no ha]
    · have in1 : f_X5_in a 0 1 (wA M2 (x + 62) (mA M (x + 62))) = some (0, _) := in_no (n := 2) ha (by omega)
      simp only [f_X5_restore, cK, kM f2.rn, if_true, if_false, bn, Option.bind_some, Option.map_some, told_eq f2.rn, refuse_eq f2.rn, refuses_eq f2.rn, e10, b01_or, true_or, or_true, in1]
theorem Fix.k64 {M : Mem} (h : Fix x M) : mR M 164 (x + 60) = some (x + 64) ∧ mK M (x + 64) = 9 ∧ mN M (x + 64) = 13300 := ⟨h.2.2.2.2.2.2.1.2.2.2.2.1, h.2.2.2.2.2.2.2.1.2.2.2.1.1, h.2.2.2.2.2.2.2.1.2.2.2.1.2⟩
theorem r_undo {M3 : Mem} {g : Nat → Int32} (f3 : Fix x M3) {h : Nat} (hh : h < 10) (e165 : mI M3 165 (x + 60) = nI h) : fj_X5_undo_25 (x + 60) 0 (wA M3 (x + 62) g) = some (nI h, wA (wI M3 161 (x + 60) 0) (x + 62) (cpN g (mA M3 (x + 64)) h 1330)) := by
  obtain ⟨h1, h2, h3, h4⟩ := f3.rn
  obtain ⟨k1, k2, k3⟩ := f3.k64
  unfold fj_X5_undo_25
  refine loopM_run (st := fun i => (nI i, wA M3 (x + 62) (cpN g (mA M3 (x + 64)) h i))) (N := 1330) ?_ (fun i hi => ?_) ?_ (FUn (by decide))
  · show _ = (nI 0, wA M3 (x + 62) (cpN g (mA M3 (x + 64)) h 0))
    rw [cpN_0]; rfl
  · have e5 : mA (wA M3 (x + 62) (cpN g (mA M3 (x + 64)) h i)) (x + 64) = mA M3 (x + 64) := mA_ne (by omega)
    simp (disch := omega) only [fc_X5_undo_25, h1, h2, h3, h4, k1, k2, k3, e5, e165, gI, gR, gRn, sI_w, sR_w, gA, sA_w, gB, gBn, sBn_w, sB0_w, gL, sL_w, cK, bn, Option.bind_some, Option.map_some, nar9, inT, wA_self, wA_again, wB_self, wB_again, wL_self, wL_again, u1_self, nI_add, nI_mul, nI_sub, nI_div, nI_leT, nI_leF, nI_ltT, nI_ltF, nI_eqT, nI_eqF, nI_neg, nI_cl, lit_nI, nI_nlt0, if_true, if_false, if_pos, if_neg, true_and, and_true, not_false_eq_true, or_self, or_false, false_or, reduceIte, and_self, not_true_eq_false, ne_eq, mK_wI, mN_wI, mR_wI, mA_wI, mB_wI, mL_wI, mZ_wI, mK_wA, mN_wA, mI_wA, mR_wA, mB_wA, mL_wA, mZ_wA, mK_wB, mN_wB, mI_wB, mR_wB, mA_wB, mL_wB, mZ_wB, mK_wR, mN_wR, mI_wR, mA_wR, mB_wR, mL_wR, mZ_wR, mK_wL, mN_wL, mI_wL, mR_wL, mA_wL, mB_wL, mZ_wL, cpN_step]
  · have rn : Rn M3 (x + 60) (x + 62) := f3.rn
    have hl : (1330 : Int32) ≤ nI 1330 := by decide
    have gi : gI 6 165 (x + 60) (wA M3 (x + 62) (cpN g (mA M3 (x + 64)) h 1330)) = some (nI h) := by
      unfold gI; rw [if_pos (show mK (wA M3 (x + 62) (cpN g (mA M3 (x + 64)) h 1330)) (x + 60) = 6 from rn.1)]; exact congrArg some e165
    simp only [fc_X5_undo_25, fj_X5_undo_59, hl, if_true, gi, Option.bind_some, cK, kM rn, told_eq rn, bn, Option.map_some]
theorem case_48 (hI : Inv n x M) (hz : wfz M) (hn : n < 100000) : fk_law_48 x (x + 60) (x + 68) M (Inv (n + 1) x) := by
  obtain ⟨w, p, h, bb, hD⟩ := hI.d
  obtain ⟨R, C, Q, m, hx⟩ := hD.cx
  have fx := hI.fix
  have hzz : x + 69 ≤ mZ M := by
    have := hz (x + 68) (by rw [fx.2.2.2.2.2.2.2.2.1]; decide)
    omega
  obtain ⟨⟨rt, c1, ⟨p1, p2, p3, p4⟩, ⟨q1, q2, q3⟩, ⟨n1, n2⟩, ⟨nx, h1, h2, h3, h4, h5⟩, ⟨s1, s2⟩⟩, d2, d3, d4, d5, d6, d7, d8⟩ := id hD
  refine lw_gen (H := hnd1 2) (F := f_X4_undo x M) (G := f_X5_undo (x + 60)) hI ?_
  have i2 : gI 1 2 (x + 27) M = some (nI h) := by rw [HI1 c1.2.2.1, h4]
  by_cases c0 : h = 0
  · subst c0
    refine Or.inr ⟨2, 1, M, by decide, fun M => rfl, ?_, CSim.refl, fun M2 f2 eI _ => ⟨0, ?_⟩⟩
    · simp only [f_X4_undo, hx.r136, i2, Option.bind_some, show (nI 0 = 0) = True from eq_true rfl, if_true]
    · have gi : gI 6 165 (x + 60) (wA M2 (x + 62) (mA M (x + 62))) = some (nI 0) := by
        unfold gI; rw [if_pos (show mK (wA M2 (x + 62) (mA M (x + 62))) (x + 60) = 6 from f2.rn.1)]; exact congrArg some ((eI 165 (by omega) (by omega)).trans d2)
      simp only [f_X5_undo, cK, kM f2.rn, if_true, if_false, bn, Option.bind_some, Option.map_some, told_eq f2.rn, refuse_eq f2.rn, refuses_eq f2.rn, e10, b01_or, true_or, or_true, gi, show (nI 0 = 0) = True from eq_true rfl]
  · obtain ⟨u, q, ru, rel⟩ := h5 (h - 1) (by omega)
    have ix : (nx + 10 - h + (h - 1)) % 10 = (nx + 9) % 10 := by omega
    rw [ix] at ru
    have eu : mB M (x + 28) ((nx + 9) % 10) = some u := by rw [p3 _ (by omega)]; exact ru
    have ee := X0_exchange c1.2.2.1 h1 (show 0 < h ∧ h ≤ 10 by omega) h3 h4 eu n2.1.1.1
    let M1 := wR (wB (wI (wI M 1 (x + 27) (nI ((nx + 9) % 10))) 2 (x + 27) (nI (h - 1))) (x + 28) (u1 (mB M (x + 28)) ((nx + 9) % 10) (some w))) 134 x (some u)
    have eK : mK M1 = mK M := rfl
    have eN : mN M1 = mN M := rfl
    have eR : ∀ f a, mR M1 f a = if f = 134 ∧ a = x then some u else mR M f a := fun f a => mR_wR _ _ _ _ _ _
    have eI : ∀ f a, mI M1 f a = if f = 2 ∧ a = x + 27 then nI (h - 1) else if f = 1 ∧ a = x + 27 then nI ((nx + 9) % 10) else mI M f a := fun f a => by
      show mI (wI (wI M 1 (x + 27) (nI ((nx + 9) % 10))) 2 (x + 27) (nI (h - 1))) f a = _
      rw [mI_wI, mI_wI]
    have eA : mA M1 = mA M := rfl
    have eB : ∀ a, mB M1 a = if a = x + 28 then u1 (mB M (x + 28)) ((nx + 9) % 10) (some w) else mB M a := fun a => mB_wB _ _ _ _
    have f1 : Fix x M1 := fx.same (fun i _ => ⟨rfl, rfl⟩) (fun f i _ hf _ => by rw [eR, if_neg (by omega)])
    have relS : ∀ k y q g, rt k = some y → RelP M y q g → RelP M1 y q g := fun k y q g e r => by
      have py := (q1 k y e).1
      unfold Place at py
      exact r.same (fun i hi => ⟨rfl, rfl, fun f => by rw [eR, if_neg (by omega)]⟩) (fun i hi => ⟨fun f => by rw [eI, if_neg (by omega), if_neg (by omega)], rfl, by rw [eB, if_neg (by omega)]⟩)
    have wsS : ∀ k y q, rt k = some y → WS M y q → WS M1 y q := fun k y q e r => by
      have py := (q1 k y e).1
      unfold Place at py
      exact r.same (fun i hi => ⟨rfl, rfl, fun f => by rw [eR, if_neg (by omega)]⟩) ⟨by rw [eB, if_neg (by omega)], by rw [eB, if_neg (by omega)]⟩
    let rt' := u1 (u1 rt 0 (some u)) (2 + (nx + 9) % 10) (some w)
    have rt0 : rt' 0 = some u := by show u1 (u1 rt 0 (some u)) (2 + (nx + 9) % 10) (some w) 0 = _; rw [u1_ne _ _ (by omega), u1_self]
    have rtx : rt' (2 + (nx + 9) % 10) = some w := u1_self _ _ _
    have rtk : ∀ k, k ≠ 0 → k ≠ 2 + (nx + 9) % 10 → rt' k = rt k := fun k hk hk2 => by show u1 (u1 rt 0 (some u)) (2 + (nx + 9) % 10) (some w) k = _; rw [u1_ne _ _ hk2, u1_ne _ _ hk]
    have old : ∀ k y, rt' k = some y → ∃ k', rt k' = some y ∧ (k = 0 → k' = 2 + (nx + 9) % 10) ∧ (k = 2 + (nx + 9) % 10 → k' = 0) ∧ (k ≠ 0 → k ≠ 2 + (nx + 9) % 10 → k' = k) := fun k y e => by
      by_cases a : k = 0
      · subst a; rw [rt0] at e; cases e; exact ⟨_, ru, fun _ => rfl, fun e => by omega, fun e => absurd rfl e⟩
      · by_cases b : k = 2 + (nx + 9) % 10
        · subst b; rw [rtx] at e; cases e; exact ⟨0, n1, fun e => by omega, fun _ => rfl, fun _ e => absurd rfl e⟩
        · rw [rtk k a b] at e; exact ⟨k, e, fun e => absurd e a, fun e => absurd e b, fun _ _ => rfl⟩
    have cl1 : Cls x u q M1 (sl (mA M (x + 64)) (h - 1)) (mA M (x + 64)) (h - 1) (mA M (x + 65)) bb := by
      refine ⟨rt', f1, ⟨by rw [eR, if_pos ⟨rfl, rfl⟩, rt0], by rw [eR, if_neg (by omega), p2, rtk 1 (by omega) (by omega)], fun i hi => ?_, fun i hi => by rw [eB, if_neg (by omega), p4 i hi, rtk _ (by omega) (by omega)]⟩, ⟨fun k y e => ?_, fun k k' y y' hk e e' => ?_, ?_⟩, ⟨rt0, relS _ u q _ ru rel⟩, ⟨(nx + 9) % 10, by omega, by omega, by rw [eI, if_neg (by omega), if_pos ⟨rfl, rfl⟩], by rw [eI, if_pos ⟨rfl, rfl⟩], fun j hj => ?_⟩, ⟨s1, fun s hs => ⟨fun hb => ?_, fun hb => by rw [rtk _ (by omega) (by omega)]; exact (s2 s hs).2 hb⟩⟩⟩
      · rw [eB, if_pos rfl]
        by_cases a : i = (nx + 9) % 10
        · rw [a, u1_self, rtx]
        · rw [u1_ne _ _ a, rtk _ (by omega) (by omega)]; exact p3 i hi
      · obtain ⟨k', e', _⟩ := old k y e
        obtain ⟨q', wq⟩ := (q1 k' y e').2
        exact ⟨(q1 k' y e').1, q', wsS k' y q' e' wq⟩
      · obtain ⟨l, el, l1, l2, l3⟩ := old k y e
        obtain ⟨l', el', l1', l2', l3'⟩ := old k' y' e'
        refine q2 l l' y y' (fun ell => ?_) el el'
        subst ell
        by_cases a : k = 0
        · have := l1 a
          by_cases a' : k' = 0
          · omega
          · by_cases b' : k' = 2 + (nx + 9) % 10
            · have := l2' b'; omega
            · have := l3' a' b'; omega
        · by_cases b : k = 2 + (nx + 9) % 10
          · have := l2 b
            by_cases a' : k' = 0
            · have := l1' a'; omega
            · by_cases b' : k' = 2 + (nx + 9) % 10
              · omega
              · have := l3' a' b'; omega
          · have := l3 a b
            by_cases a' : k' = 0
            · have := l1' a'; omega
            · by_cases b' : k' = 2 + (nx + 9) % 10
              · have := l2' b'; omega
              · have := l3' a' b'; omega
      · obtain ⟨sw, e⟩ := q3; exact ⟨sw, by rw [rtk 1 (by omega) (by omega)]; exact e⟩
      · obtain ⟨y, q', e, r⟩ := h5 j (by omega)
        refine ⟨y, q', ?_, relS _ y q' _ e r⟩
        rw [show ((nx + 9) % 10 + 10 - (h - 1) + j) % 10 = (nx + 10 - h + j) % 10 by omega, rtk _ (by omega) (by omega)]; exact e
      · obtain ⟨y, q', e, r⟩ := (s2 s hs).1 hb
        exact ⟨y, q', by rw [rtk _ (by omega) (by omega)]; exact e, relS _ y q' _ e r⟩
    refine Or.inl ⟨nI (h - 1), M1, ?_, f1, fun fL z _ => ?_⟩
    · have ne0 : (nI h = 0) = False := nI_eqF (b := 0) c0 (by omega) (by omega)
      have k1 := hx.k27
      have eS : sR 5 134 x (some u) (wB (wI (wI M 1 (x + 27) (nI ((nx + 9) % 10))) 2 (x + 27) (nI (h - 1))) (x + 28) (u1 (mB M (x + 28)) ((nx + 9) % 10) (some w))) = some M1 := by rw [sR_w, if_pos (show mK (wB (wI (wI M 1 (x + 27) (nI ((nx + 9) % 10))) 2 (x + 27) (nI (h - 1))) (x + 28) (u1 (mB M (x + 28)) ((nx + 9) % 10) (some w))) x = 5 from fx.1.1)]
      have r136 : gRn 5 136 x M1 = some (x + 27) := gRn_ok f1.1.1 f1.1.2.2.2.1
      have i2' : gI 1 2 (x + 27) M1 = some (nI (h - 1)) := by rw [HI1 f1.2.2.1, eI, if_pos ⟨rfl, rfl⟩]
      simp only [f_X4_undo, hx.r136, i2, Option.bind_some, ne0, if_false, hx.w134, cK, k1, if_true, ee, bn, eS, r136, i2']
    · let M3 := setZ (wL M1 (x + 68) fL) z
      have f3 : Fix x M3 := f1
      have e165 : mI M3 165 (x + 60) = nI h := by show mI M1 165 (x + 60) = _; rw [eI, if_neg (by omega), if_neg (by omega)]; exact d2
      have e165' : mI (wI M3 165 (x + 60) (nI (h - 1))) 165 (x + 60) = nI (h - 1) := by rw [mI_wI, if_pos ⟨rfl, rfl⟩]
      have f3' : Fix x (wI M3 165 (x + 60) (nI (h - 1))) := f1
      have eu := r_undo (g := mA M (x + 62)) f3' (show h - 1 < 10 by omega) e165'
      have eAo : mA (wI M3 165 (x + 60) (nI (h - 1))) (x + 64) = mA M (x + 64) := rfl
      rw [eAo] at eu
      have em : wA (wI M3 165 (x + 60) (nI (h - 1))) (x + 62) (mA M (x + 62)) = wI M3 165 (x + 60) (nI (h - 1)) := wA_id (wI M3 165 (x + 60) (nI (h - 1))) (x + 62)
      rw [em] at eu
      let M4 := wA (wI (wI M3 165 (x + 60) (nI (h - 1))) 161 (x + 60) 0) (x + 62) (cpN (mA M (x + 62)) (mA M (x + 64)) (h - 1) 1330)
      have e62 : mA M4 (x + 62) = cpN (mA M (x + 62)) (mA M (x + 64)) (h - 1) 1330 := wA_self _ _ _
      have eA4 : ∀ a, a ≠ x + 62 → mA M4 a = mA M a := fun a ha => mA_ne (M := wI (wI M3 165 (x + 60) (nI (h - 1))) 161 (x + 60) 0) ha
      have eI4 : ∀ f a, mI M4 f a = if f = 161 ∧ a = x + 60 then 0 else if f = 165 ∧ a = x + 60 then nI (h - 1) else mI M1 f a := fun f a => by
        show mI (wI (wI M3 165 (x + 60) (nI (h - 1))) 161 (x + 60) 0) f a = _
        rw [mI_wI, mI_wI]; rfl
      have kp : Keep x M1 M4 := ⟨rfl, rfl, rfl, rfl, fun a _ _ _ _ h5 => eA4 a (by omega), fun f a h1 h2 => by rw [eI4, if_neg (by omega), if_neg (by omega)]⟩
      refine ⟨M4, ?_, f1, by rw [eI4, if_pos ⟨rfl, rfl⟩], wL_self _ _ _, u, q, h - 1, bb, ?_, ?_, ?_, ?_, ?_, ?_, ?_, ?_⟩
      · have ne0 : (nI h = 0) = False := nI_eqF (b := 0) c0 (by omega) (by omega)
        have k6 : (mK M3 (x + 60) = 6) = True := eq_true f3.rn.1
        have s1' : nI h - 1 = nI (h - 1) := by rw [show (1 : Int32) = nI 1 from rfl, nI_sub (by omega)]
        show f_X5_undo (x + 60) M3 = _
        simp only [f_X5_undo, gI, sI_w, k6, if_true, Option.bind_some, e165, ne0, if_false, s1']
        exact eu
      · rw [e62, eA4 _ (by omega), eA4 _ (by omega)]
        exact (cl1.keep kp).congr (fun q hq => if_pos hq) (fun q hq => rfl) (fun _ _ _ _ _ => rfl)
      · rw [eI4, if_neg (by omega), if_pos ⟨rfl, rfl⟩]
      · rw [eI4, if_neg (by omega), if_neg (by omega), eI, if_neg (by omega), if_neg (by omega)]; exact d3
      · refine d4.same (fun f => by rw [eI4, if_neg (by omega), if_neg (by omega), eI, if_neg (by omega), if_neg (by omega)]) (fun f a1 a2 a3 a4 => by rw [eI4, if_neg (by omega), if_neg (by omega), eI, if_neg (by omega), if_neg (by omega)]) (eA4 _ (by omega)) (eA4 _ (by omega)) (eA4 _ (by omega)) (eA4 _ (by omega))
      · rw [eA4 _ (by omega)]; exact d5
      · rw [e62]; exact ((d7 (h - 1) (by omega)).mono (by omega)).congr (fun q hq => if_pos hq)
      · rw [eA4 _ (by omega)]; exact fun j hj => (d7 j (by omega)).mono (by omega)
      · rw [eA4 _ (by omega)]; exact fun s hs hb => (d8 s hs hb).mono (by omega)
end C9
