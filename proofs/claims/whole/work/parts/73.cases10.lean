/-! save -/
section C10
variable {n x : Nat} {M : Mem}
theorem r_save {M3 : Mem} {g : Nat → Int32} (f3 : Fix x M3) {s m b b' : Nat} (hs : s < 2) (hm : g 3 = nI m) (h167 : mI M3 167 (x + 60) = nI b) (hb : nI b ||| ((1 : Int32) <<< (nI s &&& 31)) = nI b') : fj_X5_save_17 (x + 60) (nI s) 0 (wA M3 (x + 62) g) = some (nI m, wA (wI (wI (wA M3 (x + 65) (cpO (mA M3 (x + 65)) s g 1330)) 167 (x + 60) (nI b')) 161 (x + 60) 0) (x + 62) g) := by
  obtain ⟨h1, h2, h3, h4⟩ := f3.rn
  obtain ⟨k1, k2, k3⟩ := f3.k65
  unfold fj_X5_save_17
  refine loopM_run (st := fun i => (nI i, wA (wA M3 (x + 65) (cpO (mA M3 (x + 65)) s g i)) (x + 62) g)) (N := 1330) ?_ (fun i hi => ?_) ?_ (FUn (by decide))
  · show _ = (nI 0, wA (wA M3 (x + 65) (cpO (mA M3 (x + 65)) s g 0)) (x + 62) g)
    rw [cpO_0, wA_id]; rfl
  · have c1 : mA (wA (wA M3 (x + 65) (cpO (mA M3 (x + 65)) s g i)) (x + 62) g) (x + 65) = cpO (mA M3 (x + 65)) s g i := by rw [mA_ne (by omega), wA_self]
    have c2 : wA (wA (wA M3 (x + 65) (cpO (mA M3 (x + 65)) s g i)) (x + 62) g) (x + 65) (cpO (mA M3 (x + 65)) s g (i + 1)) = wA (wA M3 (x + 65) (cpO (mA M3 (x + 65)) s g (i + 1))) (x + 62) g := by rw [wA_comm (show x + 62 ≠ x + 65 by omega), wA_again]
    simp (disch := omega) only [fc_X5_save_17, h1, h2, h3, h4, k1, k2, k3, gI, gR, gRn, sI_w, sR_w, gA, sA_w, gB, gBn, sBn_w, sB0_w, gL, sL_w, cK, bn, Option.bind_some, Option.map_some, nar9, inT, wA_self, wA_again, wB_self, wB_again, wL_self, wL_again, u1_self, nI_add, nI_mul, nI_sub, nI_div, nI_leT, nI_leF, nI_ltT, nI_ltF, nI_eqT, nI_eqF, nI_neg, nI_cl, lit_nI, nI_nlt0, if_true, if_false, if_pos, if_neg, true_and, and_true, not_false_eq_true, or_self, or_false, false_or, reduceIte, and_self, not_true_eq_false, ne_eq, mK_wI, mN_wI, mR_wI, mA_wI, mB_wI, mL_wI, mZ_wI, mK_wA, mN_wA, mI_wA, mR_wA, mB_wA, mL_wA, mZ_wA, mK_wB, mN_wB, mI_wB, mR_wB, mA_wB, mL_wB, mZ_wB, mK_wR, mN_wR, mI_wR, mA_wR, mB_wR, mL_wR, mZ_wR, mK_wL, mN_wL, mI_wL, mR_wL, mA_wL, mB_wL, mZ_wL, c1, cpO_step, c2]
  · have rn : Rn (wI (wA M3 (x + 65) (cpO (mA M3 (x + 65)) s g 1330)) 167 (x + 60) (nI b')) (x + 60) (x + 62) := f3.rn
    have g3 : gA 9 (x + 62) 3 (wA (wI (wA M3 (x + 65) (cpO (mA M3 (x + 65)) s g 1330)) 167 (x + 60) (nI b')) (x + 62) g) = some (nI m) := by
      rw [← hm]; exact gNow rn (i := 3) (by omega)
    have hl : (1330 : Int32) ≤ nI 1330 := by decide
    have gi : gI 6 167 (x + 60) (wA (wA M3 (x + 65) (cpO (mA M3 (x + 65)) s g 1330)) (x + 62) g) = some (nI b) := by
      unfold gI; rw [if_pos (show mK (wA (wA M3 (x + 65) (cpO (mA M3 (x + 65)) s g 1330)) (x + 62) g) (x + 60) = 6 from h1)]; exact congrArg some h167
    have si : sI 6 167 (x + 60) (nI b') (wA (wA M3 (x + 65) (cpO (mA M3 (x + 65)) s g 1330)) (x + 62) g) = some (wA (wI (wA M3 (x + 65) (cpO (mA M3 (x + 65)) s g 1330)) 167 (x + 60) (nI b')) (x + 62) g) := by
      rw [sI_w, if_pos (show mK (wA (wA M3 (x + 65) (cpO (mA M3 (x + 65)) s g 1330)) (x + 62) g) (x + 60) = 6 from h1)]; rfl
    simp only [fc_X5_save_17, fj_X5_save_48, hl, if_true, gi, hb, si, gW rn, g3, Option.bind_some, cK, kM rn, told_eq rn, bn, Option.map_some]
theorem case_49 (hI : Inv n x M) (hz : wfz M) (hn : n < 100000) {a : Int32} : fk_law_49 x (x + 60) (x + 68) a M (Inv (n + 1) x) := by
  obtain ⟨w, p, h, bb, hD⟩ := hI.d
  obtain ⟨R, C, Q, m, hx⟩ := hD.cx
  have hR := hx.Rle
  have hc := hx.2.2.2.1
  have fx := hI.fix
  have r137 : gRn 5 137 x M = some (x + 29) := gRn_ok fx.1.1 fx.1.2.2.2.2.1
  refine lw_gen (H := hnd1 0) (F := f_X4_save x a M) (G := f_X5_save (x + 60) a) hI ?_
  rcases rng a 2 (by omega) with ⟨s, hs, rfl⟩ | ha
  · obtain ⟨⟨rt, CC0⟩, d2, d3, d4, d5, d6, d7, d8⟩ := id hD
    obtain ⟨rt2, CC1, z1, z2⟩ := hD.1.z hz
    clear CC0
    obtain ⟨c1, ⟨p1, p2, p3, p4⟩, ⟨q1, q2, q3⟩, ⟨n1, n2⟩, ⟨nx, h1, h2, h3, h4, h5⟩, ⟨s1, s2⟩⟩ := CC1
    have gBs : gB 11 (x + 29) (nI s) M = some (mB M (x + 29) s) := by
      unfold gB; rw [if_pos ⟨fx.2.2.2.1.1, by rw [fx.2.2.2.1.2, inT hs (by omega)]; exact not_false⟩, nI_cl (by omega)]
    obtain ⟨⟨b', hb'⟩, eb, hbit⟩ := bit_s ⟨bb, s1⟩ ⟨s, hs⟩
    dsimp only at eb hbit
    have hbit' : ∀ s', s' < 2 → (bit b' s' ↔ (bit bb s' ∨ s' = s)) := fun s' hs' => by
      have := hbit ⟨s', hs'⟩
      unfold bit; rw [this]; exact or_congr Iff.rfl ⟨fun e => by have := congrArg Fin.val e; exact this, fun e => Fin.ext e⟩
    have pre : ∃ u pu M1, f_X4_save x (nI s) M = fj_X4_save_31 x u M1 ∧ Fr (fun a => a = x + 29) M M1 ∧ mB M1 (x + 29) = u1 (mB M (x + 29)) s (some u) ∧ WS M1 u pu ∧ u + 24 ≤ mZ M1 ∧ (rt2 (12 + s) = some u ∨ u = mZ M) := by
      cases e : mB M (x + 29) s with
      | some u =>
        have ru : rt2 (12 + s) = some u := by rw [← p4 s hs]; exact e
        obtain ⟨pu, wu⟩ := (q1 _ u ru).2
        refine ⟨u, pu, M, ?_, Fr.refl M, ?_, wu, z2 _ u ru, Or.inl ru⟩
        · simp only [f_X4_save, cK, hx.k5, if_true, if_false, bx_l, bx_r, bn, Option.bind_some, Option.map_some, b01_or, hx.w134, hx.r100, hx.r101, hx.r102, hx.i96, hx.i97, hx.i98, hx.i99, slot_ok hs, r137, gBs, e]
        · funext j; unfold u1; by_cases c : j = s
          · rw [if_pos c, c, e]
          · rw [if_neg c]
      | none =>
        obtain ⟨M1, e1, f1, w1, zz⟩ := X3_init (M := M) rfl
        have fx1 := fx.fr f1 z1
        have eB : mB M1 (x + 29) = mB M (x + 29) := ((f1.2 (x + 29) (by omega)).2 id).2.2.1
        have r137' : gRn 5 137 x M1 = some (x + 29) := gRn_ok fx1.1.1 fx1.1.2.2.2.2.1
        have sB : sBn 11 4 (x + 29) (nI s) (mZ M) M1 = some (wB M1 (x + 29) (u1 (mB M1 (x + 29)) s (some (mZ M)))) := by
          rw [sBn_w, if_pos ⟨fx1.2.2.2.1.1, w1.1.1, by rw [fx1.2.2.2.1.2, inT hs (by omega)]; exact not_false⟩, nI_cl (by omega)]
        refine ⟨mZ M, id, wB M1 (x + 29) (u1 (mB M1 (x + 29)) s (some (mZ M))), ?_, (f1.mono (fun a h => h.elim)).tr (Fr.wB rfl), by rw [wB_self, eB], ?_, by show mZ M + 24 ≤ mZ M1; omega, Or.inr rfl⟩
        · simp only [f_X4_save, cK, hx.k5, if_true, if_false, bx_l, bx_r, bn, Option.bind_some, Option.map_some, b01_or, hx.w134, hx.r100, hx.r101, hx.r102, hx.i96, hx.i97, hx.i98, hx.i99, slot_ok hs, r137, gBs, e, bnew, e1, r137', sB]
        · exact w1.fr (P := fun a => a = x + 29) (by omega) (Fr.wB rfl) ⟨by rw [mB_wB, if_neg (by omega)], by rw [mB_wB, if_neg (by omega)]⟩
    obtain ⟨u, pu, M1, epre, fr1, hB1, wu, zu, uo⟩ := pre
    have pu' : Place x u := uo.elim (fun e => (q1 _ u e).1) (fun e => by unfold Place; omega)
    have pl := pu'
    unfold Place at pl
    have gap : ∀ k y, k ≠ 12 + s → rt2 k = some y → u + 24 ≤ y ∨ y + 24 ≤ u := fun k y hk hy => uo.elim (fun e => q2 _ _ u y (fun h => hk h.symm) e hy) (fun e => by have := z2 k y hy; omega)
    have plw := (q1 0 w n1).1
    unfold Place at plw
    have relw : RelP M1 w p (mA M (x + 62)) := n2.fr (z2 0 w n1) fr1 (fun i hi => by omega)
    obtain ⟨M3, e3, fw, r3⟩ := X3_copyFrom wu relw (gap 0 w (by omega) n1) zu (Nat.le_trans (z2 0 w n1) fr1.1)
    have f13 : Fr (fun a => a = x + 29 ∨ inW u a) M M3 := (fr1.mono (fun a h => Or.inl h)).tr (fw.1.mono (fun a h => Or.inr h))
    have fx3 : Fix x M3 := fx.fr f13 z1
    have rel : ∀ k y q g, k ≠ 12 + s → rt2 k = some y → RelP M y q g → RelP M3 y q g := fun k y q g hk e r => r.fr (z2 k y e) f13 (fun i hi => by have := gap k y hk e; have py := (q1 k y e).1; unfold Place at py; unfold inW; omega)
    have at3 := fun a (ha : a < mZ M) (h29 : a ≠ x + 29) (hu : ¬ inW u a) => f13.at ha (show ¬ (a = x + 29 ∨ inW u a) from fun e => e.elim h29 hu)
    have hB3 : mB M3 (x + 29) = u1 (mB M (x + 29)) s (some u) := by
      rw [← hB1]; exact (fw.1.at (Nat.lt_of_lt_of_le (by omega) fr1.1) (by unfold inW; omega)).2.2.1
    have eR := fun k => (f13.2 x (by omega)).1.2.2 k
    have cl3 : Cls x w p M3 (mA M (x + 62)) (mA M (x + 64)) h (cpO (mA M (x + 65)) s (mA M (x + 62)) 1330) b' := by
      have hh : h ≤ 10 := h2
      refine ⟨u1 rt2 (12 + s) (some u), fx3, ⟨by rw [eR, p1, u1_ne _ _ (by omega)], by rw [eR, p2, u1_ne _ _ (by omega)], fun i hi => by rw [(at3 (x + 28) (by omega) (by omega) (by unfold inW; omega)).2.2.1, p3 i hi, u1_ne _ _ (by omega)], fun i hi => ?_⟩, ⟨fun k y e => ?_, fun k k' y y' hk e e' => ?_, ?_⟩, ⟨by rw [u1_ne _ _ (by omega)]; exact n1, rel 0 w p _ (by omega) n1 n2⟩, ⟨nx, h1, h2, by rw [(at3 (x + 27) (by omega) (by omega) (by unfold inW; omega)).1]; exact h3, by rw [(at3 (x + 27) (by omega) (by omega) (by unfold inW; omega)).1]; exact h4, fun j hj => ?_⟩, ⟨hb', fun s' hs' => ⟨fun hb => ?_, fun hb => ?_⟩⟩⟩
      · rw [hB3]
        by_cases c : i = s
        · rw [c, u1_self, u1_self]
        · rw [u1_ne _ _ c, u1_ne _ _ (by omega)]; exact p4 i hi
      · by_cases c : k = 12 + s
        · rw [c, u1_self] at e; cases e; exact ⟨pu', pu, r3.1⟩
        · rw [u1_ne _ _ c] at e
          obtain ⟨q', wq⟩ := (q1 k y e).2
          have py := (q1 k y e).1
          unfold Place at py
          have zy := z2 k y e
          have gy := gap k y c e
          exact ⟨(q1 k y e).1, q', wq.fr zy f13 ⟨(at3 (y + 1) (by omega) (by omega) (by unfold inW; omega)).2.2.1, (at3 (y + 2) (by omega) (by omega) (by unfold inW; omega)).2.2.1⟩⟩
      · by_cases c : k = 12 + s <;> by_cases c' : k' = 12 + s
        · omega
        · rw [c, u1_self] at e; rw [u1_ne _ _ c'] at e'; cases e; exact gap k' y' c' e'
        · rw [u1_ne _ _ c] at e; rw [c', u1_self] at e'; cases e'; exact (gap k y c e).symm
        · rw [u1_ne _ _ c] at e; rw [u1_ne _ _ c'] at e'; exact q2 k k' y y' hk e e'
      · obtain ⟨sw, e⟩ := q3; exact ⟨sw, by rw [u1_ne _ _ (by omega)]; exact e⟩
      · obtain ⟨y, q', e, r⟩ := h5 j hj
        exact ⟨y, q', by rw [u1_ne _ _ (by omega)]; exact e, rel _ y q' _ (by omega) e r⟩
      · by_cases c : s' = s
        · subst c
          refine ⟨u, pu, u1_self _ _ _, r3.congr (fun q hq => ?_)⟩
          unfold sl cpO; rw [if_pos (by omega)]; exact congrArg _ (by omega)
        · obtain ⟨y, q', e, r⟩ := (s2 s' hs').1 (((hbit' s' hs').mp hb).resolve_right c)
          refine ⟨y, q', by rw [u1_ne _ _ (by omega)]; exact e, (rel _ y q' _ (by omega) e r).congr (fun q hq => ?_)⟩
          unfold sl cpO; rw [if_neg (by omega)]
      · have c : s' ≠ s := fun e => hb ((hbit' s' hs').mpr (Or.inr e))
        rw [u1_ne _ _ (by omega)]
        exact (s2 s' hs').2 (fun e => hb ((hbit' s' hs').mpr (Or.inl e)))
    have ra : ∀ a, x + 60 ≤ a ∧ a < x + 69 → a < mZ M ∧ a ≠ x + 29 ∧ ¬ inW u a := fun a ha => by unfold inW; omega
    have rA : ∀ a, x + 60 ≤ a ∧ a < x + 69 → mA M3 a = mA M a ∧ ∀ f, mI M3 f a = mI M f a := fun a ha => ⟨(at3 a (ra a ha).1 (ra a ha).2.1 (ra a ha).2.2).2.1, (at3 a (ra a ha).1 (ra a ha).2.1 (ra a ha).2.2).1⟩
    refine Or.inl ⟨nI m, M3, ?_, fx3, fun fL z _ => ?_⟩
    · have fx1 : Fix x M1 := fx.fr fr1 z1
      have w134 : gRn 5 134 x M1 = some w := gRn_ok fx1.1.1 (((fr1.2 x (by omega)).1.2.2 _).trans (p1.trans n1))
      have k4 : (mK M1 u = 4) = True := eq_true wu.1.1
      have i99 : gI 4 99 u M3 = some (nI m) := by rw [WI r3.1, r3.2.1.2.2.2]; exact congrArg some hc.2.2.2.1
      rw [epre]
      simp only [fj_X4_save_31, w134, Option.bind_some, cK, k4, if_true, e3, i99]
    · let M5 := setZ (wL M3 (x + 68) fL) z
      have f5 : Fix x M5 := fx3
      have a65 : mA M5 (x + 65) = mA M (x + 65) := (rA (x + 65) (by omega)).1
      have a62 : mA M5 (x + 62) = mA M (x + 62) := (rA (x + 62) (by omega)).1
      have i167 : mI M5 167 (x + 60) = nI bb := ((rA (x + 60) (by omega)).2 _).trans d3
      have es := r_save (g := mA M (x + 62)) f5 hs hc.2.2.2.1 i167 eb
      rw [a65] at es
      have em : wA M5 (x + 62) (mA M (x + 62)) = M5 := by rw [← a62]; exact wA_id M5 (x + 62)
      rw [em] at es
      let M4 := wA (wI (wI (wA M5 (x + 65) (cpO (mA M (x + 65)) s (mA M (x + 62)) 1330)) 167 (x + 60) (nI b')) 161 (x + 60) 0) (x + 62) (mA M (x + 62))
      have e62 : mA M4 (x + 62) = mA M (x + 62) := wA_self _ _ _
      have e65 : mA M4 (x + 65) = cpO (mA M (x + 65)) s (mA M (x + 62)) 1330 := by
        show mA (wA (wI (wI (wA M5 (x + 65) _) 167 (x + 60) (nI b')) 161 (x + 60) 0) (x + 62) (mA M (x + 62))) (x + 65) = _
        rw [mA_ne (by omega)]; exact wA_self M5 _ _
      have eA4 : ∀ a, a ≠ x + 62 → a ≠ x + 65 → mA M4 a = mA M3 a := fun a ha ha2 => by
        show mA (wA (wI (wI (wA M5 (x + 65) _) 167 (x + 60) (nI b')) 161 (x + 60) 0) (x + 62) (mA M (x + 62))) a = _
        rw [mA_ne ha]; exact mA_ne (M := M5) ha2
      have eI4 : ∀ f a, mI M4 f a = if f = 161 ∧ a = x + 60 then 0 else if f = 167 ∧ a = x + 60 then nI b' else mI M3 f a := fun f a => by
        show mI (wI (wI (wA M5 (x + 65) _) 167 (x + 60) (nI b')) 161 (x + 60) 0) f a = _
        rw [mI_wI, mI_wI]; rfl
      have kp : Keep x M3 M4 := ⟨rfl, rfl, rfl, rfl, fun a _ _ _ _ h5 => eA4 a (by omega) (by omega), fun f a h1 h2 => by rw [eI4, if_neg (by omega), if_neg (by omega)]⟩
      have hx0 : ∀ f, mI M3 f x = mI M f x := fun f => (at3 x (by omega) (by omega) (by unfold inW; omega)).1 f
      refine ⟨M4, ?_, fx3, by rw [eI4, if_pos ⟨rfl, rfl⟩], wL_self _ _ _, w, p, h, b', ?_, ?_, ?_, ?_, ?_, ?_, ?_, ?_⟩
      · have in1 : f_X5_in (nI s) 0 1 M5 = some (1, _) := in_ok (n := 2) hs (by omega)
        show f_X5_save (x + 60) (nI s) M5 = _
        simp only [f_X5_save, in1, bn, e10, if_false]
        exact es
      · rw [e62, e65, eA4 _ (by omega) (by omega), (rA (x + 64) (by omega)).1]
        exact cl3.keep kp
      · rw [eI4, if_neg (by omega), if_neg (by omega), (rA (x + 60) (by omega)).2]; exact d2
      · rw [eI4, if_neg (by omega), if_pos ⟨rfl, rfl⟩]
      · refine d4.same (fun f => by rw [eI4, if_neg (by omega), if_neg (by omega)]; exact hx0 f) (fun f a1 a2 a3 a4 => by rw [eI4, if_neg (by omega), if_neg (by omega)]; exact (rA (x + 60) (by omega)).2 f) ?_ ?_ ?_ ?_
        · rw [eA4 _ (by omega) (by omega)]; exact (at3 (x + 1) (by omega) (by omega) (by unfold inW; omega)).2.1
        · rw [eA4 _ (by omega) (by omega)]; exact (at3 (x + 2) (by omega) (by omega) (by unfold inW; omega)).2.1
        · rw [eA4 _ (by omega) (by omega)]; exact (rA (x + 66) (by omega)).1
        · rw [eA4 _ (by omega) (by omega)]; exact (rA (x + 67) (by omega)).1
      · rw [eA4 _ (by omega) (by omega), (rA (x + 61) (by omega)).1]; exact d5
      · rw [e62]; exact d6.mono (by omega)
      · rw [eA4 _ (by omega) (by omega), (rA (x + 64) (by omega)).1]; exact fun j hj => (d7 j hj).mono (by omega)
      · rw [e65]
        intro s' hs' hb
        by_cases c : s' = s
        · subst c
          refine (d6.mono (by omega)).congr (fun q hq => ?_)
          unfold sl cpO; rw [if_pos (by omega)]; exact congrArg _ (by omega)
        · refine ((d8 s' hs' (((hbit' s' hs').mp hb).resolve_right c)).mono (by omega)).congr (fun q hq => ?_)
          unfold sl cpO; rw [if_neg (by omega)]
  · refine Or.inr (exc_of 0 1 (by decide) (fun M => rfl) ?_ (fun M2 f2 => ?_))
    · simp only [f_X4_save, cK, hx.k5, if_true, if_false, bx_l, bx_r, bn, Option.bind_some, Option.map_some, b01_or, hx.w134, hx.r100, hx.r101, hx.r102, hx.i96, hx.i97, hx.i98, hx.i99, slot_no ha]
    · have in1 : f_X5_in a 0 1 (wA M2 (x + 62) (mA M (x + 62))) = some (0, _) := in_no (n := 2) ha (by omega)
      simp only [f_X5_save, cK, kM f2.rn, if_true, if_false, bn, Option.bind_some, Option.map_some, told_eq f2.rn, refuse_eq f2.rn, refuses_eq f2.rn, e10, b01_or, true_or, or_true, in1]
end C10
