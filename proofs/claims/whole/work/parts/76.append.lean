/-! append -/
theorem b255 : ∀ j : Fin 8, (255#8)[j.val] = true := by decide
theorem bvs (a : BitVec 32) (s : Nat) (hs : s ≤ 24) : (a.sshiftRight s).signExtend 8 = ((a >>> s) &&& 255#32).signExtend 8 := by
  rw [BitVec.signExtend_eq_setWidth_of_le _ (by omega), BitVec.signExtend_eq_setWidth_of_le _ (by omega)]
  ext i hi
  have h1 : s + i < 32 := by omega
  have h255 : (255#8)[i] = true := b255 ⟨i, hi⟩
  simp [BitVec.getLsbD_sshiftRight, h1, h255]
  omega
def cbs (a : Int32) (i : Nat) : Int32 := (a.toUInt32 >>> ((nI (24 - 8 * i)).toUInt32 &&& Int32.toUInt32 31)).toInt32 &&& 255
theorem sh_0 (a : Int32) : (a >>> (24 &&& 31 : Int32)).toInt8 = (cbs a 0).toInt8 := Int8.toBitVec_inj.1 (bvs a.toBitVec 24 (by omega))
theorem sh_1 (a : Int32) : (a >>> (16 &&& 31 : Int32)).toInt8 = (cbs a 1).toInt8 := Int8.toBitVec_inj.1 (bvs a.toBitVec 16 (by omega))
theorem sh_2 (a : Int32) : (a >>> (8 &&& 31 : Int32)).toInt8 = (cbs a 2).toInt8 := Int8.toBitVec_inj.1 (bvs a.toBitVec 8 (by omega))
theorem sh_3 (a : Int32) : a.toInt8 = (cbs a 3).toInt8 := by
  refine Int8.toBitVec_inj.1 ?_
  have h := bvs a.toBitVec 0 (by omega)
  rw [BitVec.sshiftRight_zero] at h
  exact h
theorem and255 (v : Int32) : ∃ n, n < 256 ∧ v &&& 255 = nI n := by
  refine ⟨(v.toBitVec &&& 255#32).toNat, ?_, ?_⟩
  · rw [BitVec.toNat_and]; exact Nat.lt_of_le_of_lt Nat.and_le_right (by decide)
  · apply Int32.toBitVec_inj.1
    show v.toBitVec &&& 255#32 = BitVec.ofNat 32 _
    rw [BitVec.ofNat_toNat, BitVec.setWidth_eq]
theorem chn : ∀ n : Fin 256, (((nI n.val).toUInt32 % 65536).toInt32) = nI n.val ∧ vp_nar .char (nI n.val) = nI n.val := by decide +kernel
theorem cbs_ok (a : Int32) (i : Nat) : ((cbs a i).toUInt32 % 65536).toInt32 = cbs a i ∧ nar 8 (cbs a i) = cbs a i ∧ 0 ≤ (cbs a i).toInt ∧ (cbs a i).toInt ≤ 255 := by
  obtain ⟨n, hn, e⟩ := and255 ((a.toUInt32 >>> ((nI (24 - 8 * i)).toUInt32 &&& Int32.toUInt32 31)).toInt32)
  have e' : cbs a i = nI n := e
  obtain ⟨c1, c2⟩ := chn ⟨n, hn⟩
  rw [e', nI_toI (by omega)]
  exact ⟨c1, c2, by omega, by omega⟩
theorem nar7_of {u v : Int32} (h : u.toInt8 = v.toInt8) : nar 7 (u.toInt8.toInt32) = vp_nar .byte v := by
  rw [h]
  show (v.toInt8.toInt32).toInt8.toInt32 = v.toInt8.toInt32
  rw [Int8.toInt8_toInt32]
section AP
variable {n x : Nat} {M : Mem}
def wdC (f : Nat → Int32) (k : Nat) (a : Int32) : Nat → Nat → Int32
  | 0 => f
  | i + 1 => u1 (wdC f k a i) (k + i) (cbs a i)
def wdR (f : Nat → Int32) (k : Nat) (a : Int32) : Nat → Nat → Int32
  | 0 => f
  | i + 1 => u1 (wdR f k a i) (k + i) (vp_nar .byte (cbs a i))
def RB (f f' : Nat → Int32) (k : Nat) : Prop := ∀ i, i < k → (0 ≤ (f i).toInt ∧ (f i).toInt ≤ 255) ∧ f' i = vp_nar .byte (f i)
theorem RB.wd {f f' : Nat → Int32} {k : Nat} (h : RB f f' k) (a : Int32) : ∀ i, RB (wdC f k a i) (wdR f' k a i) (k + i) := by
  intro i
  induction i with
  | zero => exact h
  | succ i ih =>
    intro j hj
    unfold wdC wdR
    by_cases c : j = k + i
    · rw [c, u1_self, u1_self]; exact ⟨(cbs_ok a i).2.2, rfl⟩
    · rw [u1_ne _ _ c, u1_ne _ _ c]; exact ih j (by omega)
def cIn (x : Nat) (M : Mem) (f : Nat → Int32) (k : Nat) : Mem := wI (wA M (x + 1) f) 129 x (nI k)
def rIn (x : Nat) (M : Mem) (f : Nat → Int32) (k : Nat) : Mem := wI (wA M (x + 66) f) 169 (x + 60) (nI k)
def xsh (i : Nat) : Int32 := if i < 4 then nI (24 - 8 * i) else -8
theorem xsh_step : ∀ i : Fin 4, nI (24 - 8 * i.val) + -8 = xsh (i.val + 1) := by decide
theorem c_word (fx : Fix x M) {f : Nat → Int32} {k : Nat} (hk : k + 4 ≤ 600) {a : Int32} : f_X4_appendWord x a (cIn x M f k) = some (cIn x M (wdC f k a 4) (k + 4)) := by
  unfold f_X4_appendWord fj_X4_appendWord_3
  refine loopM_run (st := fun i => (xsh i, cIn x M (wdC f k a i) (k + i))) (N := 4) rfl (fun i hi => ?_) ?_ (FUn (by decide))
  · have e1 : xsh i = nI (24 - 8 * i) := if_pos hi
    have e2 := xsh_step ⟨i, hi⟩
    dsimp only at e2
    have k5 : mK (cIn x M (wdC f k a i) (k + i)) x = 5 := fx.1.1
    have g129 : ∀ f' l, gI 5 129 x (cIn x M f' l) = some (nI l) := fun f' l => by
      unfold gI; rw [if_pos (show mK (cIn x M f' l) x = 5 from fx.1.1)]; show some (mI (wI (wA M (x + 1) f') 129 x _) 129 x) = _; rw [mI_wI, if_pos ⟨rfl, rfl⟩]
    have r128 : gRn 5 128 x (cIn x M (wdC f k a i) (k + i)) = some (x + 1) := gRn_ok k5 fx.1.2.1
    obtain ⟨o1, o2, _⟩ := cbs_ok a i
    have sa : sA 8 (x + 1) (nI (k + i)) (((((a.toUInt32 >>> ((nI (24 - 8 * i)).toUInt32 &&& Int32.toUInt32 31)).toInt32) &&& 255).toUInt32 % 65536).toInt32) (cIn x M (wdC f k a i) (k + i)) = some (cIn x M (wdC f k a (i + 1)) (k + i)) := by
      rw [show (((((a.toUInt32 >>> ((nI (24 - 8 * i)).toUInt32 &&& Int32.toUInt32 31)).toInt32) &&& 255).toUInt32 % 65536).toInt32) = cbs a i from o1, sA_w, if_pos ⟨show mK (cIn x M (wdC f k a i) (k + i)) (x + 1) = 8 from fx.2.1.1, by rw [show mN (cIn x M (wdC f k a i) (k + i)) (x + 1) = 600 from fx.2.1.2.1, inT (by omega) (by omega)]; exact not_false⟩, nI_cl (by omega), o2]
      have em : mA (cIn x M (wdC f k a i) (k + i)) (x + 1) = wdC f k a i := wA_self M _ _
      rw [em]
      show some (wA (wI (wA M (x + 1) (wdC f k a i)) 129 x (nI (k + i))) (x + 1) (u1 (wdC f k a i) (k + i) (cbs a i))) = _
      rw [show wA (wI (wA M (x + 1) (wdC f k a i)) 129 x (nI (k + i))) (x + 1) (u1 (wdC f k a i) (k + i) (cbs a i)) = wI (wA (wA M (x + 1) (wdC f k a i)) (x + 1) (u1 (wdC f k a i) (k + i) (cbs a i))) 129 x (nI (k + i)) from rfl, wA_again]; rfl
    have si : sI 5 129 x (nI (k + i + 1)) (cIn x M (wdC f k a (i + 1)) (k + i)) = some (cIn x M (wdC f k a (i + 1)) (k + (i + 1))) := by
      rw [sI_w, if_pos (show mK (cIn x M (wdC f k a (i + 1)) (k + i)) x = 5 from fx.1.1)]
      exact congrArg some (wI_again _ _ _ _ _)
    have hlt : ¬ (nI (24 - 8 * i) < 0) := nI_pos (by omega)
    have ek : nI (k + i) + 1 = nI (k + i + 1) := nI_add _ 1
    dsimp only
    rw [e1]
    simp only [fc_X4_appendWord_3, hlt, if_false, r128, g129, sa, ek, si, e2, Option.bind_some]
  · have hlt : xsh 4 < 0 := by decide
    simp only [fc_X4_appendWord_3, hlt, if_true, Option.map_some]
theorem r_word (fx : Fix x M) {f : Nat → Int32} {k : Nat} (hk : k + 4 ≤ 600) {a : Int32} : f_X5_feeds (x + 60) a (rIn x M f k) = some (rIn x M (wdR f k a 4) (k + 4)) := by
  obtain ⟨g1, g2, g3, g4, g5, g6, g7, g8⟩ := fx.2.2.2.2.2.2.1
  obtain ⟨i1, i2, i3, i4, i5, i6, i7⟩ := fx.2.2.2.2.2.2.2.1
  have r168 : ∀ f', gRn 6 168 (x + 60) (rIn x M f' k) = some (x + 66) := fun f' => gRn_ok (M := rIn x M f' k) g1 g7
  have g169 : ∀ f', gI 6 169 (x + 60) (rIn x M f' k) = some (nI k) := fun f' => by
    unfold gI; rw [if_pos (show mK (rIn x M f' k) (x + 60) = 6 from g1)]; show some (mI (wI (wA M (x + 66) f') 169 (x + 60) _) 169 (x + 60)) = _; rw [mI_wI, if_pos ⟨rfl, rfl⟩]
  have sa : ∀ (i : Nat) (u : Int32), i < 4 → u.toInt8 = (cbs a i).toInt8 → sA 7 (x + 66) (nI (k + i)) (u.toInt8.toInt32) (rIn x M (wdR f k a i) k) = some (rIn x M (wdR f k a (i + 1)) k) := fun i u hi hu => by
    rw [sA_w, if_pos ⟨show mK (rIn x M (wdR f k a i) k) (x + 66) = 7 from i6.1, by rw [show mN (rIn x M (wdR f k a i) k) (x + 66) = 600 from i6.2, inT (by omega) (by omega)]; exact not_false⟩, nI_cl (by omega), nar7_of hu]
    have em : mA (rIn x M (wdR f k a i) k) (x + 66) = wdR f k a i := wA_self M _ _
    rw [em]
    show some (wA (wI (wA M (x + 66) (wdR f k a i)) 169 (x + 60) (nI k)) (x + 66) (u1 (wdR f k a i) (k + i) (vp_nar .byte (cbs a i)))) = _
    rw [show wA (wI (wA M (x + 66) (wdR f k a i)) 169 (x + 60) (nI k)) (x + 66) (u1 (wdR f k a i) (k + i) (vp_nar .byte (cbs a i))) = wI (wA (wA M (x + 66) (wdR f k a i)) (x + 66) (u1 (wdR f k a i) (k + i) (vp_nar .byte (cbs a i)))) 169 (x + 60) (nI k) from rfl, wA_again]; rfl
  have s0 := sa 0 _ (by omega) (sh_0 a)
  have s1 := sa 1 _ (by omega) (sh_1 a)
  have s2 := sa 2 _ (by omega) (sh_2 a)
  have s3 := sa 3 _ (by omega) (sh_3 a)
  have k1 : nI k + 1 = nI (k + 1) := nI_add k 1
  have k2 : nI k + 2 = nI (k + 2) := nI_add k 2
  have k3 : nI k + 3 = nI (k + 3) := nI_add k 3
  have k4 : nI k + 4 = nI (k + 4) := nI_add k 4
  have s0' : sA 7 (x + 66) (nI k) ((a >>> (24 &&& 31)).toInt8.toInt32) (rIn x M f k) = some (rIn x M (wdR f k a 1) k) := s0
  have si : sI 6 169 (x + 60) (nI (k + 4)) (rIn x M (wdR f k a 4) k) = some (rIn x M (wdR f k a 4) (k + 4)) := by
    rw [sI_w, if_pos (show mK (rIn x M (wdR f k a 4) k) (x + 60) = 6 from g1)]
    exact congrArg some (wI_again _ _ _ _ _)
  simp only [f_X5_feeds, r168, g169, Option.bind_some, s0', k1, s1, k2, s2, k3, s3, k4, si]
theorem case_0 (hI : Inv n x M) {a b c d e : Int32} : fk_law_0 x (x + 60) (x + 68) a b c d e M (Inv (n + 1) x) := by
  have fx := hI.fix
  obtain ⟨w, p, h, bb, a1, a2, a3, ⟨len, ol, b1, b2, b3, b4, b5, b6, b7, b8, b9, b10⟩, a5, a6, a7, a8⟩ := id hI
  refine lw_gen (H := hnd1 2) (F := f_X4_append x a b c d e M) (G := f_X5_append (x + 60) a b c d e) hI ?_
  have gi : gI 5 129 x M = some (nI len) := by unfold gI; rw [if_pos fx.1.1, b3]
  by_cases hl : len ≤ 580
  · have h580 : (nI len ≤ 580) = True := eq_true (nI_le (b := 580) hl (by omega))
    obtain ⟨l1, e1⟩ : ∃ l, l = len + 4 := ⟨_, rfl⟩
    obtain ⟨l2, e2⟩ : ∃ l, l = l1 + 4 := ⟨_, rfl⟩
    obtain ⟨l3, e3⟩ : ∃ l, l = l2 + 4 := ⟨_, rfl⟩
    obtain ⟨l4, e4⟩ : ∃ l, l = l3 + 4 := ⟨_, rfl⟩
    obtain ⟨l5, e5⟩ : ∃ l, l = l4 + 4 := ⟨_, rfl⟩
    let F5 := wdC (wdC (wdC (wdC (wdC (mA M (x + 1)) len a 4) l1 b 4) l2 c 4) l3 d 4) l4 e 4
    let G5 := wdR (wdR (wdR (wdR (wdR (mA M (x + 66)) len a 4) l1 b 4) l2 c 4) l3 d 4) l4 e 4
    have q1 := (show RB (mA M (x + 1)) (mA M (x + 66)) len from b9).wd a 4
    rw [← e1] at q1
    have q2 := q1.wd b 4
    rw [← e2] at q2
    have q3 := q2.wd c 4
    rw [← e3] at q3
    have q4 := q3.wd d 4
    rw [← e4] at q4
    have hRB := q4.wd e 4
    rw [← e5] at hRB
    have em : M = cIn x M (mA M (x + 1)) len := by
      unfold cIn; rw [wA_id, ← b3]
      show M = (mK M, mN M, up2 (mI M) 129 x (mI M 129 x), mR M, mA M, mB M, mL M, mZ M)
      rw [show up2 (mI M) 129 x (mI M 129 x) = mI M from by funext f a; unfold up2; by_cases q : f = 129 ∧ a = x <;> simp [q]]
    have c5 : ∀ f l, (mK (cIn x M f l) x = 5) = True := fun f l => eq_true fx.1.1
    refine Or.inl ⟨nI l5, cIn x M F5 l5, ?_, fx, fun fL z _ => ?_⟩
    · have g129 : ∀ f' l, gI 5 129 x (cIn x M f' l) = some (nI l) := fun f' l => by
        unfold gI; rw [if_pos (show mK (cIn x M f' l) x = 5 from fx.1.1)]; show some (mI (wI (wA M (x + 1) f') 129 x _) 129 x) = _; rw [mI_wI, if_pos ⟨rfl, rfl⟩]
      have w1 := c_word fx (f := mA M (x + 1)) (k := len) (a := a) (by omega)
      rw [← e1] at w1
      have w2 := c_word fx (f := wdC (mA M (x + 1)) len a 4) (k := l1) (a := b) (by omega)
      rw [← e2] at w2
      have w3 := c_word fx (f := wdC (wdC (mA M (x + 1)) len a 4) l1 b 4) (k := l2) (a := c) (by omega)
      rw [← e3] at w3
      have w4 := c_word fx (f := wdC (wdC (wdC (mA M (x + 1)) len a 4) l1 b 4) l2 c 4) (k := l3) (a := d) (by omega)
      rw [← e4] at w4
      have w5 := c_word fx (f := wdC (wdC (wdC (wdC (mA M (x + 1)) len a 4) l1 b 4) l2 c 4) l3 d 4) (k := l4) (a := e) (by omega)
      rw [← e5] at w5
      refine (congrArg (f_X4_append x a b c d e) em).trans ?_
      simp only [f_X4_append, g129, Option.bind_some, h580, if_true, cK, c5, w1, w2, w3, w4, w5]
      rfl
    · let M3 := setZ (wL (cIn x M F5 l5) (x + 68) fL) z
      have f3 : Fix x M3 := fx
      let M4 := wI (rIn x M3 G5 l5) 161 (x + 60) 0
      have m66 : mA M3 (x + 66) = mA M (x + 66) := mA_ne (M := M) (g := F5) (by omega)
      have i169 : mI M3 169 (x + 60) = nI len := by show mI (wI M 129 x (nI l5)) 169 (x + 60) = _; rw [mI_wI, if_neg (by omega)]; exact b4
      have em3 : M3 = rIn x M3 (mA M (x + 66)) len := by
        unfold rIn; rw [← m66, wA_id, ← i169]
        show M3 = (mK M3, mN M3, up2 (mI M3) 169 (x + 60) (mI M3 169 (x + 60)), mR M3, mA M3, mB M3, mL M3, mZ M3)
        rw [show up2 (mI M3) 169 (x + 60) (mI M3 169 (x + 60)) = mI M3 from by funext f a; unfold up2; by_cases q : f = 169 ∧ a = x + 60 <;> simp [q]]
      have c6 : ∀ f l, (mK (rIn x M3 f l) (x + 60) = 6) = True := fun f l => eq_true fx.rn.1
      have eA : ∀ y, y ≠ x + 1 → y ≠ x + 66 → mA M4 y = mA M y := fun y h1 h2 => by
        show mA (wA (wA M (x + 1) F5) (x + 66) G5) y = _
        rw [mA_ne h2, mA_ne h1]
      have eI : ∀ f y, mI M4 f y = if f = 161 ∧ y = x + 60 then 0 else if f = 169 ∧ y = x + 60 then nI l5 else if f = 129 ∧ y = x then nI l5 else mI M f y := fun f y => by
        show mI (wI (wI (wI M 129 x (nI l5)) 169 (x + 60) (nI l5)) 161 (x + 60) 0) f y = _
        rw [mI_wI, mI_wI, mI_wI]
      have kp : Keep x M M4 := ⟨rfl, rfl, rfl, rfl, fun y h1 h2 h3 h4 h5 => eA y h3 (by omega), fun f y h1 h2 => by rw [eI, if_neg (by omega), if_neg (by omega), if_neg (by omega)]⟩
      refine ⟨M4, ?_, fx, by rw [eI, if_pos ⟨rfl, rfl⟩], wL_self _ _ _, w, p, h, bb, ?_, ?_, ?_, ⟨l5, ol, by omega, b2, ?_, ?_, ?_, ?_, ?_, ?_, ?_, ?_⟩, ?_, ?_, ?_, ?_⟩
      · have g169 : ∀ f' l, gI 6 169 (x + 60) (rIn x M3 f' l) = some (nI l) := fun f' l => by
          unfold gI; rw [if_pos (show mK (rIn x M3 f' l) (x + 60) = 6 from fx.rn.1)]; show some (mI (wI (wA M3 (x + 66) f') 169 (x + 60) _) 169 (x + 60)) = _; rw [mI_wI, if_pos ⟨rfl, rfl⟩]
        have et : ∀ v, f_X5_told (x + 60) v (rIn x M3 G5 l5) = some (v, M4) := fun v => by
          simp only [f_X5_told, sI_w, c6, if_true, Option.bind_some]; rfl
        show f_X5_append (x + 60) a b c d e M3 = _
        have w1 := r_word f3 (f := mA M (x + 66)) (k := len) (a := a) (by omega)
        rw [← e1] at w1
        have w2 := r_word f3 (f := wdR (mA M (x + 66)) len a 4) (k := l1) (a := b) (by omega)
        rw [← e2] at w2
        have w3 := r_word f3 (f := wdR (wdR (mA M (x + 66)) len a 4) l1 b 4) (k := l2) (a := c) (by omega)
        rw [← e3] at w3
        have w4 := r_word f3 (f := wdR (wdR (wdR (mA M (x + 66)) len a 4) l1 b 4) l2 c 4) (k := l3) (a := d) (by omega)
        rw [← e4] at w4
        have w5 := r_word f3 (f := wdR (wdR (wdR (wdR (mA M (x + 66)) len a 4) l1 b 4) l2 c 4) l3 d 4) (k := l4) (a := e) (by omega)
        rw [← e5] at w5
        refine (congrArg (f_X5_append (x + 60) a b c d e) em3).trans ?_
        simp only [f_X5_append, g169, Option.bind_some, h580, if_true, cK, c6, w1, w2, w3, w4, w5]
        rw [show wdR (wdR (wdR (wdR (wdR (mA M (x + 66)) len a 4) l1 b 4) l2 c 4) l3 d 4) l4 e 4 = G5 from rfl, et (nI l5), bn_some]
      · rw [eA _ (by omega) (by omega), eA _ (by omega) (by omega), eA _ (by omega) (by omega)]; exact a1.keep kp
      · rw [eI, if_neg (by omega), if_neg (by omega), if_neg (by omega)]; exact a2
      · rw [eI, if_neg (by omega), if_neg (by omega), if_neg (by omega)]; exact a3
      · rw [eI, if_neg (by omega), if_neg (by omega), if_pos ⟨rfl, rfl⟩]
      · rw [eI, if_neg (by omega), if_pos ⟨rfl, rfl⟩]
      · rw [eI, if_neg (by omega), if_neg (by omega), if_neg (by omega)]; exact b5
      · rw [eI, if_neg (by omega), if_neg (by omega), if_neg (by omega)]; exact b6
      · rw [eI, eI, if_neg (by omega), if_neg (by omega), if_neg (by omega), if_neg (by omega), if_neg (by omega), if_neg (by omega)]; exact b7
      · rw [eI, eI, if_neg (by omega), if_neg (by omega), if_neg (by omega), if_neg (by omega), if_neg (by omega), if_neg (by omega)]; exact b8
      · have e1' : mA M4 (x + 1) = F5 := by
          show mA (wA (wA M (x + 1) F5) (x + 66) G5) (x + 1) = _
          rw [mA_ne (by omega), wA_self]
        have e66 : mA M4 (x + 66) = G5 := wA_self _ _ _
        rw [e1', e66]; exact hRB
      · rw [eA _ (by omega) (by omega), eA _ (by omega) (by omega)]; exact b10
      · rw [eA _ (by omega) (by omega)]; exact a5
      · rw [eA _ (by omega) (by omega)]; exact a6.mono (by omega)
      · rw [eA _ (by omega) (by omega)]; exact fun j hj => (a7 j hj).mono (by omega)
      · rw [eA _ (by omega) (by omega)]; exact fun s hs hb => (a8 s hs hb).mono (by omega)
  · have h580 : (nI len ≤ 580) = False := eq_false (nI_ge (a := 580) (by omega) (by omega))
    refine Or.inr ⟨2, 1, M, by decide, fun M => rfl, ?_, CSim.refl, fun M2 f2 eI _ => ⟨0, ?_⟩⟩
    · simp only [f_X4_append, gi, Option.bind_some, h580, if_false]
    · have gi6 : gI 6 169 (x + 60) (wA M2 (x + 62) (mA M (x + 62))) = some (nI len) := by
        unfold gI; rw [if_pos (show mK (wA M2 (x + 62) (mA M (x + 62))) (x + 60) = 6 from f2.rn.1)]; exact congrArg some ((eI 169 (by omega) (by omega)).trans b4)
      simp only [f_X5_append, cK, kM f2.rn, if_true, if_false, bn, Option.bind_some, Option.map_some, told_eq f2.rn, refuse_eq f2.rn, refuses_eq f2.rn, e10, b01_or, true_or, or_true, gi6, h580]
end AP
