theorem Wf.put {n : Nat} {g : Nat → Int32} (h : Wf n g) {t : Nat} {a : Nat → Int32} (ha : WFr (n + 1) a) : Wf (n + 1) (Jvm.Pilot.COfflineNotesLaw_law_r8929_57547b.put g t a) := by
  obtain ⟨⟨R, C, Q, m, c⟩, h2⟩ := h
  refine ⟨⟨R, C, Q, m, (put_lo (by omega)).trans c.1, (put_lo (by omega)).trans c.2.1, (put_lo (by omega)).trans c.2.2.1, (put_lo (by omega)).trans c.2.2.2.1, c.2.2.2.2⟩, fun u hu hv => ?_⟩
  rw [mcn_put] at hv
  by_cases q : u = t
  · subst q; exact ha.congr (fun i hi => row_put hi)
  · exact ((h2 u hu hv).mono (by omega)).congr (fun i hi => row_put_ne hi q)
theorem mcn_send {g : Nat → Int32} {r : Nat} (h : mcn g < 100) : mcn (sendG g r) = mcn g + 1 := by
  show (sendG g r 3).toNatClampNeg = mcn g + 1
  unfold sendG; rw [u1_self]; exact nI_cl (by omega)
theorem Wf.send {n : Nat} {g : Nat → Int32} (h : Wf n g) {r : Nat} (hr : r < 4) (hm : mcn g < 6) : Wf (n + 1) (sendG g r) := by
  obtain ⟨⟨R, C, Q, m, c⟩, h2⟩ := h
  have em := c.m
  have hlo : ∀ q, q < 3 → sendG g r q = g q := fun q hq => by unfold sendG; rw [u1_ne _ _ (by omega), put_lo (by omega), u1_ne _ _ (by omega)]
  refine ⟨⟨R, C, Q, m + 1, (hlo 0 (by omega)).trans c.1, (hlo 1 (by omega)).trans c.2.1, (hlo 2 (by omega)).trans c.2.2.1, by unfold sendG; rw [u1_self, em], c.2.2.2.2.1, c.2.2.2.2.2.1, c.2.2.2.2.2.2.1, c.2.2.2.2.2.2.2.1, by omega⟩, fun t ht hv => ?_⟩
  rw [mcn_send (by omega)] at hv
  by_cases q : t = 4 + mcn g
  · refine ((h2 r (by omega) (by omega)).mono (by omega)).congr (fun i hi => ?_)
    unfold sendG; rw [row_u1 (by omega), q, row_put hi]
  · refine ((h2 t ht (by omega)).mono (by omega)).congr (fun i hi => ?_)
    unfold sendG; rw [row_u1 (by omega), row_put_ne hi q, row_u1 (by omega)]
/-! append -/
theorem b255 : ∀ j : Fin 8, (255#8)[j.val] = true := by decide
theorem bvs (a : BitVec 32) (s : Nat) (hs : s ≤ 24) : (a.sshiftRight s).signExtend 8 = ((a >>> s) &&& 255#32).signExtend 8 := by
  rw [BitVec.signExtend_eq_setWidth_of_le _ (by omega), BitVec.signExtend_eq_setWidth_of_le _ (by omega)]
  ext i hi
  have h1 : s + i < 32 := by omega
  have h255 : (255#8)[i] = true := b255 ⟨i, hi⟩
  simp [BitVec.getLsbD_sshiftRight, h1, h255]
  omega
def cbs (a : Int32) (i : Nat) : Int32 := (a.toUInt32 >>> ((nI (24 - 8 * i)).toUInt32 &&& Int32.toUInt32 31)).toInt32 &&& 255
theorem sh_0 (a : Int32) : (a >>> (24 &&& 31 : Int32)).toInt8 = (cbs a 0).toInt8 := Int8.toBitVec_inj.1 (bvs a.toBitVec 24 (by omega))
theorem sh_1 (a : Int32) : (a >>> (16 &&& 31 : Int32)).toInt8 = (cbs a 1).toInt8 := Int8.toBitVec_inj.1 (bvs a.toBitVec 16 (by omega))
theorem sh_2 (a : Int32) : (a >>> (8 &&& 31 : Int32)).toInt8 = (cbs a 2).toInt8 := Int8.toBitVec_inj.1 (bvs a.toBitVec 8 (by omega))
theorem sh_3 (a : Int32) : a.toInt8 = (cbs a 3).toInt8 := by
  refine Int8.toBitVec_inj.1 ?_
  have h := bvs a.toBitVec 0 (by omega)
  rw [BitVec.sshiftRight_zero] at h
  exact h
theorem and255 (v : Int32) : ∃ n, n < 256 ∧ v &&& 255 = nI n := by
  refine ⟨(v.toBitVec &&& 255#32).toNat, ?_, ?_⟩
  · rw [BitVec.toNat_and]; exact Nat.lt_of_le_of_lt Nat.and_le_right (by decide)
  · apply Int32.toBitVec_inj.1
    show v.toBitVec &&& 255#32 = BitVec.ofNat 32 _
    rw [BitVec.ofNat_toNat, BitVec.setWidth_eq]
theorem chn : ∀ n : Fin 256, (((nI n.val).toUInt32 % 65536).toInt32) = nI n.val ∧ vp_nar .char (nI n.val) = nI n.val := by decide +kernel
theorem cbs_ok (a : Int32) (i : Nat) : ((cbs a i).toUInt32 % 65536).toInt32 = cbs a i ∧ nar 8 (cbs a i) = cbs a i ∧ 0 ≤ (cbs a i).toInt ∧ (cbs a i).toInt ≤ 255 := by
  obtain ⟨n, hn, e⟩ := and255 ((a.toUInt32 >>> ((nI (24 - 8 * i)).toUInt32 &&& Int32.toUInt32 31)).toInt32)
  have e' : cbs a i = nI n := e
  obtain ⟨c1, c2⟩ := chn ⟨n, hn⟩
  rw [e', nI_toI (by omega)]
  exact ⟨c1, c2, by omega, by omega⟩
section AP
variable {n x : Nat} {M : Mem}
def wdC (f : Nat → Int32) (k : Nat) (a : Int32) : Nat → Nat → Int32
  | 0 => f
  | i + 1 => u1 (wdC f k a i) (k + i) (cbs a i)
def cIn (x : Nat) (M : Mem) (f : Nat → Int32) (k : Nat) : Mem := wI (wA M (x + 1) f) 129 x (nI k)
def xsh (i : Nat) : Int32 := if i < 4 then nI (24 - 8 * i) else -8
theorem xsh_step : ∀ i : Fin 4, nI (24 - 8 * i.val) + -8 = xsh (i.val + 1) := by decide
theorem c_word (fx : Fix x M) {f : Nat → Int32} {k : Nat} (hk : k + 4 ≤ 600) {a : Int32} : f_X4_appendWord x a (cIn x M f k) = some (cIn x M (wdC f k a 4) (k + 4)) := by
  unfold f_X4_appendWord fj_X4_appendWord_3
  refine loopM_run (st := fun i => (xsh i, cIn x M (wdC f k a i) (k + i))) (N := 4) rfl (fun i hi => ?_) ?_ (FUn (by decide))
  · have e1 : xsh i = nI (24 - 8 * i) := if_pos hi
    have e2 := xsh_step ⟨i, hi⟩
    dsimp only at e2
    have k5 : mK (cIn x M (wdC f k a i) (k + i)) x = 5 := fx.1.1
    have g129 : ∀ f' l, gI 5 129 x (cIn x M f' l) = some (nI l) := fun f' l => by
      unfold gI; rw [if_pos (show mK (cIn x M f' l) x = 5 from fx.1.1)]; show some (mI (wI (wA M (x + 1) f') 129 x _) 129 x) = _; rw [mI_wI, if_pos ⟨rfl, rfl⟩]
    have r128 : gRn 5 128 x (cIn x M (wdC f k a i) (k + i)) = some (x + 1) := gRn_ok k5 fx.1.2.1
    obtain ⟨o1, o2, _⟩ := cbs_ok a i
    have sa : sA 8 (x + 1) (nI (k + i)) (((((a.toUInt32 >>> ((nI (24 - 8 * i)).toUInt32 &&& Int32.toUInt32 31)).toInt32) &&& 255).toUInt32 % 65536).toInt32) (cIn x M (wdC f k a i) (k + i)) = some (cIn x M (wdC f k a (i + 1)) (k + i)) := by
      rw [show (((((a.toUInt32 >>> ((nI (24 - 8 * i)).toUInt32 &&& Int32.toUInt32 31)).toInt32) &&& 255).toUInt32 % 65536).toInt32) = cbs a i from o1, sA_w, if_pos ⟨show mK (cIn x M (wdC f k a i) (k + i)) (x + 1) = 8 from fx.2.1.1, by rw [show mN (cIn x M (wdC f k a i) (k + i)) (x + 1) = 600 from fx.2.1.2.1, inT (by omega) (by omega)]; exact not_false⟩, nI_cl (by omega), o2]
      have em : mA (cIn x M (wdC f k a i) (k + i)) (x + 1) = wdC f k a i := wA_self M _ _
      rw [em]
      show some (wA (wI (wA M (x + 1) (wdC f k a i)) 129 x (nI (k + i))) (x + 1) (u1 (wdC f k a i) (k + i) (cbs a i))) = _
      rw [show wA (wI (wA M (x + 1) (wdC f k a i)) 129 x (nI (k + i))) (x + 1) (u1 (wdC f k a i) (k + i) (cbs a i)) = wI (wA (wA M (x + 1) (wdC f k a i)) (x + 1) (u1 (wdC f k a i) (k + i) (cbs a i))) 129 x (nI (k + i)) from rfl, wA_again]; rfl
    have si : sI 5 129 x (nI (k + i + 1)) (cIn x M (wdC f k a (i + 1)) (k + i)) = some (cIn x M (wdC f k a (i + 1)) (k + (i + 1))) := by
      rw [sI_w, if_pos (show mK (cIn x M (wdC f k a (i + 1)) (k + i)) x = 5 from fx.1.1)]
      exact congrArg some (wI_again _ _ _ _ _)
    have hlt : ¬ (nI (24 - 8 * i) < 0) := nI_pos (by omega)
    have ek : nI (k + i) + 1 = nI (k + i + 1) := nI_add _ 1
    dsimp only
    rw [e1]
    simp only [fc_X4_appendWord_3, hlt, if_false, r128, g129, sa, ek, si, e2, Option.bind_some]
  · have hlt : xsh 4 < 0 := by decide
    simp only [fc_X4_appendWord_3, hlt, if_true, Option.map_some]
end AP

/-! TOKENS: what the next one is; the class's reader -/
def blk (v : Int32) : Prop := v = 32 ∨ v = 10
theorem blk_dec (v : Int32) : blk v ∨ ¬ blk v := Classical.em _
def typ (v : Int32) : Int32 := if 97 ≤ v ∧ v ≤ 122 then 1 else if 48 ≤ v ∧ v ≤ 57 then 2 else if v = 59 then 3 else 4
noncomputable def skp (c : Nat → Int32) : Nat → Nat → Nat
  | i, 0 => i
  | i, n + 1 => @ite Nat (blk (c i)) (Classical.propDecidable _) (skp c (i + 1) n) i
def ext (c : Nat → Int32) (t : Int32) : Nat → Nat → Nat
  | i, 0 => i
  | i, n + 1 => if typ (c i) = t then ext c t (i + 1) n else i
theorem skp_le (c : Nat → Int32) (n : Nat) : ∀ i, i ≤ skp c i n ∧ skp c i n ≤ i + n := by
  induction n with
  | zero => intro i; exact ⟨Nat.le_refl i, Nat.le_refl i⟩
  | succ n ih =>
    intro i; unfold skp
    by_cases h : blk (c i)
    · rw [if_pos h]; have := ih (i + 1); omega
    · rw [if_neg h]; omega
theorem ext_le (c : Nat → Int32) (t : Int32) (n : Nat) : ∀ i, i ≤ ext c t i n ∧ ext c t i n ≤ i + n := by
  induction n with
  | zero => intro i; exact ⟨Nat.le_refl i, Nat.le_refl i⟩
  | succ n ih =>
    intro i; unfold ext
    by_cases h : typ (c i) = t
    · rw [if_pos h]; have := ih (i + 1); omega
    · rw [if_neg h]; omega
/-- the next token's first place, its end, its type -/
noncomputable def nS (c : Nat → Int32) (L e : Nat) : Nat := skp c e (L - e)
def tE (c : Nat → Int32) (L s : Nat) : Nat := if L ≤ s then s else if typ (c s) = 1 ∨ typ (c s) = 2 then ext c (typ (c s)) (s + 1) (L - (s + 1)) else s + 1
noncomputable def nE (c : Nat → Int32) (L e : Nat) : Nat := tE c L (nS c L e)
noncomputable def nT (c : Nat → Int32) (L : Nat) (ty : Int32) (e : Nat) : Int32 := if L ≤ nS c L e then 0 else if ((typ (c (nS c L e)) = 1 ∨ typ (c (nS c L e)) = 2) ∧ (ty = 1 ∨ ty = 2) ∧ nS c L e = e) ∨ (typ (c (nS c L e)) = 2 ∧ 2 < nE c L e - nS c L e) then 4 else typ (c (nS c L e))
theorem nS_le {c : Nat → Int32} {L e : Nat} (h : e ≤ L) : e ≤ nS c L e ∧ nS c L e ≤ L := by
  have := skp_le c (L - e) e; unfold nS; omega
theorem tE_le {c : Nat → Int32} {L s : Nat} (h : s ≤ L) : s ≤ tE c L s ∧ tE c L s ≤ L ∧ (s < L → s < tE c L s) := by
  unfold tE
  by_cases h1 : L ≤ s
  · rw [if_pos h1]; omega
  · rw [if_neg h1]
    by_cases h2 : typ (c s) = 1 ∨ typ (c s) = 2
    · rw [if_pos h2]; have := ext_le c (typ (c s)) (L - (s + 1)) (s + 1); omega
    · rw [if_neg h2]; omega
theorem nE_le {c : Nat → Int32} {L e : Nat} (h : e ≤ L) : nS c L e ≤ nE c L e ∧ nE c L e ≤ L := by
  have h1 := nS_le (c := c) h
  have h2 := tE_le (c := c) h1.2
  exact ⟨h2.1, h2.2.1⟩
theorem typ_r (v : Int32) : typ v = 1 ∨ typ v = 2 ∨ typ v = 3 ∨ typ v = 4 := by
  unfold typ
  by_cases h1 : 97 ≤ v ∧ v ≤ 122
  · rw [if_pos h1]; exact Or.inl rfl
  · rw [if_neg h1]; by_cases h2 : 48 ≤ v ∧ v ≤ 57
    · rw [if_pos h2]; exact Or.inr (Or.inl rfl)
    · rw [if_neg h2]; by_cases h3 : v = 59
      · rw [if_pos h3]; exact Or.inr (Or.inr (Or.inl rfl))
      · rw [if_neg h3]; exact Or.inr (Or.inr (Or.inr rfl))
/-- the class's parser: object pa, text ta, world w; type, start, end, error -/
def PS (N : Mem) (pa ta L w : Nat) (c : Nat → Int32) (ty : Int32) (st en : Nat) (ek eo : Int32) : Prop := (mK N pa = 2 ∧ mR N 32 pa = some ta ∧ mI N 33 pa = nI L ∧ mR N 34 pa = some w) ∧ (mK N ta = 8 ∧ L ≤ mN N ta ∧ L ≤ 1000 ∧ ∀ i, i < L → mA N ta i = c i) ∧ mI N 35 pa = ty ∧ mI N 36 pa = nI st ∧ mI N 37 pa = nI en ∧ mI N 38 pa = ek ∧ mI N 39 pa = eo
/-- int fields of one object changed alone -/
def FI (pa : Nat) (N N' : Mem) : Prop := mK N' = mK N ∧ mN N' = mN N ∧ mR N' = mR N ∧ mA N' = mA N ∧ mB N' = mB N ∧ mL N' = mL N ∧ mZ N' = mZ N ∧ ∀ f a, a ≠ pa → mI N' f a = mI N f a
theorem FI.refl {pa : Nat} {N : Mem} : FI pa N N := ⟨rfl, rfl, rfl, rfl, rfl, rfl, rfl, fun _ _ _ => rfl⟩
theorem FI.wI {pa : Nat} {N : Mem} {f : Nat} {v : Int32} : FI pa N (wI N f pa v) := ⟨rfl, rfl, rfl, rfl, rfl, rfl, rfl, fun g a h => by rw [mI_wI, if_neg (fun e => h e.2)]⟩
theorem FI.trans {pa : Nat} {N N' N2 : Mem} (h : FI pa N N') (k : FI pa N' N2) : FI pa N N2 := by
  obtain ⟨a1, a2, a3, a4, a5, a6, a7, a8⟩ := h
  obtain ⟨b1, b2, b3, b4, b5, b6, b7, b8⟩ := k
  exact ⟨b1.trans a1, b2.trans a2, b3.trans a3, b4.trans a4, b5.trans a5, b6.trans a6, b7.trans a7, fun f a h => (b8 f a h).trans (a8 f a h)⟩
section TK
variable {N : Mem} {pa ta L w : Nat} {c : Nat → Int32} {ty : Int32} {st en : Nat} {ek eo : Int32}
theorem PS.gI (h : PS N pa ta L w c ty st en ek eo) {f : Nat} : gI 2 f pa N = some (mI N f pa) := by unfold Jvm.Pilot.COfflineNotesLaw_law_r8929_57547b.gI; rw [if_pos h.1.1]
theorem PS.sI (h : PS N pa ta L w c ty st en ek eo) {f : Nat} {v : Int32} : sI 2 f pa v N = some (wI N f pa v) := by rw [sI_w, if_pos h.1.1]
theorem PS.txt (h : PS N pa ta L w c ty st en ek eo) : gRn 2 32 pa N = some ta := gRn_ok h.1.1 h.1.2.1
theorem PS.chr (h : PS N pa ta L w c ty st en ek eo) {i : Nat} (hi : i < L) : gA 8 ta (nI i) N = some (c i) := by
  unfold gA
  rw [if_pos ⟨h.2.1.1, by rw [inT (show i < mN N ta by have := h.2.1.2.1; omega) (by have := h.2.1.2.2.1; omega)]; exact not_false⟩, nI_cl (by have := h.2.1.2.2.1; omega), h.2.1.2.2.2 i hi]
theorem PS.set (h : PS N pa ta L w c ty st en ek eo) {ty' : Int32} {st' en' : Nat} {ek' eo' : Int32} : PS (wI (wI (wI (wI (wI N 35 pa ty') 36 pa (nI st')) 37 pa (nI en')) 38 pa ek') 39 pa eo') pa ta L w c ty' st' en' ek' eo' := by
  obtain ⟨⟨a1, a2, a3, a4⟩, ⟨b1, b2, b3, b4⟩, _⟩ := h
  refine ⟨⟨a1, a2, ?_, a4⟩, ⟨b1, b2, b3, b4⟩, ?_, ?_, ?_, ?_, ?_⟩ <;> simp [mI_wI, a3]
theorem PS.wI35 (h : PS N pa ta L w c ty st en ek eo) {v : Int32} : PS (wI N 35 pa v) pa ta L w c v st en ek eo := by
  obtain ⟨⟨a1, a2, a3, a4⟩, ⟨b1, b2, b3, b4⟩, c1, c2, c3, c4, c5⟩ := h
  refine ⟨⟨a1, a2, ?_, a4⟩, ⟨b1, b2, b3, b4⟩, ?_, ?_, ?_, ?_, ?_⟩ <;> simp [mI_wI, a3, c2, c3, c4, c5]
theorem PS.wI36 (h : PS N pa ta L w c ty st en ek eo) {v : Nat} : PS (wI N 36 pa (nI v)) pa ta L w c ty v en ek eo := by
  obtain ⟨⟨a1, a2, a3, a4⟩, ⟨b1, b2, b3, b4⟩, c1, c2, c3, c4, c5⟩ := h
  refine ⟨⟨a1, a2, ?_, a4⟩, ⟨b1, b2, b3, b4⟩, ?_, ?_, ?_, ?_, ?_⟩ <;> simp [mI_wI, a3, c1, c3, c4, c5]
theorem PS.wI37 (h : PS N pa ta L w c ty st en ek eo) {v : Nat} : PS (wI N 37 pa (nI v)) pa ta L w c ty st v ek eo := by
  obtain ⟨⟨a1, a2, a3, a4⟩, ⟨b1, b2, b3, b4⟩, c1, c2, c3, c4, c5⟩ := h
  refine ⟨⟨a1, a2, ?_, a4⟩, ⟨b1, b2, b3, b4⟩, ?_, ?_, ?_, ?_, ?_⟩ <;> simp [mI_wI, a3, c1, c2, c4, c5]
theorem PS.wI38 (h : PS N pa ta L w c ty st en ek eo) {v : Int32} : PS (wI N 38 pa v) pa ta L w c ty st en v eo := by
  obtain ⟨⟨a1, a2, a3, a4⟩, ⟨b1, b2, b3, b4⟩, c1, c2, c3, c4, c5⟩ := h
  refine ⟨⟨a1, a2, ?_, a4⟩, ⟨b1, b2, b3, b4⟩, ?_, ?_, ?_, ?_, ?_⟩ <;> simp [mI_wI, a3, c1, c2, c3, c5]
theorem PS.wI39 (h : PS N pa ta L w c ty st en ek eo) {v : Int32} : PS (wI N 39 pa v) pa ta L w c ty st en ek v := by
  obtain ⟨⟨a1, a2, a3, a4⟩, ⟨b1, b2, b3, b4⟩, c1, c2, c3, c4, c5⟩ := h
  refine ⟨⟨a1, a2, ?_, a4⟩, ⟨b1, b2, b3, b4⟩, ?_, ?_, ?_, ?_, ?_⟩ <;> simp [mI_wI, a3, c1, c2, c3, c4]
theorem PS.i35 (h : PS N pa ta L w c ty st en ek eo) : Jvm.Pilot.COfflineNotesLaw_law_r8929_57547b.gI 2 35 pa N = some ty := by rw [h.gI, h.2.2.1]
theorem PS.i36 (h : PS N pa ta L w c ty st en ek eo) : Jvm.Pilot.COfflineNotesLaw_law_r8929_57547b.gI 2 36 pa N = some (nI st) := by rw [h.gI, h.2.2.2.1]
theorem PS.i37 (h : PS N pa ta L w c ty st en ek eo) : Jvm.Pilot.COfflineNotesLaw_law_r8929_57547b.gI 2 37 pa N = some (nI en) := by rw [h.gI, h.2.2.2.2.1]
theorem PS.i38 (h : PS N pa ta L w c ty st en ek eo) : Jvm.Pilot.COfflineNotesLaw_law_r8929_57547b.gI 2 38 pa N = some ek := by rw [h.gI, h.2.2.2.2.2.1]
theorem PS.i33 (h : PS N pa ta L w c ty st en ek eo) : Jvm.Pilot.COfflineNotesLaw_law_r8929_57547b.gI 2 33 pa N = some (nI L) := by rw [h.gI, h.1.2.2.1]
theorem PS.k2 (h : PS N pa ta L w c ty st en ek eo) : (mK N pa = 2) = True := eq_true h.1.1
theorem PS.L1 (h : PS N pa ta L w c ty st en ek eo) : L ≤ 1000 := h.2.1.2.2.1
theorem x1_blank (v : Int32) (N : Mem) : f_X1_isBlank v N = some (b01 (blk v), N) := by
  by_cases h1 : v = 32
  · rw [b01_t (show blk v from Or.inl h1)]; simp only [f_X1_isBlank, fj_X1_isBlank_12, fj_X1_isBlank_17, h1, if_true, or_true]
  · by_cases h2 : v = 10
    · rw [b01_t (show blk v from Or.inr h2)]; simp only [f_X1_isBlank, fj_X1_isBlank_12, fj_X1_isBlank_17, h1, h2, if_true, if_false, or_true]
      rfl
    · rw [b01_f (show ¬ blk v from fun h => h.elim h1 h2)]; simp only [f_X1_isBlank, fj_X1_isBlank_17, h1, h2, if_true, if_false, true_or]
theorem x1_typ (v : Int32) (N : Mem) : f_X1_typeOf v N = some (typ v, N) := by
  unfold typ
  have l14 : fj_X1_typeOf_14 v N = some (if 48 ≤ v ∧ v ≤ 57 then 2 else if v = 59 then 3 else 4, N) := by
    have l28 : fj_X1_typeOf_28 v N = some (if v = 59 then 3 else 4, N) := by
      by_cases h : v = 59
      · simp only [fj_X1_typeOf_28, fj_X1_typeOf_39, h, if_true]
      · simp only [fj_X1_typeOf_28, fj_X1_typeOf_39, h, if_false]
    by_cases h1 : v < 48
    · rw [if_neg (fun e => Int32.not_lt.mpr e.1 h1), ← l28]; simp only [fj_X1_typeOf_14, h1, if_true]
    · by_cases h2 : 57 < v
      · rw [if_neg (fun e => Int32.not_lt.mpr e.2 h2), ← l28]; simp only [fj_X1_typeOf_14, h1, h2, if_true, if_false]
      · rw [if_pos ⟨Int32.not_lt.mp h1, Int32.not_lt.mp h2⟩]; simp only [fj_X1_typeOf_14, h1, h2, if_false]
  by_cases h1 : v < 97
  · rw [if_neg (fun e => Int32.not_lt.mpr e.1 h1), ← l14]; simp only [f_X1_typeOf, h1, if_true]
  · by_cases h2 : 122 < v
    · rw [if_neg (fun e => Int32.not_lt.mpr e.2 h2), ← l14]; simp only [f_X1_typeOf, h1, h2, if_true, if_false]
    · rw [if_pos ⟨Int32.not_lt.mp h1, Int32.not_lt.mp h2⟩]; simp only [f_X1_typeOf, h1, h2, if_false]
theorem x1_failed (h : PS N pa ta L w c ty st en ek eo) : f_X1_failed pa N = some (b01 (ek ≠ 0), N) := by
  by_cases e : ek = 0
  · rw [b01_f (fun q => q e)]; simp only [f_X1_failed, fj_X1_failed_12, h.i38, Option.bind_some, e, if_true, true_or]
  · rw [b01_t e]; simp only [f_X1_failed, fj_X1_failed_12, h.i38, Option.bind_some, e, if_false, or_true, if_true]
theorem x1_fail0 (h : PS N pa ta L w c ty st en 0 eo) {k : Int32} : ∃ N', f_X1_fail pa k N = some N' ∧ FI pa N N' ∧ PS N' pa ta L w c ty st en k (nI st) := by
  refine ⟨wI (wI N 38 pa k) 39 pa (nI st), ?_, FI.wI.trans FI.wI, h.wI38.wI39⟩
  have e := x1_failed h
  rw [b01_f (fun q => q rfl)] at e
  simp only [f_X1_fail, fj_X1_fail_20, cK, h.k2, if_true, e, bn, h.sI, Option.bind_some, (h.wI38 (v := k)).i36, (h.wI38 (v := k)).sI]
theorem x1_fail1 (h : PS N pa ta L w c ty st en ek eo) (he : ek ≠ 0) {k : Int32} : f_X1_fail pa k N = some N := by
  have e := x1_failed h
  rw [b01_t he] at e
  simp only [f_X1_fail, fj_X1_fail_20, cK, h.k2, if_true, e, bn, e10, if_false]
end TK
theorem skp_first (c : Nat → Int32) {α : Type} (f : Nat → α) [DecidablePred (fun i => ¬ blk (c i))] (n : Nat) : ∀ i, (firstF (fun i => ¬ blk (c i)) i n).elim (f (i + n)) f = f (skp c i n) := by
  induction n with
  | zero => intro i; rfl
  | succ n ih =>
    intro i; unfold firstF skp
    by_cases h : blk (c i)
    · rw [if_neg (fun e => e h), if_pos h, ← ih (i + 1), show i + (n + 1) = i + 1 + n by omega]
    · rw [if_pos h, if_neg h]; rfl
theorem ext_first (c : Nat → Int32) (t : Int32) {α : Type} (f : Nat → α) (n : Nat) : ∀ i, (firstF (fun i => ¬ typ (c i) = t) i n).elim (f (i + n)) f = f (ext c t i n) := by
  induction n with
  | zero => intro i; rfl
  | succ n ih =>
    intro i; unfold firstF ext
    by_cases h : typ (c i) = t
    · rw [if_neg (fun e => e h), if_pos h, ← ih (i + 1), show i + (n + 1) = i + 1 + n by omega]
    · rw [if_pos h, if_neg h]; rfl
section TN
variable {N : Mem} {pa ta L w : Nat} {c : Nat → Int32} {ty : Int32} {st en : Nat} {ek eo : Int32}
theorem x1_201 (h : PS N pa ta L w c ty st en ek eo) (hs : st ≤ en) (he : en ≤ L) {x1 : Int32} {e0 : Nat} {run : Prop} (hL : e0 ≤ L) {x3 : Int32} (h3 : x3 = b01 run) {g : Prop} (h1 : x1 = b01 g) : ∃ N', fj_X1_nextToken_201 pa x1 (nI e0) x3 N = some N' ∧ FI pa N N' ∧ PS N' pa ta L w c (@ite Int32 ((run ∧ g ∧ st = e0) ∨ (ty = 2 ∧ 2 < en - st)) (Classical.propDecidable _) 4 ty) st en ek eo := by
  have L1 := h.L1
  subst h3 h1
  have t222 : ∀ s0 : Int32, (s0 = 0 ∨ s0 = 1) → ∃ N', fj_X1_nextToken_222 pa s0 N = some N' ∧ FI pa N N' ∧ PS N' pa ta L w c (@ite Int32 (s0 = 1 ∨ (ty = 2 ∧ 2 < en - st)) (Classical.propDecidable _) 4 ty) st en ek eo := by
    intro s0 hs0
    have i4 : fj_X1_nextToken_250 pa N = some (wI N 35 pa 4) := by simp only [fj_X1_nextToken_250, fj_X1_nextToken_255, h.sI, Option.bind_some]
    rcases hs0 with rfl | rfl
    · by_cases c2 : ty = 2
      · subst c2
        have sub : nI en - nI st = nI (en - st) := nI_sub hs
        by_cases c3 : 2 < en - st
        · rw [if_pos (Or.inr ⟨rfl, c3⟩)]
          have l2 : ¬ (nI (en - st) ≤ 2) := nI_ge (a := 2) c3 (by omega)
          refine ⟨wI N 35 pa 4, ?_, FI.wI, h.wI35⟩
          simp only [fj_X1_nextToken_222, if_true, h.i35, h.i36, h.i37, Option.bind_some, sub, l2, if_false, i4]
        · rw [if_neg (fun e => e.elim (fun e => absurd e (by decide)) (fun e => c3 e.2))]
          have l2 : nI (en - st) ≤ 2 := nI_le (b := 2) (by omega) (by omega)
          refine ⟨N, ?_, FI.refl, h⟩
          simp only [fj_X1_nextToken_222, fj_X1_nextToken_255, if_true, h.i35, h.i36, h.i37, Option.bind_some, sub, l2]
      · rw [if_neg (fun e => e.elim (fun e => absurd e (by decide)) (fun e => c2 e.1))]
        refine ⟨N, ?_, FI.refl, h⟩
        simp only [fj_X1_nextToken_222, fj_X1_nextToken_255, if_true, h.i35, Option.bind_some, c2, if_false]
    · rw [if_pos (Or.inl rfl)]
      refine ⟨wI N 35 pa 4, ?_, FI.wI, h.wI35⟩
      simp only [fj_X1_nextToken_222, e10, if_false, i4]
  have t221 : ∃ N', fj_X1_nextToken_221 pa N = some N' ∧ FI pa N N' ∧ PS N' pa ta L w c (@ite Int32 (ty = 2 ∧ 2 < en - st) (Classical.propDecidable _) 4 ty) st en ek eo := by
    obtain ⟨N', a1, a2, a3⟩ := t222 0 (Or.inl rfl)
    refine ⟨N', a1, a2, ?_⟩
    by_cases q : ty = 2 ∧ 2 < en - st
    · rw [if_pos (Or.inr q)] at a3; rw [if_pos q]; exact a3
    · rw [if_neg (fun e => e.elim (fun e => absurd e (by decide)) q)] at a3; rw [if_neg q]; exact a3
  have no : ¬ (run ∧ g ∧ st = e0) → (∃ N', fj_X1_nextToken_221 pa N = some N' ∧ FI pa N N' ∧ PS N' pa ta L w c (@ite Int32 ((run ∧ g ∧ st = e0) ∨ (ty = 2 ∧ 2 < en - st)) (Classical.propDecidable _) 4 ty) st en ek eo) := by
    intro hn
    obtain ⟨N', a1, a2, a3⟩ := t221
    refine ⟨N', a1, a2, ?_⟩
    by_cases q : ty = 2 ∧ 2 < en - st
    · rw [if_pos q] at a3; rw [if_pos (Or.inr q)]; exact a3
    · rw [if_neg q] at a3; rw [if_neg (fun e => e.elim hn q)]; exact a3
  by_cases r : run
  · by_cases gg : g
    · by_cases e : st = e0
      · obtain ⟨N', a1, a2, a3⟩ := t222 1 (Or.inr rfl)
        rw [if_pos (Or.inl rfl)] at a3
        refine ⟨N', ?_, a2, by rw [if_pos (Or.inl ⟨r, gg, e⟩)]; exact a3⟩
        rw [← a1, e.symm]
        simp only [fj_X1_nextToken_201, b01_t r, b01_t gg, e10, if_false, h.i36, Option.bind_some, if_true]
      · obtain ⟨N', a1, a2, a3⟩ := no (fun q => e q.2.2)
        refine ⟨N', ?_, a2, a3⟩
        have ne : (nI st = nI e0) = False := nI_eqF e (by omega) (by omega)
        rw [← a1]
        simp only [fj_X1_nextToken_201, b01_t r, b01_t gg, e10, if_false, h.i36, Option.bind_some, ne]
    · obtain ⟨N', a1, a2, a3⟩ := no (fun q => gg q.2.1)
      refine ⟨N', ?_, a2, a3⟩
      rw [← a1]
      simp only [fj_X1_nextToken_201, b01_t r, b01_f gg, e10, if_false, if_true]
  · obtain ⟨N', a1, a2, a3⟩ := no (fun q => r q.1)
    refine ⟨N', ?_, a2, a3⟩
    rw [← a1]
    simp only [fj_X1_nextToken_201, b01_f r, if_true]
theorem wI_again' (M : Mem) (f a : Nat) (v u : Int32) : wI (wI M f a v) f a u = wI M f a u := wI_again M f a v u
theorem x1_132 (h : PS N pa ta L w c ty st en ek eo) (hs : st ≤ en) (he : en ≤ L) {e0 : Nat} (hL : e0 ≤ L) {g : Prop} {x1 : Int32} (h1 : x1 = b01 g) : ∃ N', fj_X1_nextToken_132 pa x1 (nI e0) N = some N' ∧ FI pa N N' ∧ PS N' pa ta L w c (@ite Int32 (((ty = 1 ∨ ty = 2) ∧ g ∧ st = e0) ∨ (ty = 2 ∧ 2 < (if ty = 1 ∨ ty = 2 then ext c ty en (L - en) else en) - st)) (Classical.propDecidable _) 4 ty) st (if ty = 1 ∨ ty = 2 then ext c ty en (L - en) else en) ek eo := by
  have L1 := h.L1
  have h132 : fj_X1_nextToken_132 pa x1 (nI e0) N = fj_X1_nextToken_154 pa x1 (nI e0) (b01 (ty = 1 ∨ ty = 2)) N := by
    by_cases c1 : ty = 1
    · rw [b01_t (Or.inl c1)]; simp only [fj_X1_nextToken_132, fj_X1_nextToken_148, fj_X1_nextToken_153, h.i35, Option.bind_some, c1, if_true]
    · by_cases c2 : ty = 2
      · rw [b01_t (Or.inr c2)]; simp only [fj_X1_nextToken_132, fj_X1_nextToken_148, fj_X1_nextToken_153, h.i35, Option.bind_some, c1, c2, if_true, if_false]
        rfl
      · rw [b01_f (fun e => e.elim c1 c2)]; simp only [fj_X1_nextToken_132, fj_X1_nextToken_153, h.i35, Option.bind_some, c1, c2, if_false]
  rw [h132]
  by_cases r : ty = 1 ∨ ty = 2
  · rw [if_pos r, b01_t r]
    have key : fj_X1_nextToken_154 pa x1 (nI e0) 1 N = fj_X1_nextToken_201 pa x1 (nI e0) 1 (wI N 37 pa (nI (ext c ty en (L - en)))) := by
      unfold fj_X1_nextToken_154
      have eN : N = wI N 37 pa (nI en) := by
        have := h.2.2.2.2.1
        show N = (mK N, mN N, up2 (mI N) 37 pa (nI en), mR N, mA N, mB N, mL N, mZ N)
        rw [show up2 (mI N) 37 pa (nI en) = mI N from by funext f a; unfold up2; by_cases q : f = 37 ∧ a = pa; rw [if_pos q, q.1, q.2, this]; rw [if_neg q]]
      refine Eq.trans (loopM_find (st := fun i => wI N 37 pa (nI i)) (k := en) (N := L) (fun i => ¬ typ (c i) = ty) (hit := fun i => fj_X1_nextToken_201 pa x1 (nI e0) 1 (wI N 37 pa (nI i))) (miss := fj_X1_nextToken_201 pa x1 (nI e0) 1 (wI N 37 pa (nI (en + (L - en))))) eN (fun i hi hl q => ?_) (fun i hi hl q => ?_) ?_ he (FUn (by omega))) (ext_first c ty (fun i => fj_X1_nextToken_201 pa x1 (nI e0) 1 (wI N 37 pa (nI i))) (L - en) en)
      · have h2 := h.wI37 (v := i)
        have hl' : ¬ (nI L ≤ nI i) := nI_ge hl (by omega)
        have q' : typ (c i) = ty := Classical.not_not.mp q
        have ei : nI i + 1 = nI (i + 1) := nI_add i 1
        simp only [fc_X1_nextToken_154, e10, if_false, h2.i37, h2.i33, Option.bind_some, hl', h2.txt, h2.chr hl, x1_typ, bn, h2.i35, q', if_true, h2.sI, ei, wI_again]
      · have h2 := h.wI37 (v := i)
        have hl' : ¬ (nI L ≤ nI i) := nI_ge hl (by omega)
        simp only [fc_X1_nextToken_154, e10, if_false, h2.i37, h2.i33, Option.bind_some, hl', h2.txt, h2.chr hl, x1_typ, bn, h2.i35, q]
      · have h2 := h.wI37 (v := L)
        have hl' : nI L ≤ nI L := Int32.le_refl _
        rw [show en + (L - en) = L by omega]
        simp only [fc_X1_nextToken_154, e10, if_false, h2.i37, h2.i33, Option.bind_some, hl', if_true]
    have hx := ext_le c ty (L - en) en
    obtain ⟨N', a1, a2, a3⟩ := x1_201 (h.wI37 (v := ext c ty en (L - en))) (by omega) (by omega) (run := True) hL (b01_t trivial).symm h1
    refine ⟨N', by rw [key]; exact a1, FI.wI.trans a2, ?_⟩
    by_cases q : ((ty = 1 ∨ ty = 2) ∧ g ∧ st = e0) ∨ (ty = 2 ∧ 2 < ext c ty en (L - en) - st)
    · rw [if_pos (q.elim (fun q => Or.inl ⟨trivial, q.2⟩) Or.inr)] at a3; rw [if_pos q]; exact a3
    · rw [if_neg (fun e => q (e.elim (fun e => Or.inl ⟨r, e.2⟩) Or.inr))] at a3; rw [if_neg q]; exact a3
  · rw [if_neg r, b01_f r]
    have key : fj_X1_nextToken_154 pa x1 (nI e0) 0 N = fj_X1_nextToken_201 pa x1 (nI e0) 0 N := by
      unfold fj_X1_nextToken_154
      refine loopM_run (st := fun _ => N) (N := 0) rfl (fun i hi => by omega) ?_ (FUn (by decide))
      simp only [fc_X1_nextToken_154, if_true]
    obtain ⟨N', a1, a2, a3⟩ := x1_201 h hs he (run := False) hL (b01_f id).symm h1
    refine ⟨N', by rw [key]; exact a1, a2, ?_⟩
    by_cases q : ((ty = 1 ∨ ty = 2) ∧ g ∧ st = e0) ∨ (ty = 2 ∧ 2 < en - st)
    · exact absurd (q.elim (fun q => q.1) (fun q => Or.inr q.1)) r
    · rw [if_neg (fun e => e.elim (fun e => e.1) (fun e => r (Or.inr e.1)))] at a3; rw [if_neg q]; exact a3
theorem x1_82 (h : PS N pa ta L w c ty st en 0 eo) (hs : st ≤ L) {e0 : Nat} (hL : e0 ≤ L) {g : Prop} {x1 : Int32} (h1 : x1 = b01 g) : ∃ N', fj_X1_nextToken_82 pa x1 (nI e0) N = some N' ∧ FI pa N N' ∧ PS N' pa ta L w c (@ite Int32 (L ≤ st) (Classical.propDecidable _) 0 (@ite Int32 (((typ (c st) = 1 ∨ typ (c st) = 2) ∧ g ∧ st = e0) ∨ (typ (c st) = 2 ∧ 2 < tE c L st - st)) (Classical.propDecidable _) 4 (typ (c st)))) st (tE c L st) 0 eo := by
  have L1 := h.L1
  by_cases q : L ≤ st
  · obtain rfl : st = L := by omega
    have hh := (h.wI37 (v := st)).wI35 (v := 0)
    obtain ⟨N', a1, a2, a3⟩ := x1_132 hh (Nat.le_refl _) (Nat.le_refl _) hL h1
    have r0 : ¬ ((0 : Int32) = 1 ∨ (0 : Int32) = 2) := by decide
    rw [if_neg r0, if_neg (by rintro (⟨a, _⟩ | ⟨a, _⟩); exact r0 a; exact absurd a (by decide))] at a3
    refine ⟨N', ?_, (FI.wI.trans FI.wI).trans a2, ?_⟩
    · rw [← a1]
      have hl : nI st ≤ nI st := Int32.le_refl _
      have h2 := h.wI37 (v := st)
      simp only [fj_X1_nextToken_82, h.i36, Option.bind_some, h.sI, h2.sI, hh.i36, hh.i33, hl, if_true]
    · have te : tE c st st = st := by unfold tE; rw [if_pos (Nat.le_refl st)]
      rw [if_pos (Nat.le_refl st), te]; exact a3
  · have hlt : st < L := by omega
    have h2 := h.wI37 (v := st)
    have h3 := h2.wI35 (v := 0)
    have h4 := h3.wI35 (v := typ (c st))
    have h5 := h4.wI37 (v := st + 1)
    obtain ⟨N', a1, a2, a3⟩ := x1_132 h5 (by omega) (by omega) hL h1
    have te : tE c L st = if typ (c st) = 1 ∨ typ (c st) = 2 then ext c (typ (c st)) (st + 1) (L - (st + 1)) else st + 1 := by unfold tE; rw [if_neg q]
    refine ⟨N', ?_, (((FI.wI.trans FI.wI).trans FI.wI).trans FI.wI).trans a2, ?_⟩
    · rw [← a1]
      have hl : ¬ (nI L ≤ nI st) := nI_ge hlt (by omega)
      have es : nI st + 1 = nI (st + 1) := nI_add st 1
      simp only [fj_X1_nextToken_82, h.i36, Option.bind_some, h.sI, h2.sI, h3.i36, h3.i33, hl, if_false, h3.txt, h3.chr hlt, x1_typ, bn, h3.sI, h4.i37, es, h4.sI]
    · rw [if_neg q, te]; exact a3
theorem x1_next (h : PS N pa ta L w c ty st en 0 eo) (he : en ≤ L) : ∃ N', f_X1_nextToken pa N = some N' ∧ FI pa N N' ∧ PS N' pa ta L w c (nT c L ty en) (nS c L en) (nE c L en) 0 eo := by
  have L1 := h.L1
  have hf := x1_failed h
  rw [b01_f (fun q => q rfl)] at hf
  have h29 : f_X1_nextToken pa N = fj_X1_nextToken_29 pa (b01 (ty = 1 ∨ ty = 2)) N := by
    by_cases c1 : ty = 1
    · rw [b01_t (Or.inl c1)]; simp only [f_X1_nextToken, fj_X1_nextToken_24, cK, h.k2, if_true, hf, bn, h.i35, Option.bind_some, c1]
    · by_cases c2 : ty = 2
      · rw [b01_t (Or.inr c2)]; simp only [f_X1_nextToken, fj_X1_nextToken_24, cK, h.k2, if_true, hf, bn, h.i35, Option.bind_some, c1, c2, if_false]
        rfl
      · rw [b01_f (fun e => e.elim c1 c2)]; simp only [f_X1_nextToken, cK, h.k2, if_true, hf, bn, h.i35, Option.bind_some, c1, c2, if_false]
  have hS := nS_le (c := c) he
  have key : fj_X1_nextToken_29 pa (b01 (ty = 1 ∨ ty = 2)) N = fj_X1_nextToken_82 pa (b01 (ty = 1 ∨ ty = 2)) (nI en) (wI N 36 pa (nI (nS c L en))) := by
    have e1 : fj_X1_nextToken_29 pa (b01 (ty = 1 ∨ ty = 2)) N = fj_X1_nextToken_43 pa (b01 (ty = 1 ∨ ty = 2)) (nI en) (wI N 36 pa (nI en)) := by
      simp only [fj_X1_nextToken_29, h.i37, Option.bind_some, h.sI]
    rw [e1]
    unfold fj_X1_nextToken_43 nS
    haveI : DecidablePred (fun i => ¬ blk (c i)) := fun _ => Classical.propDecidable _
    refine Eq.trans (loopM_find (st := fun i => wI N 36 pa (nI i)) (k := en) (N := L) (fun i => ¬ blk (c i)) (hit := fun i => fj_X1_nextToken_82 pa (b01 (ty = 1 ∨ ty = 2)) (nI en) (wI N 36 pa (nI i))) (miss := fj_X1_nextToken_82 pa (b01 (ty = 1 ∨ ty = 2)) (nI en) (wI N 36 pa (nI (en + (L - en))))) rfl (fun i hi hl q => ?_) (fun i hi hl q => ?_) ?_ he (FUn (by omega))) (skp_first c (fun i => fj_X1_nextToken_82 pa (b01 (ty = 1 ∨ ty = 2)) (nI en) (wI N 36 pa (nI i))) (L - en) en)
    · have h2 := h.wI36 (v := i)
      have hl' : ¬ (nI L ≤ nI i) := nI_ge hl (by omega)
      have q' : blk (c i) := Classical.not_not.mp q
      have ei : nI i + 1 = nI (i + 1) := nI_add i 1
      simp only [fc_X1_nextToken_43, h2.i36, h2.i33, Option.bind_some, hl', if_false, h2.txt, h2.chr hl, x1_blank, b01_t q', bn, e10, h2.sI, ei, wI_again]
    · have h2 := h.wI36 (v := i)
      have hl' : ¬ (nI L ≤ nI i) := nI_ge hl (by omega)
      simp only [fc_X1_nextToken_43, h2.i36, h2.i33, Option.bind_some, hl', if_false, h2.txt, h2.chr hl, x1_blank, b01_f q, bn, if_true]
    · have h2 := h.wI36 (v := L)
      have hl' : nI L ≤ nI L := Int32.le_refl _
      rw [show en + (L - en) = L by omega]
      simp only [fc_X1_nextToken_43, h2.i36, h2.i33, Option.bind_some, hl', if_true]
  obtain ⟨N', a1, a2, a3⟩ := x1_82 (h.wI36 (v := nS c L en)) hS.2 he (g := ty = 1 ∨ ty = 2) rfl
  refine ⟨N', by rw [h29, key]; exact a1, FI.wI.trans a2, ?_⟩
  unfold nT nE
  by_cases q : L ≤ nS c L en
  · rw [if_pos q] at a3 ⊢; exact a3
  · rw [if_neg q] at a3 ⊢
    by_cases q2 : ((typ (c (nS c L en)) = 1 ∨ typ (c (nS c L en)) = 2) ∧ (ty = 1 ∨ ty = 2) ∧ nS c L en = en) ∨ (typ (c (nS c L en)) = 2 ∧ 2 < tE c L (nS c L en) - nS c L en)
    · rw [if_pos q2] at a3; rw [if_pos q2]; exact a3
    · rw [if_neg q2] at a3; rw [if_neg q2]; exact a3
theorem x1_nextF (h : PS N pa ta L w c ty st en ek eo) (he : ek ≠ 0) : f_X1_nextToken pa N = some N := by
  have hf := x1_failed h
  rw [b01_t he] at hf
  simp only [f_X1_nextToken, cK, h.k2, if_true, hf, bn, e10, if_false]
end TN

/-! WHAT A TEXT SAYS: an error and its place, or what the reference holds in the end; a cursor is the last token's type and end -/
abbrev ER : Type := Int32 × Nat
abbrev Cur : Type := Int32 × Nat
abbrev GF : Type := Nat → Int32
def sb {α β : Type} (o : ER ⊕ α) (f : α → ER ⊕ β) : ER ⊕ β := match o with
  | .inl e => .inl e
  | .inr v => f v
theorem sb_inr {α β : Type} {o : ER ⊕ α} {f : α → ER ⊕ β} {y : β} (h : sb o f = .inr y) : ∃ v, o = .inr v ∧ f v = .inr y := by
  cases o with
  | inl e => cases h
  | inr v => exact ⟨v, rfl, h⟩
noncomputable def cif {α : Type} (P : Prop) (a b : α) : α := @ite α P (Classical.propDecidable P) a b
theorem cif_t {α : Type} {P : Prop} {a b : α} (h : P) : cif P a b = a := if_pos h
theorem cif_f {α : Type} {P : Prop} {a b : α} (h : ¬ P) : cif P a b = b := if_neg h
def nuV (c : GF) (s : Nat) : Nat → Int32
  | 0 => 0
  | n + 1 => (nuV c s n * 10 + c (s + n)) - 48
noncomputable def uT (c : GF) (L : Nat) (q : Cur) : Int32 := nT c L q.1 q.2
noncomputable def uS (c : GF) (L : Nat) (q : Cur) : Nat := nS c L q.2
noncomputable def uE (c : GF) (L : Nat) (q : Cur) : Nat := nE c L q.2
noncomputable def uN (c : GF) (L : Nat) (q : Cur) : Cur := (uT c L q, uE c L q)
noncomputable def uV (c : GF) (L : Nat) (q : Cur) : Int32 := nuV c (uS c L q) (uE c L q - uS c L q)
noncomputable def numR (c : GF) (L : Nat) (q : Cur) (lo hi : Int32) : ER ⊕ Int32 := cif (uT c L q = 2) (cif (lo ≤ uV c L q ∧ uV c L q ≤ hi) (.inr (uV c L q)) (.inl (2, uS c L q))) (.inl (1, uS c L q))
noncomputable def tagR (c : GF) (L : Nat) (q : Cur) : ER ⊕ Int32 := cif (uT c L q = 1 ∧ uE c L q - uS c L q = 1 ∧ c (uS c L q) < 113) (.inr (c (uS c L q) - 97)) (.inl (1, uS c L q))
def isW (c : GF) (L : Nat) (w : Nat) (q : Cur) : Prop := uT c L q = 1 ∧ uE c L q - uS c L q = sLEN.getD w 0 ∧ ∀ i, i < sLEN.getD w 0 → c (uS c L q + i) = jByt w i
abbrev tn (v : Int32) : Nat := v.toNatClampNeg
def cntG (g : GF) (part r k : Nat) (a : Int32) : GF := put g r (u1 (row g r) (part + (4 * k + r)) (row g r (part + (4 * k + r)) + a))
noncomputable def lCnt (c : GF) (L : Nat) (part : Nat) (g : GF) (q : Cur) : ER ⊕ (GF × Cur) := sb (numR c L q 0 (g 0 - 1)) fun r => sb (numR c L (uN c L q) 0 (g 1 - 1)) fun k => sb (numR c L (uN c L (uN c L q)) 1 99) fun a => .inr (cntG g part (tn r) (tn k) a, uN c L (uN c L (uN c L q)))
noncomputable def lAdd (c : GF) (L : Nat) (g : GF) (q : Cur) : ER ⊕ (GF × Cur) := sb (numR c L q 0 (g 0 - 1)) fun r => sb (tagR c L (uN c L q)) fun t => .inr (put g (tn r) (newN (row g (tn r)) (36 + 4 * tn t) (tn r) 0 4), uN c L (uN c L q))
noncomputable def lRem (c : GF) (L : Nat) (g : GF) (q : Cur) : ER ⊕ (GF × Cur) := sb (numR c L q 0 (g 0 - 1)) fun r => sb (tagR c L (uN c L q)) fun t => if lve (row g (tn r)) (36 + 4 * tn t) = 0 then .inl (3, uS c L (uN c L q)) else .inr (put g (tn r) (zap (row g (tn r)) (36 + 4 * tn t) 4), uN c L (uN c L q))
noncomputable def lWri (c : GF) (L : Nat) (g : GF) (q : Cur) : ER ⊕ (GF × Cur) := sb (numR c L q 0 (g 0 - 1)) fun r => sb (numR c L (uN c L q) 0 (g 2 - 1)) fun k => sb (numR c L (uN c L (uN c L q)) 0 99) fun a => .inr (put g (tn r) (newN (row g (tn r)) (100 + 4 * tn k) (tn r) a 4), uN c L (uN c L (uN c L q)))
noncomputable def lMer (c : GF) (L : Nat) (g : GF) (q : Cur) : ER ⊕ (GF × Cur) := sb (numR c L q 0 (g 0 - 1)) fun r => sb (numR c L (uN c L q) 0 (g 0 - 1)) fun s => .inr (put g (tn r) (absR (row g (tn r)) (row g (tn s))), uN c L (uN c L q))
noncomputable def lSen (c : GF) (L : Nat) (g : GF) (q : Cur) : ER ⊕ (GF × Cur) := if g 3 = 6 then .inl (4, uS c L q) else sb (numR c L (uN c L q) 0 (g 0 - 1)) fun r => .inr (sendG g (tn r), uN c L (uN c L q))
noncomputable def lDel (c : GF) (L : Nat) (g : GF) (q : Cur) : ER ⊕ (GF × Cur) := sb (numR c L q 0 (g 3 - 1)) fun s => sb (numR c L (uN c L q) 0 (g 0 - 1)) fun r => .inr (put g (tn r) (absR (row g (tn r)) (row g (4 + tn s))), uN c L (uN c L q))
/-- a line, from its word on -/
noncomputable def lineR (c : GF) (L : Nat) (g : GF) (q : Cur) : ER ⊕ (GF × Cur) :=
  cif (isW c L 2 q) (lCnt c L 4 g (uN c L q)) (cif (isW c L 3 q) (lCnt c L 20 g (uN c L q)) (cif (isW c L 4 q) (lAdd c L g (uN c L q)) (cif (isW c L 5 q) (lRem c L g (uN c L q)) (cif (isW c L 6 q) (lWri c L g (uN c L q)) (cif (isW c L 7 q) (lMer c L g (uN c L q)) (cif (isW c L 8 q) (lSen c L g q) (cif (isW c L 9 q) (lDel c L g (uN c L q)) (.inl (1, uS c L q)))))))))
/-- the lines behind the first: at most n of them -/
noncomputable def linesR (c : GF) (L : Nat) : Nat → GF → Cur → ER ⊕ GF
  | 0, g, _ => .inr g
  | n + 1, g, q => cif (uT c L q = 0) (.inr g) (cif (uT c L q = 3) (sb (lineR c L g (uN c L q)) fun y => linesR c L n y.1 y.2) (.inl (1, uS c L q)))
def hdG (z : GF) (a b d : Int32) : GF := fun q => if q = 0 then a else if q = 1 then b else if q = 2 then d else z q
def cur0 : Cur := (0, 0)
noncomputable def headR (c : GF) (L : Nat) (z : GF) : ER ⊕ (GF × Cur) := cif (isW c L 1 cur0) (sb (numR c L (uN c L cur0) 1 4) fun a => sb (numR c L (uN c L (uN c L cur0)) 0 4) fun b => sb (numR c L (uN c L (uN c L (uN c L cur0))) 0 4) fun d => .inr (hdG z a b d, uN c L (uN c L (uN c L (uN c L cur0))))) (.inl (1, uS c L cur0))
noncomputable def textR (c : GF) (L : Nat) (z : GF) : ER ⊕ GF := sb (headR c L z) fun y => linesR c L (L + 1) y.1 y.2
section SP
variable {c : GF} {L : Nat} {q : Cur}
theorem uN_le (h : q.2 ≤ L) : q.2 ≤ uS c L q ∧ uS c L q ≤ (uN c L q).2 ∧ (uN c L q).2 ≤ L := by
  have h1 := nS_le (c := c) h
  have h2 := nE_le (c := c) h
  exact ⟨h1.1, h2.1, h2.2⟩
theorem uT_0 (h : q.2 ≤ L) (hk : uT c L q ≠ 0) : uS c L q < L ∧ uS c L q < (uN c L q).2 := by
  have h1 := nS_le (c := c) h
  have : ¬ L ≤ nS c L q.2 := fun e => hk (by unfold uT nT; rw [if_pos e])
  exact ⟨by show nS c L q.2 < L; omega, (tE_le (c := c) h1.2).2.2 (by omega)⟩
theorem uT_w (hk : uT c L q = 1 ∨ uT c L q = 2) : uS c L q < L ∧ typ (c (uS c L q)) = uT c L q := by
  unfold uT nT at hk ⊢
  by_cases h1 : L ≤ nS c L q.2
  · rw [if_pos h1] at hk; rcases hk with e | e <;> exact absurd e (by decide)
  · rw [if_neg h1] at hk ⊢
    by_cases h2 : ((typ (c (nS c L q.2)) = 1 ∨ typ (c (nS c L q.2)) = 2) ∧ (q.1 = 1 ∨ q.1 = 2) ∧ nS c L q.2 = q.2) ∨ (typ (c (nS c L q.2)) = 2 ∧ 2 < nE c L q.2 - nS c L q.2)
    · rw [if_pos h2] at hk; rcases hk with e | e <;> exact absurd e (by decide)
    · rw [if_neg h2]; exact ⟨by show nS c L q.2 < L; omega, rfl⟩
theorem uT_2 (hk : uT c L q = 2) : uE c L q - uS c L q ≤ 2 := by
  have h0 := (uT_w (Or.inr hk)).2
  rw [hk] at h0
  refine Nat.le_of_not_lt fun h => ?_
  unfold uT nT at hk
  have h1 : ¬ L ≤ nS c L q.2 := fun e => by rw [if_pos e] at hk; exact absurd hk (by decide)
  rw [if_neg h1, if_pos (Or.inr ⟨h0, h⟩)] at hk
  exact absurd hk (by decide)
theorem ext_all (c : GF) (t : Int32) (n : Nat) : ∀ i j, i ≤ j → j < ext c t i n → typ (c j) = t := by
  induction n with
  | zero => intro i j h1 h2; unfold ext at h2; omega
  | succ n ih =>
    intro i j h1 h2
    unfold ext at h2
    by_cases h : typ (c i) = t
    · rw [if_pos h] at h2
      by_cases e : j = i
      · rw [e]; exact h
      · exact ih (i + 1) j (by omega) h2
    · rw [if_neg h] at h2; omega
/-- every letter of a word is one -/
theorem uT_all (hk : uT c L q = 1 ∨ uT c L q = 2) {j : Nat} (h1 : uS c L q ≤ j) (h2 : j < uE c L q) : typ (c j) = uT c L q := by
  obtain ⟨h3, h4⟩ := uT_w hk
  have h5 : ¬ L ≤ nS c L q.2 := by show ¬ L ≤ uS c L q; omega
  have h6 : typ (c (nS c L q.2)) = 1 ∨ typ (c (nS c L q.2)) = 2 := by rw [show typ (c (nS c L q.2)) = uT c L q from h4]; exact hk
  by_cases e : j = uS c L q
  · rw [e]; exact h4
  · unfold uE nE tE at h2
    rw [if_neg h5, if_pos h6] at h2
    rw [← h4]
    exact ext_all c _ _ _ j (by show nS c L q.2 + 1 ≤ j; unfold uS at h1 e; omega) h2
theorem numR_inr {lo hi v : Int32} (h : numR c L q lo hi = .inr v) : uT c L q = 2 ∧ lo ≤ v ∧ v ≤ hi ∧ v = uV c L q := by
  unfold numR at h
  by_cases h1 : uT c L q = 2
  · rw [cif_t h1] at h
    by_cases h2 : lo ≤ uV c L q ∧ uV c L q ≤ hi
    · rw [cif_t h2] at h; cases h; exact ⟨h1, h2.1, h2.2, rfl⟩
    · rw [cif_f h2] at h; cases h
  · rw [cif_f h1] at h; cases h
theorem num_ix {n : Nat} {v : Int32} (hn : n < 2147483648) (h : numR c L q 0 (nI n - 1) = .inr v) : ∃ k, k < n ∧ v = nI k := by
  obtain ⟨_, h1, h2, _⟩ := numR_inr h
  obtain ⟨j, hj, rfl⟩ := nI_of (x := v) (Int32.not_lt.mpr h1)
  refine ⟨j, ?_, rfl⟩
  rw [i32_le, nI_m1 hn, nI_toI (by omega)] at h2
  omega
theorem num_4 {lo n : Nat} {v : Int32} (hn : n < 1000) (hlo : lo < 1000) (h : numR c L q (nI lo) (nI n) = .inr v) : ∃ k, lo ≤ k ∧ k ≤ n ∧ v = nI k := by
  obtain ⟨_, h1, h2, _⟩ := numR_inr h
  have h0 : ¬ v < 0 := by rw [i32_lt, i32_0]; rw [i32_le, nI_toI (by omega)] at h1; omega
  obtain ⟨j, hj, rfl⟩ := nI_of (x := v) h0
  rw [i32_le, nI_toI (by omega), nI_toI (by omega)] at h1 h2
  exact ⟨j, by omega, by omega, rfl⟩
theorem tagR_inr {v : Int32} (h : tagR c L q = .inr v) : (uT c L q = 1 ∧ uE c L q - uS c L q = 1 ∧ c (uS c L q) < 113) ∧ v = c (uS c L q) - 97 := by
  unfold tagR at h
  by_cases h1 : uT c L q = 1 ∧ uE c L q - uS c L q = 1 ∧ c (uS c L q) < 113
  · rw [cif_t h1] at h; cases h; exact ⟨h1, rfl⟩
  · rw [cif_f h1] at h; cases h
theorem typ_1 {v : Int32} (h : typ v = 1) : 97 ≤ v ∧ v ≤ 122 := by
  unfold typ at h
  by_cases h1 : 97 ≤ v ∧ v ≤ 122
  · exact h1
  · rw [if_neg h1] at h
    by_cases h2 : 48 ≤ v ∧ v ≤ 57
    · rw [if_pos h2] at h; exact absurd h (by decide)
    · rw [if_neg h2] at h
      by_cases h3 : v = 59
      · rw [if_pos h3] at h; exact absurd h (by decide)
      · rw [if_neg h3] at h; exact absurd h (by decide)
theorem tag_ix {v : Int32} (h : tagR c L q = .inr v) : ∃ t, t < 16 ∧ v = nI t := by
  obtain ⟨⟨h1, _, h2⟩, rfl⟩ := tagR_inr h
  have h3 := (uT_w (Or.inl h1)).2
  rw [h1] at h3
  have h4 := (typ_1 h3).1
  have e97 : (97 : Int32).toInt = 97 := rfl
  have e113 : (113 : Int32).toInt = 113 := rfl
  rw [i32_le, e97] at h4
  rw [i32_lt, e113] at h2
  obtain ⟨j, hj, e⟩ := nI_of (x := c (uS c L q)) (by rw [i32_lt, i32_0]; omega)
  rw [e, nI_toI (by omega)] at h4 h2
  exact ⟨j - 97, by omega, by rw [e]; exact nI_sub (b := 97) (by omega)⟩
theorem WFr.vals {k r i : Nat} {x : GF} {v : Int32} (h : WFr k x) (hk : k < 100000) (hi : i < 4) (hr : r < 4) (hv : 0 ≤ v.toInt ∧ v.toInt ≤ 99) : WFr (k + 1) (Jvm.Pilot.COfflineNotesLaw_law_r8929_57547b.newN x (100 + 4 * i) r v 4) := h.newN hk (by omega) (by omega) hr hv
theorem tn_nI {k : Nat} (h : k < 1000) : tn (nI k) = k := nI_cl (by omega)
theorem i99 {lo : Nat} {v : Int32} (hlo : lo < 1000) (h : numR c L q (nI lo) 99 = .inr v) : (lo : Int) ≤ v.toInt ∧ v.toInt ≤ 99 := by
  obtain ⟨k, h1, h2, rfl⟩ := num_4 (n := 99) (by omega) hlo h
  rw [nI_toI (by omega)]; omega
/-- a line that is taken: the counts and rows stay in their bounds, the cursor goes on -/
theorem lineR_wf {k : Nat} {g g' : GF} {q' : Cur} (hw : Wf k g) (hk : k < 100000) (hq : q.2 ≤ L) (h : lineR c L g q = .inr (g', q')) : Wf (k + 1) g' ∧ q.2 ≤ q'.2 ∧ q'.2 ≤ L := by
  have b1 := uN_le (c := c) hq
  have b2 := uN_le (c := c) b1.2.2
  have b3 := uN_le (c := c) b2.2.2
  have b4 := uN_le (c := c) b3.2.2
  obtain ⟨⟨R, C, Q, m, d1, d2, d3, d4, e1, e2, e3, e4, e5⟩, hr⟩ := id hw
  have hm : mcn g = m := by unfold mcn; rw [d4, nI_cl (by omega)]
  rw [hm] at hr
  have cntC : ∀ part, (part = 4 ∨ part = 20) → ∀ {g' q'}, lCnt c L part g (uN c L q) = .inr (g', q') → Wf (k + 1) g' ∧ q.2 ≤ q'.2 ∧ q'.2 ≤ L := fun part hp g' q' h => by
    unfold lCnt at h
    obtain ⟨r, h1, h⟩ := sb_inr h
    obtain ⟨s, h2, h⟩ := sb_inr h
    obtain ⟨a, h3, h⟩ := sb_inr h
    cases h
    rw [d1] at h1; rw [d2] at h2
    obtain ⟨r, hr1, rfl⟩ := num_ix (by omega) h1
    obtain ⟨s, hs1, rfl⟩ := num_ix (by omega) h2
    have ha := i99 (lo := 1) (by omega) h3
    rw [tn_nI (by omega), tn_nI (by omega)]
    refine ⟨hw.put ((hr r (by omega) (by omega)).sum hk (by omega) ha), ?_, b4.2.2⟩
    show q.2 ≤ (uN c L (uN c L (uN c L (uN c L q)))).2
    omega
  unfold lineR at h
  by_cases w2 : isW c L 2 q
  · rw [cif_t w2] at h; exact cntC 4 (Or.inl rfl) h
  rw [cif_f w2] at h
  by_cases w3 : isW c L 3 q
  · rw [cif_t w3] at h; exact cntC 20 (Or.inr rfl) h
  rw [cif_f w3] at h
  by_cases w4 : isW c L 4 q
  · rw [cif_t w4] at h
    unfold lAdd at h
    obtain ⟨r, h1, h⟩ := sb_inr h
    obtain ⟨t, h2, h⟩ := sb_inr h
    cases h
    rw [d1] at h1
    obtain ⟨r, hr1, rfl⟩ := num_ix (by omega) h1
    obtain ⟨t, ht1, rfl⟩ := tag_ix h2
    rw [tn_nI (by omega), tn_nI (by omega)]
    refine ⟨hw.put ((hr r (by omega) (by omega)).newN hk (by omega) (by omega) (by omega) ⟨by decide, by decide⟩), ?_, b3.2.2⟩
    show q.2 ≤ (uN c L (uN c L (uN c L q))).2
    omega
  rw [cif_f w4] at h
  by_cases w5 : isW c L 5 q
  · rw [cif_t w5] at h
    unfold lRem at h
    obtain ⟨r, h1, h⟩ := sb_inr h
    obtain ⟨t, h2, h⟩ := sb_inr h
    rw [d1] at h1
    obtain ⟨r, hr1, rfl⟩ := num_ix (by omega) h1
    obtain ⟨t, ht1, rfl⟩ := tag_ix h2
    rw [tn_nI (by omega), tn_nI (by omega)] at h
    by_cases z : lve (row g r) (36 + 4 * t) = 0
    · rw [if_pos z] at h; cases h
    · rw [if_neg z] at h; cases h
      refine ⟨hw.put (((hr r (by omega) (by omega)).zap (by omega)).mono (by omega)), ?_, b3.2.2⟩
      show q.2 ≤ (uN c L (uN c L (uN c L q))).2
      omega
  rw [cif_f w5] at h
  by_cases w6 : isW c L 6 q
  · rw [cif_t w6] at h
    unfold lWri at h
    obtain ⟨r, h1, h⟩ := sb_inr h
    obtain ⟨s, h2, h⟩ := sb_inr h
    obtain ⟨a, h3, h⟩ := sb_inr h
    cases h
    rw [d1] at h1; rw [d3] at h2
    obtain ⟨r, hr1, rfl⟩ := num_ix (by omega) h1
    obtain ⟨s, hs1, rfl⟩ := num_ix (by omega) h2
    have ha := i99 (lo := 0) (by omega) h3
    rw [tn_nI (by omega), tn_nI (by omega)]
    refine ⟨hw.put ((hr r (by omega) (by omega)).newN hk (by omega) (by omega) (by omega) ha), ?_, b4.2.2⟩
    show q.2 ≤ (uN c L (uN c L (uN c L (uN c L q)))).2
    omega
  rw [cif_f w6] at h
  by_cases w7 : isW c L 7 q
  · rw [cif_t w7] at h
    unfold lMer at h
    obtain ⟨r, h1, h⟩ := sb_inr h
    obtain ⟨s, h2, h⟩ := sb_inr h
    cases h
    rw [d1] at h1 h2
    obtain ⟨r, hr1, rfl⟩ := num_ix (by omega) h1
    obtain ⟨s, hs1, rfl⟩ := num_ix (by omega) h2
    rw [tn_nI (by omega), tn_nI (by omega)]
    refine ⟨hw.put (((hr r (by omega) (by omega)).absR (hr s (by omega) (by omega))).mono (by omega)), ?_, b3.2.2⟩
    show q.2 ≤ (uN c L (uN c L (uN c L q))).2
    omega
  rw [cif_f w7] at h
  by_cases w8 : isW c L 8 q
  · rw [cif_t w8] at h
    unfold lSen at h
    by_cases c6 : g 3 = 6
    · rw [if_pos c6] at h; cases h
    · rw [if_neg c6] at h
      obtain ⟨r, h1, h⟩ := sb_inr h
      cases h
      rw [d1] at h1
      obtain ⟨r, hr1, rfl⟩ := num_ix (by omega) h1
      rw [tn_nI (by omega)]
      have hm6 : m ≠ 6 := fun e => c6 (by rw [d4, e]; rfl)
      refine ⟨hw.send (by omega) (by omega), ?_, b2.2.2⟩
      show q.2 ≤ (uN c L (uN c L q)).2
      omega
  rw [cif_f w8] at h
  by_cases w9 : isW c L 9 q
  · rw [cif_t w9] at h
    unfold lDel at h
    obtain ⟨s, h1, h⟩ := sb_inr h
    obtain ⟨r, h2, h⟩ := sb_inr h
    cases h
    rw [d4] at h1; rw [d1] at h2
    obtain ⟨s, hs1, rfl⟩ := num_ix (by omega) h1
    obtain ⟨r, hr1, rfl⟩ := num_ix (by omega) h2
    rw [tn_nI (by omega), tn_nI (by omega)]
    refine ⟨hw.put (((hr r (by omega) (by omega)).absR (hr (4 + s) (by omega) (by omega))).mono (by omega)), ?_, b3.2.2⟩
    show q.2 ≤ (uN c L (uN c L (uN c L q))).2
    omega
  rw [cif_f w9] at h
  cases h
theorem headR_wf {z g : GF} {q' : Cur} (hz : ∀ q, q < 1330 → z q = 0) (h : headR c L z = .inr (g, q')) : Wf 0 g ∧ q'.2 ≤ L := by
  have b0 : cur0.2 ≤ L := Nat.zero_le _
  have b1 := uN_le (c := c) b0
  have b2 := uN_le (c := c) b1.2.2
  have b3 := uN_le (c := c) b2.2.2
  have b4 := uN_le (c := c) b3.2.2
  unfold headR at h
  by_cases w : isW c L 1 cur0
  · rw [cif_t w] at h
    obtain ⟨a, h1, h⟩ := sb_inr h
    obtain ⟨b, h2, h⟩ := sb_inr h
    obtain ⟨d, h3, h⟩ := sb_inr h
    cases h
    obtain ⟨a, a1, a2, rfl⟩ := num_4 (lo := 1) (n := 4) (by omega) (by omega) h1
    obtain ⟨b, b1', b2', rfl⟩ := num_4 (lo := 0) (n := 4) (by omega) (by omega) h2
    obtain ⟨d, d1, d2, rfl⟩ := num_4 (lo := 0) (n := 4) (by omega) (by omega) h3
    refine ⟨⟨⟨a, b, d, 0, rfl, rfl, rfl, hz 3 (by omega), a1, a2, b2', d2, by omega⟩, fun t ht _ => ?_⟩, b4.2.2⟩
    refine WFr.zero.congr (fun i hi => ?_)
    show hdG z (nI a) (nI b) (nI d) (bs t + i) = 0
    unfold hdG
    rw [bs_eq, if_neg (by omega), if_neg (by omega), if_neg (by omega), hz _ (by omega)]
  · rw [cif_f w] at h; cases h
theorem linesR_wf (n : Nat) : ∀ {k : Nat} {g g' : GF} {q : Cur}, Wf k g → k + n ≤ 100000 → q.2 ≤ L → linesR c L n g q = .inr g' → Wf (k + n) g' := by
  induction n with
  | zero => intro k g g' q hw hk hq h; unfold linesR at h; cases h; exact hw
  | succ n ih =>
    intro k g g' q hw hk hq h
    unfold linesR at h
    by_cases h0 : uT c L q = 0
    · rw [cif_t h0] at h; cases h; exact hw.mono (by omega)
    · rw [cif_f h0] at h
      by_cases h3 : uT c L q = 3
      · rw [cif_t h3] at h
        obtain ⟨⟨g1, q1⟩, h1, h⟩ := sb_inr h
        obtain ⟨w1, _, w2⟩ := lineR_wf hw (by omega) (uN_le (c := c) hq).2.2 h1
        rw [show k + (n + 1) = k + 1 + n by omega]
        exact ih w1 (by omega) w2 h
      · rw [cif_f h3] at h; cases h
theorem textR_wf {z g : GF} (hL : L ≤ 1000) (hz : ∀ q, q < 1330 → z q = 0) (h : textR c L z = .inr g) : Wf (L + 1) g := by
  unfold textR at h
  obtain ⟨⟨g0, q0⟩, h1, h⟩ := sb_inr h
  obtain ⟨w1, w2⟩ := headR_wf hz h1
  have := linesR_wf (L + 1) w1 (by omega) w2 h
  rwa [Nat.zero_add] at this
end SP

