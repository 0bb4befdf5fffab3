/-! WHAT A BUILDER DOES -/
section SO
variable {Z x b a k : Nat} {M : Mem} {T S : List Nat}
theorem SBa.g192 (h : SBa Z M b a T) : gRn 12 192 b M = some a := gRn_ok h.2.1.1 h.2.1.2.1
theorem SBa.g193 (h : SBa Z M b a T) : gI 12 193 b M = some 0 := by unfold gI; rw [if_pos h.2.1.1, h.2.1.2.2.1]
theorem SBa.g195 (h : SBa Z M b a T) : gI 12 195 b M = some (nI T.length) := by unfold gI; rw [if_pos h.2.1.1, h.2.1.2.2.2]
theorem SBa.gn (h : SBa Z M b a T) : gN 7 a M = some (nI (mN M a)) := by unfold gN; rw [if_pos h.2.2.1.1]
theorem SBa.k12 (h : SBa Z M b a T) : (mK M b = 12) = True := eq_true h.2.1.1
theorem SBa.lat (h : SBa Z M b a T) : f_J5_isLatin1_aae02 b M = some (1, M) := by
  have e : (0 : Int32) = 0 ∨ (0 : Int32) = 1 := Or.inl rfl
  simp only [f_J5_isLatin1_aae02, fj_J5_isLatin1_aae02_18, h.g193, Option.bind_some, eq_self, if_true, or_true]
theorem sb_ens (h : SBa Z M b a T) (hk : T.length ≤ k) (hk2 : k ≤ 200) : ∃ M' a', f_J5_ensureCapacityInternal_d00df b (nI k) M = some M' ∧ SBa Z M' b a' T ∧ k ≤ mN M' a' ∧ Fz Z x M M' ∧ (∀ c, c < mZ M → c ≠ b → mK M' c = mK M c ∧ mN M' c = mN M c ∧ (∀ f, mR M' f c = mR M f c) ∧ (∀ f, mI M' f c = mI M f c) ∧ mA M' c = mA M c) ∧ mZ M ≤ mZ M' := by
  have H := h
  obtain ⟨⟨z1, z2, z3, z4⟩, ⟨b1, b2, b3, b4⟩, ⟨a1, a2, a3⟩, f, t⟩ := h
  obtain ⟨N, hN⟩ : ∃ N, N = mN M a := ⟨_, rfl⟩
  have gn := H.gn
  rw [← hN] at gn a2 a3 f
  have e1 : (nI k - nI N).toInt = (k : Int) - N := by rw [i32_sub (by rw [nI_toI (by omega), nI_toI (by omega)]; omega), nI_toI (by omega), nI_toI (by omega)]
  by_cases c : k ≤ N
  · have le : nI k - nI N ≤ 0 := by rw [i32_le, e1, i32_0]; omega
    refine ⟨M, a, ?_, H, by omega, Fz.refl, fun c _ _ => ⟨rfl, rfl, fun _ => rfl, fun _ => rfl, rfl⟩, Nat.le_refl _⟩
    simp only [f_J5_ensureCapacityInternal_d00df, fj_J5_ensureCapacityInternal_d00df_38, H.g192, gn, H.g193, Option.bind_some, shr0, le, if_true]
  · have nle : ¬ (nI k - nI N ≤ 0) := by rw [i32_le, e1, i32_0]; omega
    obtain ⟨P, hP⟩ : ∃ P, P = if k - N < N + 2 then N + 2 else k - N := ⟨_, rfl⟩
    have bP : 2 ≤ P + N ∧ N < N + P ∧ k ≤ N + P ∧ N + P ≤ 450 := by
      by_cases q : k - N < N + 2
      · rw [if_pos q] at hP; omega
      · rw [if_neg q] at hP; omega
    have ek : nI k - nI N = nI (k - N) := nI_sub (by omega)
    have e2 : nI N + 2 = nI (N + 2) := nI_add N 2
    have eP : (if nI (k - N) < nI (N + 2) then nI (N + 2) else nI (k - N)) = nI P := by
      by_cases q : k - N < N + 2
      · rw [if_pos (nI_lt q (by omega)), hP, if_pos q]
      · rw [if_neg (nI_nlt (by omega) (by omega)), hP, if_neg q]
    have n0 : ¬ (nI (N + P) ≤ 0) := nI_ge (a := 0) (by omega) (by omega)
    have n1 : ¬ ((2147483639 : Int32) < nI (N + P)) := nI_nlt (a := 2147483639) (by omega) (by omega)
    have n2 : (nI (N + P) = 2147483647) = False := nI_eqF (b := 2147483647) (by omega) (by omega) (by omega)
    have n4 : ¬ (nI (N + P) < nI N) := nI_nlt (by omega) (by omega)
    have nb : ¬ nI (N + P) < 0 ∧ (nI (N + P)).toNatClampNeg ≤ 512 := ⟨nI_pos (by omega), by rw [nI_cl (by omega)]; omega⟩
    have nl : f_J8_newLength_cabcc (nI N) (nI (k - N)) (nI (N + 2)) M = some (nI (N + P), M) := by
      unfold f_J8_newLength_cabcc
      rw [eP, nI_add, if_neg n0, if_neg n1]
    have nc : f_J5_newCapacity_0f7a4 b (nI k) M = some (nI (N + P), M) := by
      simp only [f_J5_newCapacity_0f7a4, H.g192, gn, H.g193, Option.bind_some, shl0, ek, e2, nl, bn, n2, if_false, shr0]
    obtain ⟨M1, hM1⟩ : ∃ M1, M1 = newA 7 (N + P) M := ⟨_, rfl⟩
    have k1 : mK M1 a = 7 := by rw [hM1, nA_K, if_neg (by omega)]; exact a1
    have k2 : mK M1 (mZ M) = 7 := by rw [hM1, nA_K, if_pos rfl]
    have l1 : mN M1 a = N := by rw [hM1, nA_N, if_neg (by omega)]; exact hN.symm
    have l2 : mN M1 (mZ M) = N + P := by rw [hM1, nA_N, if_pos rfl]
    have v1 : mA M1 a = mA M a := by rw [hM1, nA_A, if_neg (by omega)]
    have v2 : mA M1 (mZ M) = fun _ => 0 := by rw [hM1, nA_A, if_pos rfl]
    have kb : mK M1 b = 12 := by rw [hM1, nA_K, if_neg (by omega)]; exact b1
    have cp := cpB_w (p := 0) (n := N) k1 k2 (by omega) (by omega) (by omega) (by omega) (fun j hj => by rw [v1]; exact f j hj)
    rw [v1, v2] at cp
    have g2 : gN 7 a M1 = some (nI N) := by unfold gN; rw [if_pos k1, l1]
    have cO : f_J7_copyOf_9075b a (nI (N + P)) M = some (mZ M, wA M1 (mZ M) (va_cpy (mA M a) (fun _ => 0) 0 0 N)) := by
      unfold f_J7_copyOf_9075b bnewb
      rw [gn, Option.bind_some, if_neg (fun e => absurd ((nI_eq (by omega) (by omega)).mp e) (by omega)), if_pos nb, nI_cl (by omega), ← hM1]
      dsimp only
      rw [g2, Option.bind_some, if_neg n4]
      have cp' : cpB a 0 (mZ M) 0 (nI N) M1 = _ := cp
      rw [cp', Option.bind_some]
    have sR : sR 12 192 b (some (mZ M)) (wA M1 (mZ M) (va_cpy (mA M a) (fun _ => 0) 0 0 N)) = some (wR (wA M1 (mZ M) (va_cpy (mA M a) (fun _ => 0) 0 0 N)) 192 b (some (mZ M))) := by rw [sR_w, if_pos (show mK (wA M1 (mZ M) (va_cpy (mA M a) (fun _ => 0) 0 0 N)) b = 12 from kb)]
    have g3 : gI 12 193 b M = some 0 := H.g193
    have zM1 : mZ M1 = mZ M + 1 := by rw [hM1]; rfl
    refine ⟨wR (wA M1 (mZ M) (va_cpy (mA M a) (fun _ => 0) 0 0 N)) 192 b (some (mZ M)), mZ M, ?_, ?_, ?_, ?_, fun c hc hb => ⟨?_, ?_, fun f' => ?_, fun f' => ?_, ?_⟩, ?_⟩
    · simp only [f_J5_ensureCapacityInternal_d00df, fj_J5_ensureCapacityInternal_d00df_38, H.g192, gn, H.g193, Option.bind_some, shr0, nle, if_false, cK, H.k12, if_true, nc, bn, shl0, cO, sR]
    · have gA : mA (wR (wA M1 (mZ M) (va_cpy (mA M a) (fun _ => 0) 0 0 N)) 192 b (some (mZ M))) (mZ M) = va_cpy (mA M a) (fun _ => 0) 0 0 N := wA_self M1 _ _
      refine ⟨⟨z1, by omega, by show b < mZ M1; omega, by show mZ M < mZ M1; omega⟩, ⟨kb, ?_, ?_, ?_⟩, ⟨k2, ?_, ?_⟩, fun i hi => ?_, fun i hi => ?_⟩
      · rw [mR_wR, if_pos ⟨rfl, rfl⟩]
      · show mI M1 193 b = 0
        rw [hM1]; exact b3
      · show mI M1 195 b = _
        rw [hM1]; exact b4
      · show T.length ≤ mN M1 (mZ M)
        omega
      · show mN M1 (mZ M) ≤ 450
        omega
      · rw [gA]
        by_cases q : i < N
        · have := cpy_in (f := mA M a) (g := fun _ => (0 : Int32)) (p := 0) (n := N) q
          rw [Nat.zero_add] at this
          rw [this]; exact f i q
        · rw [cpy_lo (by omega)]; exact ⟨0, by omega, rfl⟩
      · rw [gA]
        have := cpy_in (f := mA M a) (g := fun _ => (0 : Int32)) (p := 0) (n := N) (i := i) (by omega)
        rw [Nat.zero_add] at this
        rw [this]; exact t i hi
    · show k ≤ mN M1 (mZ M)
      omega
    · refine Fz.tr ?_ ((Fz.wA (show Z ≤ mZ M by omega)).tr (Fz.wR z1))
      rw [hM1]; exact Fz.nA (by omega)
    · show mK M1 c = _
      rw [hM1, nA_K, if_neg (by omega)]
    · show mN M1 c = _
      rw [hM1, nA_N, if_neg (by omega)]
    · rw [mR_wR, if_neg (by omega)]
      show mR M1 f' c = _
      rw [hM1]; rfl
    · show mI M1 f' c = _
      rw [hM1]; rfl
    · show mA (wA M1 (mZ M) (va_cpy (mA M a) (fun _ => 0) 0 0 N)) c = _
      rw [mA_wA, if_neg (by omega), hM1, nA_A, if_neg (by omega)]
    · show mZ M ≤ mZ M1
      omega
/-- the letters of a constant -/
def TX (i : Nat) (t : List Nat) : Prop := i < 18 ∧ sLEN.getD i 0 = t.length ∧ t.length ≤ 20 ∧ ∀ k, k < t.length → t.getD k 0 < 128 ∧ jByt i k = nI (t.getD k 0)
theorem sb_const (h : SBa Z M b a T) {i : Nat} {t : List Nat} (ht : TX i t) (hl : T.length + t.length ≤ 200) : ∃ M' a', f_J4_append_15ec4_c b i M = some (b, M') ∧ SBa Z M' b a' (T ++ t) ∧ Fz Z x M M' := by
  obtain ⟨i18, hlen, h20, hb⟩ := ht
  obtain ⟨M1, a1, e1, s1, n1, f1, _⟩ := sb_ens (x := x) (k := T.length + t.length) h (by omega) hl
  have jl : jLen i = some (nI t.length) := by unfold jLen; rw [if_pos i18, hlen]
  have gs : gS i = some () := if_pos i18
  have c0 : (0 : Int32).toNatClampNeg = 0 := rfl
  have l0 : ¬ ((0 : Int32) < 0) := by decide
  have cs : cpS i 0 a1 (nI T.length) (nI t.length) M1 = some (wA M1 a1 (va_cpy (jByt i) (mA M1 a1) 0 T.length t.length)) := by
    unfold cpS
    rw [nI_cl (show T.length < 2147483648 by omega), nI_cl (show t.length < 2147483648 by omega), c0, if_pos ⟨s1.2.2.1.1, ⟨i18, l0, nI_pos (by omega), nI_pos (by omega)⟩, by rw [hlen]; omega, by omega⟩]
    rfl
  have s2 := s1.put (S := t) (g := va_cpy (jByt i) (mA M1 a1) 0 T.length t.length) n1 (fun j hj => cpy_lo (Or.inl hj)) (fun j hj => by rw [cpy_in hj]; exact (hb j hj).2) (fun j hj => (hb j hj).1) (fun j hj => cpy_lo (Or.inr hj))
  have k1 : (mK (wA M1 a1 (va_cpy (jByt i) (mA M1 a1) 0 T.length t.length)) b = 12) = True := s1.k12
  have g5 : gI 12 195 b (wA M1 a1 (va_cpy (jByt i) (mA M1 a1) 0 T.length t.length)) = some (nI T.length) := s1.g195
  have sI : sI 12 195 b (nI (T.length + t.length)) (wA M1 a1 (va_cpy (jByt i) (mA M1 a1) 0 T.length t.length)) = some (wI (wA M1 a1 (va_cpy (jByt i) (mA M1 a1) 0 T.length t.length)) 195 b (nI (T.length + t.length))) := by rw [sI_w, if_pos (show mK (wA M1 a1 (va_cpy (jByt i) (mA M1 a1) 0 T.length t.length)) b = 12 from s1.2.1.1)]
  refine ⟨_, a1, ?_, s2, f1.tr (put_fz s1.1.1 s1.1.2.1)⟩
  simp only [f_J4_append_15ec4_c, f_J5_append_cf1ce_c, f_J5_putStringAt_47b60_c, f_J5_inflateIfNeededFor_a7421_c, fj_J5_inflateIfNeededFor_a7421_c_21, f_J0_getBytes_840e7_c, fj_J0_getBytes_840e7_c_43, cK, h.k12, s1.k12, if_true, jl, gs, Option.bind_some, h.g195, nI_add, e1, s1.g195, s1.g193, s1.g192, eq_self, shl0, cs, k1, g5, sI, bn]
/-- a string at s with the letters T -/
def Str (M : Mem) (s : Nat) (T : List Nat) : Prop := (mK M s = 6 ∧ mI M 161 s = 0) ∧ ∃ a, mR M 160 s = some a ∧ mK M a = 7 ∧ mN M a = T.length ∧ (∀ i, i < T.length → T.getD i 0 < 128 ∧ mA M a i = nI (T.getD i 0)) ∧ a < mZ M ∧ s < mZ M
theorem coder_ok (hs : Str M k T) : f_J0_coder_7d493 k M = some (0, M) := by
  have g : gI 6 161 k M = some 0 := by unfold gI; rw [if_pos hs.1.1, hs.1.2]
  have e : nar 7 (0 : Int32) = 0 := (bytes_ok ⟨0, by omega⟩).2.1
  simp only [f_J0_coder_7d493, fj_J0_coder_7d493_14, g, Option.bind_some, e, if_true, eq_self]
theorem strlen_ok (hs : Str M k T) : f_J0_length_8abf5 k M = some (nI T.length, M) := by
  have hc := coder_ok hs
  obtain ⟨⟨s1, s2⟩, a, s3, s4, s5, _⟩ := hs
  have g : gRn 6 160 k M = some a := gRn_ok s1 s3
  have gn : gN 7 a M = some (nI T.length) := by unfold gN; rw [if_pos s4, s5]
  simp only [f_J0_length_8abf5, g, gn, Option.bind_some, cK, s1, if_true, eq_self, hc, bn, shr0]
theorem Str.of {M' : Mem} {s : Nat} {t : List Nat} (hs : Str M s t) (hb : mK M b = 12) (f : ∀ c, c < mZ M → c ≠ b → mK M' c = mK M c ∧ mN M' c = mN M c ∧ (∀ f, mR M' f c = mR M f c) ∧ (∀ f, mI M' f c = mI M f c) ∧ mA M' c = mA M c) (hz : mZ M ≤ mZ M') : Str M' s t := by
  obtain ⟨⟨s1, s2⟩, c, s3, s4, s5, s6, s7, s8⟩ := hs
  obtain ⟨p1, p2, p3, p4, p5⟩ := f s s8 (fun e => by rw [e, hb] at s1; exact absurd s1 (by decide))
  obtain ⟨q1, q2, q3, q4, q5⟩ := f c s7 (fun e => by rw [e, hb] at s4; exact absurd s4 (by decide))
  exact ⟨⟨p1.trans s1, (p4 _).trans s2⟩, c, (p3 _).trans s3, q1.trans s4, q2.trans s5, fun i hi => ⟨(s6 i hi).1, by rw [q5]; exact (s6 i hi).2⟩, Nat.lt_of_lt_of_le s7 hz, Nat.lt_of_lt_of_le s8 hz⟩
theorem sb_str (h : SBa Z M b a T) {s : Nat} {t : List Nat} (hs : Str M s t) (hl : T.length + t.length ≤ 200) : ∃ M' a', f_J4_append_15ec4 b s M = some (b, M') ∧ SBa Z M' b a' (T ++ t) ∧ Fz Z x M M' := by
  obtain ⟨M1, a1, e1, s1, n1, f1, fo, hz⟩ := sb_ens (x := x) (k := T.length + t.length) h (by omega) hl
  have hln := strlen_ok hs
  have hs1 := hs.of h.2.1.1 fo hz
  have hc1 := coder_ok hs1
  have k6 := hs.1.1
  have k6' := hs1.1.1
  obtain ⟨_, c, s3, s4, s5, s6, s7, s8⟩ := hs1
  have g160 : gRn 6 160 s M1 = some c := gRn_ok k6' s3
  have gc : gN 7 c M1 = some (nI t.length) := by unfold gN; rw [if_pos s4, s5]
  have cb := cpB_w (p := T.length) (n := t.length) s4 s1.2.2.1.1 (by omega) n1 (by omega) (by omega) (fun j hj => ⟨_, (s6 j hj).1, (s6 j hj).2⟩)
  have s2 := s1.put (S := t) (g := va_cpy (mA M1 c) (mA M1 a1) 0 T.length t.length) n1 (fun j hj => cpy_lo (Or.inl hj)) (fun j hj => by rw [cpy_in hj]; exact (s6 j hj).2) (fun j hj => (s6 j hj).1) (fun j hj => cpy_lo (Or.inr hj))
  have k1 : (mK (wA M1 a1 (va_cpy (mA M1 c) (mA M1 a1) 0 T.length t.length)) b = 12) = True := s1.k12
  have g5 : gI 12 195 b (wA M1 a1 (va_cpy (mA M1 c) (mA M1 a1) 0 T.length t.length)) = some (nI T.length) := s1.g195
  have sI : sI 12 195 b (nI (T.length + t.length)) (wA M1 a1 (va_cpy (mA M1 c) (mA M1 a1) 0 T.length t.length)) = some (wI (wA M1 a1 (va_cpy (mA M1 c) (mA M1 a1) 0 T.length t.length)) 195 b (nI (T.length + t.length))) := by rw [sI_w, if_pos (show mK (wA M1 a1 (va_cpy (mA M1 c) (mA M1 a1) 0 T.length t.length)) b = 12 from s1.2.1.1)]
  refine ⟨_, a1, ?_, s2, f1.tr (put_fz s1.1.1 s1.1.2.1)⟩
  simp only [f_J4_append_15ec4, f_J5_append_cf1ce, f_J5_putStringAt_47b60, f_J5_inflateIfNeededFor_a7421, fj_J5_inflateIfNeededFor_a7421_21, f_J0_getBytes_840e7, fj_J0_getBytes_840e7_43, cK, h.k12, s1.k12, k6, k6', if_true, hln, Option.bind_some, h.g195, nI_add, e1, s1.g195, s1.g193, s1.g192, hc1, eq_self, shl0, g160, gc, cb, k1, g5, sI, bn]
theorem sb_chr (h : SBa Z M b a T) {v : Nat} (hv : v < 128) (hl : T.length + 1 ≤ 200) : ∃ M' a', f_J4_append_cf468 b (nI v) M = some (b, M') ∧ SBa Z M' b a' (T ++ [v]) ∧ Fz Z x M M' := by
  obtain ⟨M1, a1, e1, s1, n1, f1, fo, hz⟩ := sb_ens (x := x) (k := T.length + 1) h (by omega) hl
  have e2 : nI T.length + 1 = nI (T.length + 1) := nI_add T.length 1
  have n255 : ¬ ((255 : Int32) < nI v) := nI_nlt (a := 255) (by omega) (by omega)
  have s2 := s1.put (S := [v]) (g := u1 (mA M1 a1) T.length (nI v)) n1 (fun j hj => u1_ne _ _ (by omega)) (fun j hj => by
    have : j = 0 := by have : j < 1 := hj; omega
    subst this; exact u1_self _ _ _) (fun j hj => by
    have : j = 0 := by have : j < 1 := hj; omega
    subst this; exact hv) (fun j hj => u1_ne _ _ (by have : T.length + 1 ≤ j := hj; omega))
  have sI : sI 12 195 b (nI (T.length + 1)) M1 = some (wI M1 195 b (nI (T.length + 1))) := by rw [sI_w, if_pos s1.2.1.1]
  have sA : sA 7 a1 (nI T.length) ((nI v).toInt8.toInt32) (wI M1 195 b (nI (T.length + 1))) = some (wI (wA M1 a1 (u1 (mA M1 a1) T.length (nI v))) 195 b (nI (T.length + 1))) := by
    rw [sA_w, if_pos ⟨show mK (wI M1 195 b (nI (T.length + 1))) a1 = 7 from s1.2.2.1.1, by rw [show mN (wI M1 195 b (nI (T.length + 1))) a1 = mN M1 a1 from rfl, inT (by omega) (by omega)]; exact not_false⟩, nI_cl (by omega), (bytes_ok ⟨v, hv⟩).2.2.1]
    rfl
  refine ⟨_, a1, ?_, s2, f1.tr (put_fz s1.1.1 s1.1.2.1)⟩
  simp only [f_J4_append_cf468, f_J5_append_3fe6f, fj_J5_append_3fe6f_75, f_J1_canEncode_fc78d, fj_J1_canEncode_fc78d_12, cK, h.k12, s1.k12, if_true, if_false, h.g195, Option.bind_some, e2, e1, s1.lat, bn, e10, n255, or_true, eq_self, s1.g192, s1.g195, sI, sA]
  rfl
/-- the digits of a number below a hundred -/
def dig (n : Nat) : List Nat := if n < 10 then [48 + n] else [48 + n / 10, 48 + n % 10]
theorem dig_len (n : Nat) : (dig n).length = if n < 10 then 1 else 2 := by unfold dig; by_cases c : n < 10 <;> simp [c]
theorem size_ok {n : Nat} (hn : n < 100) : f_J6_stringSize_0f7a4 (nI n) M = some (nI (dig n).length, M) := by
  have key : ∀ k : Fin 100, ¬ (nI k.val < 0) ∧ (if k.val < 10 then ¬ (-nI k.val ≤ (-10 : Int32)) else (-nI k.val ≤ (-10 : Int32)) ∧ ¬ (-nI k.val ≤ 10 * (-10 : Int32))) := by decide +kernel
  obtain ⟨h0, h1⟩ := key ⟨n, hn⟩
  dsimp only at h0 h1
  have l1 : ¬ ((10 : Int32) ≤ 1) := by decide
  have l2 : ¬ ((10 : Int32) ≤ 1 + 1) := by decide
  unfold f_J6_stringSize_0f7a4
  rw [if_neg h0]
  unfold fj_J6_stringSize_0f7a4_11 fj_J6_stringSize_0f7a4_16
  rw [dig_len]
  obtain ⟨F, hF⟩ : ∃ F, FU = F + 1 + 1 := ⟨999998, rfl⟩
  rw [hF]
  by_cases c : n < 10
  · rw [if_pos c] at h1
    rw [if_pos c]
    unfold loopM
    simp only [fc_J6_stringSize_0f7a4_16, l1, if_false, h1, fj_J6_stringSize_0f7a4_27, Option.map_some]
    rfl
  · rw [if_neg c] at h1
    rw [if_neg c]
    unfold loopM
    simp only [fc_J6_stringSize_0f7a4_16, l1, if_false, h1.1, if_true]
    unfold loopM
    simp only [fc_J6_stringSize_0f7a4_16, l2, if_false, h1.2, fj_J6_stringSize_0f7a4_27, Option.map_some]
    rfl
theorem gD_ok {n : Nat} (hn : n < 100) : gD 0 (- (- nI n)) = some (nI (48 + n % 10)) ∧ gD 1 (- (- nI n)) = some (nI (48 + n / 10)) := by
  have e : - (- nI n) = nI n := Int32.neg_neg
  have c : ¬ (nI n < 0 ∨ 100 ≤ (nI n).toNatClampNeg) := by
    rw [nI_cl (by omega)]; exact fun e => e.elim (nI_pos (by omega)) (fun e => by omega)
  rw [e]
  unfold gD
  rw [if_pos ⟨by omega, c⟩, if_pos ⟨by omega, c⟩, nI_cl (by omega)]
  exact ⟨rfl, rfl⟩
theorem sb_int (h : SBa Z M b a T) {v : Nat} (hv : v < 100) (hl : T.length + 2 ≤ 200) : ∃ M' a', f_J4_append_bf812 b (nI v) M = some (b, M') ∧ SBa Z M' b a' (T ++ dig v) ∧ Fz Z x M M' := by
  have dl := dig_len v
  have dl2 : (dig v).length ≤ 2 ∧ 1 ≤ (dig v).length := by rw [dl]; split <;> omega
  obtain ⟨M1, a1, e1, s1, n1, f1, fo, hz⟩ := sb_ens (x := x) (k := T.length + (dig v).length) h (by omega) (by omega)
  have sz := size_ok (M := M) hv
  obtain ⟨d0, d1⟩ := gD_ok hv
  have key : ∀ k : Fin 100, ((-100 : Int32) < -nI k.val) ∧ (if k.val < 10 then (-9 : Int32) ≤ -nI k.val else ¬ ((-9 : Int32) ≤ -nI k.val)) := by decide +kernel
  obtain ⟨h0, h1⟩ := key ⟨v, hv⟩
  dsimp only at h0 h1
  have p0 : (0 : Int32) ≤ nI v := nI_le (a := 0) (by omega) (by omega)
  have st : ∀ (N : Mem) (i w : Nat), mK N a1 = 7 → i < mN N a1 → i < 1000 → w < 128 → sA 7 a1 (nI i) (nI w) N = some (wA N a1 (u1 (mA N a1) i (nI w))) := fun N i w k1 k2 k3 k4 => by
    rw [sA_w, if_pos ⟨k1, by rw [inT (by omega) (by omega)]; exact not_false⟩, nI_cl (by omega), (bytes_ok ⟨w, k4⟩).2.1]
  have key2 : ∃ g : Nat → Int32, f_J6_getChars_ba4f3 (nI v) (nI (T.length + (dig v).length)) a1 M1 = some (nI T.length, wA M1 a1 g) ∧ (∀ i, i < T.length → g i = mA M1 a1 i) ∧ (∀ i, i < (dig v).length → g (T.length + i) = nI ((dig v).getD i 0)) ∧ (∀ i, i < (dig v).length → (dig v).getD i 0 < 128) ∧ (∀ i, T.length + (dig v).length ≤ i → g i = mA M1 a1 i) := by
    unfold f_J6_getChars_ba4f3
    rw [if_pos p0]
    unfold fj_J6_getChars_ba4f3_12
    rw [if_pos rfl]
    unfold fj_J6_getChars_ba4f3_22
    obtain ⟨F, hF⟩ : ∃ F, FU = F + 1 := ⟨999999, rfl⟩
    rw [hF]
    by_cases c : v < 10
    · rw [if_pos c] at h1 dl
      have em : nI (T.length + (dig v).length) + -1 = nI T.length := by rw [dl]; exact nI_neg (by omega)
      have s' := st M1 T.length (48 + v % 10) s1.2.2.1.1 (by omega) (by omega) (by omega)
      have ed : dig v = [48 + v] := if_pos c
      refine ⟨u1 (mA M1 a1) T.length (nI (48 + v % 10)), ?_, fun i hi => u1_ne _ _ (by omega), fun i hi => ?_, fun i hi => ?_, fun i hi => u1_ne _ _ (by omega)⟩
      · unfold loopM
        simp only [fc_J6_getChars_ba4f3_22, fj_J6_getChars_ba4f3_72, fj_J6_getChars_ba4f3_104, fj_J6_getChars_ba4f3_118, h0, if_true, d0, Option.bind_some, em, s', h1, eq_self, Option.map_some]
      · obtain rfl : i = 0 := by omega
        rw [Nat.add_zero, u1_self, ed, show v % 10 = v by omega]; rfl
      · obtain rfl : i = 0 := by omega
        rw [ed]; show 48 + v < 128; omega
    · rw [if_neg c] at h1 dl
      have em : nI (T.length + (dig v).length) + -1 = nI (T.length + 1) := by rw [dl]; exact nI_neg (by omega)
      have em2 : nI (T.length + 1) + -1 = nI T.length := nI_neg (by omega)
      have s' := st M1 (T.length + 1) (48 + v % 10) s1.2.2.1.1 (by omega) (by omega) (by omega)
      have s'' := st (wA M1 a1 (u1 (mA M1 a1) (T.length + 1) (nI (48 + v % 10)))) T.length (48 + v / 10) s1.2.2.1.1 (by show _ < mN M1 a1; omega) (by omega) (by omega)
      rw [wA_self, wA_again] at s''
      have ed : dig v = [48 + v / 10, 48 + v % 10] := if_neg c
      refine ⟨u1 (u1 (mA M1 a1) (T.length + 1) (nI (48 + v % 10))) T.length (nI (48 + v / 10)), ?_, fun i hi => by rw [u1_ne _ _ (by omega), u1_ne _ _ (by omega)], fun i hi => ?_, fun i hi => ?_, fun i hi => by rw [u1_ne _ _ (by omega), u1_ne _ _ (by omega)]⟩
      · unfold loopM
        simp only [fc_J6_getChars_ba4f3_22, fj_J6_getChars_ba4f3_72, fj_J6_getChars_ba4f3_104, fj_J6_getChars_ba4f3_118, h0, if_true, if_false, d0, d1, Option.bind_some, em, em2, s', s'', h1, eq_self, Option.map_some]
      · rcases (show i = 0 ∨ i = 1 by omega) with rfl | rfl
        · have e0 : T.length + 0 = T.length := rfl
          rw [e0, u1_self, ed]; rfl
        · rw [u1_ne _ _ (by omega), u1_self, ed]; rfl
      · rcases (show i = 0 ∨ i = 1 by omega) with rfl | rfl
        · rw [ed]; show 48 + v / 10 < 128; omega
        · rw [ed]; show 48 + v % 10 < 128; omega
  obtain ⟨g, eg, g1, g2, g3, g4⟩ := key2
  have s2 := s1.put (S := dig v) (g := g) n1 g1 g2 g3 g4
  have sI : sI 12 195 b (nI (T.length + (dig v).length)) (wA M1 a1 g) = some (wI (wA M1 a1 g) 195 b (nI (T.length + (dig v).length))) := by rw [sI_w, if_pos (show mK (wA M1 a1 g) b = 12 from s1.2.1.1)]
  refine ⟨_, a1, ?_, s2, f1.tr (put_fz s1.1.1 s1.1.2.1)⟩
  simp only [f_J4_append_bf812, f_J5_append_c97b9, fj_J5_append_c97b9_48, cK, h.k12, s1.k12, if_true, if_false, h.g195, Option.bind_some, sz, bn, nI_add, e1, s1.lat, e10, s1.g192, eg, sI]
theorem sb_tos (h : SBa Z M b a T) : ∃ M', f_J4_toString_0e30d b M = some (mZ M, M') ∧ Str M' (mZ M) T ∧ Fz (mZ M) x M M' := by
  obtain ⟨⟨z1, z2, z3, z4⟩, ⟨b1, b2, b3, b4⟩, ⟨a1, a2, a3⟩, f, t⟩ := h
  obtain ⟨n, hn⟩ : ∃ n, n = T.length := ⟨_, rfl⟩
  rw [← hn] at a2 b4 t
  obtain ⟨M1, hM1⟩ : ∃ M1, M1 = newO 6 M := ⟨_, rfl⟩
  have zM1 : mZ M1 = mZ M + 1 := by rw [hM1]; rfl
  have hK : ∀ c, c < mZ M → mK M1 c = mK M c := fun c hc => by rw [hM1, nO_K, if_neg (by omega)]
  have hI : ∀ f c, c < mZ M → mI M1 f c = mI M f c := fun f c hc => by rw [hM1, nO_I, if_neg (by omega)]
  have hRr : ∀ f c, c < mZ M → mR M1 f c = mR M f c := fun f c hc => by rw [hM1, nO_R, if_neg (by omega)]
  have hN : mN M1 = mN M := by rw [hM1]; rfl
  have hA : mA M1 = mA M := by rw [hM1]; rfl
  have kz : mK M1 (mZ M) = 6 := by rw [hM1, nO_K, if_pos rfl]
  have iz : mI M1 161 (mZ M) = 0 := by rw [hM1, nO_I, if_pos rfl]
  have kb : mK M1 b = 12 := (hK b z3).trans b1
  have k12 : (mK M1 b = 12) = True := eq_true kb
  have g192 : gRn 12 192 b M1 = some a := gRn_ok kb ((hRr 192 b z3).trans b2)
  have g193 : gI 12 193 b M1 = some 0 := by unfold gI; rw [if_pos kb, hI 193 b z3, b3]
  have g195 : gI 12 195 b M1 = some (nI n) := by unfold gI; rw [if_pos kb, hI 195 b z3, b4]
  have lat : f_J5_isLatin1_aae02 b M1 = some (1, M1) := by
    have e : (0 : Int32) = 0 ∨ (0 : Int32) = 1 := Or.inl rfl
    simp only [f_J5_isLatin1_aae02, fj_J5_isLatin1_aae02_18, g193, Option.bind_some, eq_self, if_true, or_true]
  have gv : f_J5_getValue_6d5f1 b M1 = some (a, M1) := by simp only [f_J5_getValue_6d5f1, g192, Option.bind_some]
  have gl : f_J4_length_8abf5 b M1 = some (nI n, M1) := by simp only [f_J4_length_8abf5, f_J5_length_8abf5, cK, k12, if_true, g195, Option.bind_some, bn]
  -- the coder of the new string
  obtain ⟨M2, hM2⟩ : ∃ M2, M2 = wI M1 161 (mZ M) 0 := ⟨_, rfl⟩
  have sI : sI 6 161 (mZ M) 0 M1 = some M2 := by rw [sI_w, if_pos kz, hM2]
  have k2 : ∀ c, mK M2 c = mK M1 c := fun c => by rw [hM2]; rfl
  have ka : mK M2 a = 7 := by rw [k2, hK a z4]; exact a1
  have na : mN M2 a = mN M a := by rw [hM2]; show mN M1 a = _; rw [hN]
  have aA : mA M2 = mA M := by rw [hM2]; show mA M1 = _; exact hA
  have z2' : mZ M2 = mZ M + 1 := by rw [hM2]; exact zM1
  have gn : gN 7 a M2 = some (nI (mN M a)) := by unfold gN; rw [if_pos ka, na]
  have f2 : Fz (mZ M) x M M2 := by rw [hM2, hM1]; exact (Fz.nO (Nat.le_refl _)).tr (Fz.wI (Nat.le_refl _))
  -- the bytes of the new string
  have cr : ∃ M3, f_J7_copyOfRange_39247 a 0 (nI n) M2 = some (mZ M2, M3) ∧ mK M3 (mZ M2) = 7 ∧ mN M3 (mZ M2) = n ∧ (∀ i, i < n → mA M3 (mZ M2) i = mA M a i) ∧ mZ M3 = mZ M2 + 1 ∧ (∀ c, c < mZ M2 → mK M3 c = mK M2 c ∧ (∀ f, mI M3 f c = mI M2 f c)) ∧ Fz (mZ M) x M2 M3 := by
    by_cases c : n = mN M a
    · obtain ⟨M3, hM3⟩ : ∃ M3 : Mem, M3 = (va_up (mK M2) (mZ M2) 7, va_up (mN M2) (mZ M2) (mN M2 a), mI M2, mR M2, va_up (mA M2) (mZ M2) (mA M2 a), va_up (mB M2) (mZ M2) (fun _ => none), va_up (mL M2) (mZ M2) (fun _ => 0), mZ M2 + 1) := ⟨_, rfl⟩
      have cl : clB a M2 = some M3 := by
        unfold clB
        rw [if_pos ⟨ka, by omega, fun j hj => by
          obtain ⟨k, hk, e⟩ := f j (by omega)
          rw [aA, e]; exact (bytes_ok ⟨k, hk⟩).1⟩, hM3]
      have u1' : ∀ c, mK M3 c = if c = mZ M2 then 7 else mK M2 c := fun c => by rw [hM3]; rfl
      have u2' : ∀ c, mN M3 c = if c = mZ M2 then mN M2 a else mN M2 c := fun c => by rw [hM3]; rfl
      have u3' : ∀ c, mA M3 c = if c = mZ M2 then mA M2 a else mA M2 c := fun c => by rw [hM3]; rfl
      have u4' : ∀ c, mB M3 c = if c = mZ M2 then (fun _ => none) else mB M2 c := fun c => by rw [hM3]; rfl
      have u5' : ∀ c, mL M3 c = if c = mZ M2 then (fun _ => 0) else mL M2 c := fun c => by rw [hM3]; rfl
      have u6' : mI M3 = mI M2 := by rw [hM3]
      have u7' : mR M3 = mR M2 := by rw [hM3]
      have u8' : mZ M3 = mZ M2 + 1 := by rw [hM3]
      refine ⟨M3, ?_, by rw [u1', if_pos rfl], by rw [u2', if_pos rfl, na, c], fun i hi => by rw [u3', if_pos rfl, aA], u8', fun c hc => ⟨by rw [u1', if_neg (by omega)], fun _ => by rw [u6']⟩, ⟨by rw [u8']; omega, fun c hc => ⟨⟨by rw [u1', if_neg (by omega)], by rw [u2', if_neg (by omega)], fun _ => by rw [u7']⟩, fun _ => ⟨fun _ => by rw [u6'], by rw [u3', if_neg (by omega)], by rw [u4', if_neg (by omega)], by rw [u5', if_neg (by omega)]⟩⟩⟩⟩
      unfold f_J7_copyOfRange_39247
      rw [if_pos rfl, gn, Option.bind_some, if_pos (by rw [c]), cl, Option.bind_some]
    · obtain ⟨M3, hM3⟩ : ∃ M3, M3 = newA 7 n M2 := ⟨_, rfl⟩
      have nb : ¬ nI n < 0 ∧ (nI n).toNatClampNeg ≤ 512 := ⟨nI_pos (by omega), by rw [nI_cl (by omega)]; omega⟩
      have e0 : nI n - 0 = nI n := Int32.sub_zero _
      have e1 : nI (mN M a) - 0 = nI (mN M a) := Int32.sub_zero _
      have lt : nI n < nI (mN M a) := nI_lt (by omega) (by omega)
      have ne : ¬ (nI n = nI (mN M a)) := fun e => c ((nI_eq (by omega) (by omega)).mp e)
      have k3 : mK M3 a = 7 := by rw [hM3, nA_K, if_neg (by omega)]; exact ka
      have k3z : mK M3 (mZ M2) = 7 := by rw [hM3, nA_K, if_pos rfl]
      have n3 : mN M3 a = mN M a := by rw [hM3, nA_N, if_neg (by omega)]; exact na
      have n3z : mN M3 (mZ M2) = n := by rw [hM3, nA_N, if_pos rfl]
      have v3 : mA M3 a = mA M a := by rw [hM3, nA_A, if_neg (by omega), aA]
      have cp := cpB_w (p := 0) (n := n) k3 k3z (by omega) (by omega) (by omega) (by omega) (fun j hj => by rw [v3]; exact f j (by omega))
      have cp' : cpB a 0 (mZ M2) 0 (nI n) M3 = _ := cp
      have g3 : gN 7 a M3 = some (nI (mN M a)) := by unfold gN; rw [if_pos k3, n3]
      have z0 : (0 : Int32) ≤ nI n := nI_le (a := 0) (by omega) (by omega)
      refine ⟨wA M3 (mZ M2) (va_cpy (mA M3 a) (mA M3 (mZ M2)) 0 0 n), ?_, k3z, n3z, fun i hi => ?_, by show mZ M3 = _; rw [hM3]; rfl, fun c hc => ⟨by show mK M3 c = _; rw [hM3, nA_K, if_neg (by omega)], fun f => by show mI M3 f c = _; rw [hM3]; rfl⟩, ?_⟩
      · unfold f_J7_copyOfRange_39247
        rw [if_pos rfl, gn, Option.bind_some, if_neg ne]
        unfold fj_J7_copyOfRange_39247_10 f_J7_copyOfRangeByte_39247 f_J7_checkLength_df160 bnewb
        rw [if_pos z0, Option.bind_some, e0]
        rw [if_pos nb, nI_cl (by omega), ← hM3]
        dsimp only
        rw [g3, Option.bind_some, e1, if_pos lt, cp', Option.bind_some]
        rfl
      · rw [wA_self]
        have := cpy_in (f := mA M3 a) (g := mA M3 (mZ M2)) (p := 0) (n := n) hi
        rw [Nat.zero_add] at this
        rw [this, v3]
      · refine Fz.tr ?_ (Fz.wA (show mZ M ≤ mZ M2 by omega))
        rw [hM3]; exact Fz.nA (by omega)
  obtain ⟨M3, ec, c1, c2, c3, c4, c5, c6⟩ := cr
  have kz3 : mK M3 (mZ M) = 6 := by rw [(c5 (mZ M) (by omega)).1, k2]; exact kz
  have sR : sR 6 160 (mZ M) (some (mZ M2)) M3 = some (wR M3 160 (mZ M) (some (mZ M2))) := by rw [sR_w, if_pos kz3]
  refine ⟨wR M3 160 (mZ M) (some (mZ M2)), ?_, ⟨⟨kz3, ?_⟩, mZ M2, ?_, c1, by rw [← hn]; exact c2, fun i hi => ?_, by show mZ M2 < mZ M3; omega, by show mZ M < mZ M3; omega⟩, f2.tr (c6.tr (Fz.wR (Nat.le_refl _)))⟩
  · unfold f_J4_toString_0e30d bnew
    rw [← hM1]
    simp only [f_J0_init_81219, f_J0_init_db425, fj_J0_init_db425_97, cK, k12, if_true, if_false, gv, gl, lat, bn, e10, sI, Option.bind_some, ec, sR]
  · show mI M3 161 (mZ M) = 0
    rw [(c5 (mZ M) (by omega)).2, hM2, mI_wI, if_pos ⟨rfl, rfl⟩]
  · rw [mR_wR, if_pos ⟨rfl, rfl⟩]
  · rw [← hn] at hi
    exact ⟨(t i hi).1, by show mA M3 (mZ M2) i = _; rw [c3 i hi]; exact (t i hi).2⟩
/-- a new builder -/
theorem sb_born {n : Nat} (hn : n ≤ 450) {M1 : Mem} (h1 : M1 = wR (wI (newA 7 n (newO 12 M)) 193 (mZ M) 0) 192 (mZ M) (some (mZ M + 1))) : SBa (mZ M) M1 (mZ M) (mZ M + 1) [] ∧ mN M1 (mZ M + 1) = n ∧ Fz (mZ M) x M M1 := by
  have z1 : mZ (newO 12 M) = mZ M + 1 := rfl
  have kA : mK (newA 7 n (newO 12 M)) (mZ M + 1) = 7 := by rw [nA_K, z1, if_pos rfl]
  have nA : mN (newA 7 n (newO 12 M)) (mZ M + 1) = n := by rw [nA_N, z1, if_pos rfl]
  have aA : mA (newA 7 n (newO 12 M)) (mZ M + 1) = fun _ => 0 := by rw [nA_A, z1, if_pos rfl]
  have kb : mK (newA 7 n (newO 12 M)) (mZ M) = 12 := by rw [nA_K, z1, if_neg (by omega), nO_K, if_pos rfl]
  have ib : ∀ f, mI (newA 7 n (newO 12 M)) f (mZ M) = 0 := fun f => by show mI (newO 12 M) f (mZ M) = 0; rw [nO_I, if_pos rfl]
  subst h1
  refine ⟨⟨⟨Nat.le_refl _, by omega, by show mZ M < mZ M + 1 + 1; omega, by show mZ M + 1 < mZ M + 1 + 1; omega⟩, ⟨kb, ?_, ?_, ?_⟩, ⟨kA, Nat.zero_le _, ?_⟩, fun i hi => ⟨0, by omega, ?_⟩, fun i hi => absurd hi (Nat.not_lt_zero _)⟩, nA, ?_⟩
  · rw [mR_wR, if_pos ⟨rfl, rfl⟩]
  · show mI (wI (newA 7 n (newO 12 M)) 193 (mZ M) 0) 193 (mZ M) = 0
    rw [mI_wI, if_pos ⟨rfl, rfl⟩]
  · show mI (wI (newA 7 n (newO 12 M)) 193 (mZ M) 0) 195 (mZ M) = 0
    rw [mI_wI, if_neg (by omega)]; exact ib 195
  · show mN (newA 7 n (newO 12 M)) (mZ M + 1) ≤ 450
    omega
  · show mA (newA 7 n (newO 12 M)) (mZ M + 1) i = 0
    rw [aA]
  · exact (Fz.nO (Nat.le_refl _)).tr ((Fz.nA (by show mZ M ≤ mZ M + 1; omega)).tr ((Fz.wI (Nat.le_refl _)).tr (Fz.wR (Nat.le_refl _))))
theorem sb_new : ∃ M', f_J4_init_da8c8 (mZ M) (newO 12 M) = some M' ∧ SBa (mZ M) M' (mZ M) (mZ M + 1) [] ∧ Fz (mZ M) x M M' := by
  obtain ⟨s, _, f⟩ := sb_born (x := x) (M := M) (n := 16) (by omega) rfl
  refine ⟨_, ?_, s, f⟩
  have z1 : mZ (newO 12 M) = mZ M + 1 := rfl
  have nb : ¬ (16 : Int32) < 0 ∧ (16 : Int32).toNatClampNeg ≤ 512 := by decide
  have kb : mK (newA 7 16 (newO 12 M)) (mZ M) = 12 := by rw [nA_K, z1, if_neg (by omega), nO_K, if_pos rfl]
  have c16 : (16 : Int32).toNatClampNeg = 16 := rfl
  have sR : sR 12 192 (mZ M) (some (mZ M + 1)) (newA 7 16 (newO 12 M)) = some (wR (newA 7 16 (newO 12 M)) 192 (mZ M) (some (mZ M + 1))) := by rw [sR_w, if_pos kb]
  have sI : sI 12 193 (mZ M) 0 (wR (newA 7 16 (newO 12 M)) 192 (mZ M) (some (mZ M + 1))) = some (wI (wR (newA 7 16 (newO 12 M)) 192 (mZ M) (some (mZ M + 1))) 193 (mZ M) 0) := by rw [sI_w, if_pos (show mK (wR (newA 7 16 (newO 12 M)) 192 (mZ M) (some (mZ M + 1))) (mZ M) = 12 from kb)]
  simp only [f_J4_init_da8c8, f_J5_init_d00df, fj_J5_init_d00df_38, bnewb]
  rw [if_pos nb, z1, c16, sR, Option.bind_some, sI, Option.bind_some, Option.bind_some]
  rfl
theorem sb_init {i : Nat} {t : List Nat} (ht : TX i t) : ∃ M' a', f_J4_init_a7421_c (mZ M) i (newO 12 M) = some M' ∧ SBa (mZ M) M' (mZ M) a' t ∧ Fz (mZ M) x M M' := by
  have HT := ht
  obtain ⟨i18, hlen, h20, hb⟩ := ht
  obtain ⟨s, _, f⟩ := sb_born (x := x) (M := M) (n := t.length + 16) (by omega) rfl
  obtain ⟨M2, a2, e2, s2, f2⟩ := sb_const (x := x) s HT (by show 0 + t.length ≤ 200; omega)
  refine ⟨M2, a2, ?_, s2, f.tr f2⟩
  have z1 : mZ (newO 12 M) = mZ M + 1 := rfl
  have jl : jLen i = some (nI t.length) := by unfold jLen; rw [if_pos i18, hlen]
  have gs : gS i = some () := if_pos i18
  have nl : ¬ ((2147483631 : Int32) ≤ nI t.length) := nI_ge (b := 2147483631) (by omega) (by omega)
  have e16 : nI t.length + 16 = nI (t.length + 16) := nI_add _ 16
  have nb : ¬ nI (t.length + 16) < 0 ∧ (nI (t.length + 16)).toNatClampNeg ≤ 512 := ⟨nI_pos (by omega), by rw [nI_cl (by omega)]; omega⟩
  have k0 : mK (newO 12 M) (mZ M) = 12 := by rw [nO_K, if_pos rfl]
  have sI : sI 12 193 (mZ M) 0 (newO 12 M) = some (wI (newO 12 M) 193 (mZ M) 0) := by rw [sI_w, if_pos k0]
  have z2 : mZ (wI (newO 12 M) 193 (mZ M) 0) = mZ M + 1 := rfl
  have eA : newA 7 (t.length + 16) (wI (newO 12 M) 193 (mZ M) 0) = wI (newA 7 (t.length + 16) (newO 12 M)) 193 (mZ M) 0 := rfl
  have kb : mK (wI (newA 7 (t.length + 16) (newO 12 M)) 193 (mZ M) 0) (mZ M) = 12 := by show mK (newA 7 (t.length + 16) (newO 12 M)) (mZ M) = 12; rw [nA_K, z1, if_neg (by omega)]; exact k0
  have sR : sR 12 192 (mZ M) (some (mZ M + 1)) (wI (newA 7 (t.length + 16) (newO 12 M)) 193 (mZ M) 0) = some (wR (wI (newA 7 (t.length + 16) (newO 12 M)) 193 (mZ M) 0) 192 (mZ M) (some (mZ M + 1))) := by rw [sR_w, if_pos kb]
  have k3 := s.k12
  simp only [f_J4_init_a7421_c, f_J5_init_a7421_c, jl, Option.bind_some, nl, if_false, fj_J5_init_a7421_c_24, gs, sI, e16, bnewb]
  rw [if_pos nb, nI_cl (by omega), z2, eA]
  simp only [fj_J5_init_a7421_c_53, sR, Option.bind_some, cK, k3, if_true, f_J4_append_cf1ce_c, e2, bn]
theorem t_rep : TX 10 [114, 101, 112, 108, 105, 99, 97, 115, 32] := ⟨by decide, by decide +kernel, by decide, by decide +kernel⟩
theorem t_mer : TX 11 [59, 109, 101, 114, 103, 101, 32] := ⟨by decide, by decide +kernel, by decide, by decide +kernel⟩
theorem t_0 : TX 12 [32, 48] := ⟨by decide, by decide +kernel, by decide, by decide +kernel⟩
theorem t_inc : TX 13 [59, 105, 110, 99, 32] := ⟨by decide, by decide +kernel, by decide, by decide +kernel⟩
theorem t_sp : TX 14 [32] := ⟨by decide, by decide +kernel, by decide, by decide +kernel⟩
theorem t_mer0 : TX 15 [59, 109, 101, 114, 103, 101, 32, 48, 32] := ⟨by decide, by decide +kernel, by decide, by decide +kernel⟩
theorem t_wri : TX 16 [59, 119, 114, 105, 116, 101, 32] := ⟨by decide, by decide +kernel, by decide, by decide +kernel⟩
theorem t_add : TX 17 [59, 97, 100, 100, 32] := ⟨by decide, by decide +kernel, by decide, by decide +kernel⟩
end SO
