/-! THE TEXT TYPED IN -/
def kqP (x a : Nat) : Prop := a = x ∨ a = x + 1 ∨ kpP x a
theorem ClsZ.simX {x w : Nat} {p : Nat → Nat} {M M' : Mem} {g o : Nat → Int32} {h : Nat} {v : Nat → Int32} {b : Nat} (hc : ClsZ x w p M g o h v b) (f : Fr (kqP x) M M') : ClsZ x w p M' g o h v b := by
  obtain ⟨rt, ⟨c1, ⟨p1, p2, p3, p4⟩, ⟨q1, q2, q3⟩, ⟨n1, n2⟩, ⟨nx, h1, h2, h3, h4, h5⟩, ⟨s1, s2⟩⟩, z1, z2⟩ := hc
  have rel : ∀ k u q g, rt k = some u → RelP M u q g → RelP M' u q g := fun k u q g e r => r.fr (z2 k u e) f (fun i hi => by have pu := (q1 k u e).1; unfold Place at pu; unfold kqP kpP; omega)
  have at27 := (f.2 (x + 27) (by omega)).2 (by unfold kqP kpP; omega)
  refine ⟨rt, ⟨c1.fr f z1, ⟨by rw [(f.2 x (by omega)).1.2.2]; exact p1, by rw [(f.2 x (by omega)).1.2.2]; exact p2, fun i hi => by rw [((f.2 (x + 28) (by omega)).2 (by unfold kqP kpP; omega)).2.2.1]; exact p3 i hi, fun i hi => by rw [((f.2 (x + 29) (by omega)).2 (by unfold kqP kpP; omega)).2.2.1]; exact p4 i hi⟩, ⟨fun k u e => ⟨(q1 k u e).1, ?_⟩, q2, q3⟩, ⟨n1, rel 0 w p g n1 n2⟩, ⟨nx, h1, h2, by rw [at27.1]; exact h3, by rw [at27.1]; exact h4, fun j hj => ?_⟩, ⟨s1, fun s hs => ⟨fun hb => ?_, (s2 s hs).2⟩⟩⟩, Nat.le_trans z1 f.1, fun k u e => Nat.le_trans (z2 k u e) f.1⟩
  · obtain ⟨q, wq⟩ := (q1 k u e).2
    have pu := (q1 k u e).1
    have zu := z2 k u e
    unfold Place at pu
    exact ⟨q, wq.fr zu f ⟨((f.2 (u + 1) (by omega)).2 (by unfold kqP kpP; omega)).2.2.1, ((f.2 (u + 2) (by omega)).2 (by unfold kqP kpP; omega)).2.2.1⟩⟩
  · obtain ⟨u, q, e, r⟩ := h5 j hj; exact ⟨u, q, e, rel _ u q _ e r⟩
  · obtain ⟨u, q, e, r⟩ := (s2 s hs).1 hb; exact ⟨u, q, e, rel _ u q _ e r⟩
/-- four letters in a word -/
def pk (a : Int32) (c : Nat) : Int32 := (a <<< ((8 : Int32) &&& 31)) ||| nI c
theorem pk_nat (a : Int32) {c : Nat} (hc : c < 256) : (pk a c).toBitVec.toNat = (a.toBitVec.toNat * 256) % 4294967296 + c := by
  have e1 : (pk a c).toBitVec = (a.toBitVec <<< 8) ||| BitVec.ofNat 32 c := rfl
  rw [e1, BitVec.toNat_or, BitVec.toNat_shiftLeft, BitVec.toNat_ofNat, Nat.shiftLeft_eq]
  have e2 : a.toBitVec.toNat * 2 ^ 8 % 2 ^ 32 = 2 ^ 8 * (a.toBitVec.toNat % 2 ^ 24) := by omega
  rw [e2, Nat.mod_eq_of_lt (show c < 2 ^ 32 by omega), ← Nat.two_pow_add_eq_or_of_lt (show c < 2 ^ 8 by omega)]
  try omega
theorem cbs_nat (a : Int32) (i : Nat) (hi : i < 4) : (cbs a i).toBitVec.toNat = a.toBitVec.toNat / 2 ^ (24 - 8 * i) % 256 := by
  have e1 : (cbs a i).toBitVec = (a.toBitVec >>> (24 - 8 * i)) &&& 255#32 := by
    rcases (show i = 0 ∨ i = 1 ∨ i = 2 ∨ i = 3 by omega) with rfl | rfl | rfl | rfl <;> rfl
  rw [e1, BitVec.toNat_and, BitVec.toNat_ushiftRight, Nat.shiftRight_eq_div_pow]
  show a.toBitVec.toNat / 2 ^ (24 - 8 * i) &&& 255 = _
  exact Nat.and_two_pow_sub_one_eq_mod _ 8
theorem cbs_pk (a : Int32) {c0 c1 c2 c3 : Nat} (h0 : c0 < 128) (h1 : c1 < 128) (h2 : c2 < 128) (h3 : c3 < 128) : cbs (pk (pk (pk (pk a c0) c1) c2) c3) 0 = nI c0 ∧ cbs (pk (pk (pk (pk a c0) c1) c2) c3) 1 = nI c1 ∧ cbs (pk (pk (pk (pk a c0) c1) c2) c3) 2 = nI c2 ∧ cbs (pk (pk (pk (pk a c0) c1) c2) c3) 3 = nI c3 := by
  have e : (pk (pk (pk (pk a c0) c1) c2) c3).toBitVec.toNat = c0 * 16777216 + c1 * 65536 + c2 * 256 + c3 := by
    rw [pk_nat _ (by omega), pk_nat _ (by omega), pk_nat _ (by omega), pk_nat _ (by omega)]
    have := a.toBitVec.isLt
    omega
  have fin : ∀ i v, i < 4 → v < 128 → (pk (pk (pk (pk a c0) c1) c2) c3).toBitVec.toNat / 2 ^ (24 - 8 * i) % 256 = v → cbs (pk (pk (pk (pk a c0) c1) c2) c3) i = nI v := fun i v hi hv hh => by
    apply Int32.toBitVec_inj.1
    apply BitVec.eq_of_toNat_eq
    rw [cbs_nat _ _ hi, hh]
    show v = (BitVec.ofNat 32 v).toNat
    rw [BitVec.toNat_ofNat]; omega
  refine ⟨fin 0 c0 (by omega) h0 ?_, fin 1 c1 (by omega) h1 ?_, fin 2 c2 (by omega) h2 ?_, fin 3 c3 (by omega) h3 ?_⟩ <;> rw [e] <;> simp only [Nat.reduceMul, Nat.reduceSub, Nat.reducePow] <;> omega
/-- the words, after q letters -/
def wfn (g : Nat → Int32) (c : Nat → Nat) (j : Nat) : Nat → Int32
  | 0 => g j
  | n + 1 => pk (wfn g c j n) (c (4 * j + n))
def wfs (g : Nat → Int32) (c : Nat → Nat) (q : Nat) : Nat → Int32 := fun j => wfn g c j (min 4 (q - 4 * j))
theorem wfs_0 (g : Nat → Int32) (c : Nat → Nat) : wfs g c 0 = g := funext fun j => by unfold wfs; rw [show min 4 (0 - 4 * j) = 0 by omega]; rfl
theorem wfs_step (g : Nat → Int32) (c : Nat → Nat) (q : Nat) : u1 (wfs g c q) (q / 4) (pk (wfs g c q (q / 4)) (c q)) = wfs g c (q + 1) := by
  funext j
  by_cases e : j = q / 4
  · subst e
    rw [u1_self]
    unfold wfs
    rw [show min 4 (q - 4 * (q / 4)) = q % 4 by omega, show min 4 (q + 1 - 4 * (q / 4)) = q % 4 + 1 by omega]
    show _ = pk (wfn g c (q / 4) (q % 4)) (c (4 * (q / 4) + q % 4))
    rw [show 4 * (q / 4) + q % 4 = q by omega]
  · rw [u1_ne _ _ e]
    unfold wfs
    rw [show min 4 (q + 1 - 4 * j) = min 4 (q - 4 * j) by omega]
section TY
variable {x : Nat} {M : Mem} {s : Nat} {T : List Nat}
theorem chr_ok (hs : Str M s T) {i : Nat} (hi : i < T.length) (hl : T.length ≤ 200) : f_J0_charAt_5068e s (nI i) M = some (nI (T.getD i 0), M) := by
  obtain ⟨⟨s1, s2⟩, a, s3, s4, s5, s6, _⟩ := hs
  obtain ⟨hv, ev⟩ := s6 i hi
  have g161 : gI 6 161 s M = some 0 := by unfold gI; rw [if_pos s1, s2]
  have g160 : gRn 6 160 s M = some a := gRn_ok s1 s3
  have gn : gN 7 a M = some (nI T.length) := by unfold gN; rw [if_pos s4, s5]
  have jc : jChk (nI i) (nI T.length) = some () := if_pos ⟨nI_pos (by omega), nI_lt hi (by omega)⟩
  have ga : gA 7 a (nI i) M = some (nI (T.getD i 0)) := by
    unfold gA; rw [if_pos ⟨s4, by rw [s5, inT hi (by omega)]; exact not_false⟩, nI_cl (by omega), ev]
  obtain ⟨_, _, _, b4, b5⟩ := bytes_ok ⟨T.getD i 0, hv⟩
  dsimp only at b4 b5
  simp only [f_J0_charAt_5068e, f_J0_isLatin1_aae02, fj_J0_isLatin1_aae02_18, f_J1_charAt_3b067, cK, s1, eq_self, if_true, if_false, g161, Option.bind_some, or_true, bn, e10, g160, gn, jc, ga, b5, b4]
theorem Str.wA {y : Nat} {g : Nat → Int32} (hs : Str M s T) (hy : mK M y = 9) : Str (Jvm.Pilot.COfflineNotesLaw_law_r8929_57547b.wA M y g) s T := by
  obtain ⟨⟨s1, s2⟩, a, s3, s4, s5, s6, s7, s8⟩ := hs
  refine ⟨⟨s1, s2⟩, a, s3, s4, s5, fun i hi => ⟨(s6 i hi).1, ?_⟩, s7, s8⟩
  rw [mA_wA, if_neg (fun e => by rw [← e, s4] at hy; exact absurd hy (by decide))]; exact (s6 i hi).2
/-- the letter that is typed at a place: blanks behind the text -/
def ltr (T : List Nat) (i : Nat) : Nat := if i < T.length then T.getD i 0 else 32
theorem ltr_lt (hs : Str M s T) (i : Nat) : ltr T i < 128 := by
  obtain ⟨_, a, _, _, _, s6, _⟩ := hs
  unfold ltr
  by_cases c : i < T.length
  · rw [if_pos c]; exact (s6 i c).1
  · rw [if_neg c]; omega
theorem ty_in (hs : Str M s T) (hl : T.length ≤ 200) {y k : Nat} (hk : k < 300) (ky : mK M y = 9) (ny : mN M y = 5) : fj_L_type_21 x s y (nI k) 0 M = fj_L_type_76 x s y (nI k) (wA M y (wfs (mA M y) (fun q => ltr T (k + q)) 20)) := by
  unfold fj_L_type_21
  have key : ∀ (n q fuel : Nat), q + n = 20 → n < fuel → loopM (fun p : (Int32 × Mem) => fc_L_type_21 x s y (nI k) p.1 p.2) fuel (nI q, wA M y (wfs (mA M y) (fun q => ltr T (k + q)) q)) = fj_L_type_76 x s y (nI k) (wA M y (wfs (mA M y) (fun q => ltr T (k + q)) 20)) := by
    intro n
    induction n with
    | zero =>
      intro q fuel e hf
      obtain ⟨f, rfl⟩ : ∃ f, fuel = f + 1 := ⟨fuel - 1, by omega⟩
      obtain rfl : q = 20 := by omega
      unfold loopM
      have l20 : (20 : Int32) ≤ nI 20 := Int32.le_refl _
      simp only [fc_L_type_21, l20, if_true]
      cases fj_L_type_76 x s y (nI k) (wA M y (wfs (mA M y) (fun q => ltr T (k + q)) 20)) <;> rfl
    | succ n ih =>
      intro q fuel e hf
      obtain ⟨f, rfl⟩ : ∃ f, fuel = f + 1 := ⟨fuel - 1, by omega⟩
      have hq : q < 20 := by omega
      have l20 : ¬ ((20 : Int32) ≤ nI q) := nI_ge (a := q) (b := 20) hq (by omega)
      have d4 : nI q / 4 = nI (q / 4) := nI_div (b := 4) (by omega) (by omega)
      have hs' := hs.wA (y := y) (g := wfs (mA M y) (fun q => ltr T (k + q)) q) ky
      have k6 : (mK (wA M y (wfs (mA M y) (fun q => ltr T (k + q)) q)) s = 6) = True := eq_true hs'.1.1
      have ga : gA 9 y (nI (q / 4)) (wA M y (wfs (mA M y) (fun q => ltr T (k + q)) q)) = some (wfs (mA M y) (fun q => ltr T (k + q)) q (q / 4)) := by
        unfold gA
        rw [if_pos ⟨show mK M y = 9 from ky, by rw [show mN (wA M y (wfs (mA M y) (fun q => ltr T (k + q)) q)) y = 5 from ny, inT (by omega) (by omega)]; exact not_false⟩, nI_cl (by omega), wA_self]
      have sa : ∀ v : Int32, sA 9 y (nI (q / 4)) v (wA M y (wfs (mA M y) (fun q => ltr T (k + q)) q)) = some (wA M y (u1 (wfs (mA M y) (fun q => ltr T (k + q)) q) (q / 4) v)) := fun v => by
        rw [sA_w, if_pos ⟨show mK M y = 9 from ky, by rw [show mN (wA M y (wfs (mA M y) (fun q => ltr T (k + q)) q)) y = 5 from ny, inT (by omega) (by omega)]; exact not_false⟩, nI_cl (by omega), wA_self, wA_again, nar9]
      have eq1 : nI q + 1 = nI (q + 1) := nI_add q 1
      have st := wfs_step (mA M y) (fun q => ltr T (k + q)) q
      rw [← ih (q + 1) f (by omega) (by omega)]
      conv => lhs; unfold loopM
      by_cases c : k + q < T.length
      · have l1 : ¬ (nI T.length ≤ nI (k + q)) := nI_ge c (by omega)
        have el : ltr T (k + q) = T.getD (k + q) 0 := if_pos c
        have sa' := sa (pk (wfs (mA M y) (fun q => ltr T (k + q)) q (q / 4)) (ltr T (k + q)))
        rw [st, el] at sa'
        unfold pk at sa'
        simp only [fc_L_type_21, fj_L_type_68, l20, if_false, d4, ga, Option.bind_some, cK, k6, if_true, strlen_ok hs', bn, nI_add, l1, chr_ok hs' c hl, sa', eq1]
      · have l1 : nI T.length ≤ nI (k + q) := nI_le (by omega) (by omega)
        have el : ltr T (k + q) = 32 := if_neg c
        have sa' := sa (pk (wfs (mA M y) (fun q => ltr T (k + q)) q (q / 4)) (ltr T (k + q)))
        rw [st, el] at sa'
        have sa'' : sA 9 y (nI (q / 4)) ((wfs (mA M y) (fun q => ltr T (k + q)) q (q / 4) <<< ((8 : Int32) &&& 31)) ||| 32) (wA M y (wfs (mA M y) (fun q => ltr T (k + q)) q)) = some (wA M y (wfs (mA M y) (fun q => ltr T (k + q)) (q + 1))) := sa'
        simp only [fc_L_type_21, fj_L_type_68, l20, if_false, d4, ga, Option.bind_some, cK, k6, if_true, strlen_ok hs', bn, nI_add, l1, sa'', eq1]
  have := key 20 0 FU rfl (FUn (by decide))
  rw [wfs_0, wA_id] at this
  exact this
theorem wI_id (M : Mem) (f a : Nat) : wI M f a (mI M f a) = M := by
  have e : up2 (mI M) f a (mI M f a) = mI M := by funext b c; unfold up2; by_cases e : b = f ∧ c = a <;> simp [e]
  show ((mK M, mN M, up2 (mI M) f a (mI M f a), mR M, mA M, mB M, mL M, mZ M) : Mem) = M
  rw [e]
theorem cIn_self {k : Nat} (h : mI M 129 x = nI k) : cIn x M (mA M (x + 1)) k = M := by
  unfold cIn; rw [wA_id, ← h, wI_id]
theorem wd_at (f : Nat → Int32) (k : Nat) (a : Int32) (p : Nat) : wdC f k a 4 p = if k ≤ p ∧ p < k + 4 then cbs a (p - k) else f p := by
  show u1 (u1 (u1 (u1 f (k + 0) (cbs a 0)) (k + 1) (cbs a 1)) (k + 2) (cbs a 2)) (k + 3) (cbs a 3) p = _
  by_cases c3 : p = k + 3
  · subst c3; rw [u1_self, if_pos (by omega), show k + 3 - k = 3 by omega]
  · rw [u1_ne _ _ c3]
    by_cases c2 : p = k + 2
    · subst c2; rw [u1_self, if_pos (by omega), show k + 2 - k = 2 by omega]
    · rw [u1_ne _ _ c2]
      by_cases c1 : p = k + 1
      · subst c1; rw [u1_self, if_pos (by omega), show k + 1 - k = 1 by omega]
      · rw [u1_ne _ _ c1]
        by_cases c0 : p = k + 0
        · have c0' : k = p := by omega
          subst c0'
          show u1 f k (cbs a 0) k = _
          rw [u1_self, if_pos (by omega), Nat.sub_self]
        · rw [u1_ne _ _ c0, if_neg (by omega)]
theorem ap_ok (fx : Fix x M) {k : Nat} (e129 : mI M 129 x = nI k) (hk : k + 20 ≤ 600) (W : Nat → Int32) : ∃ f : Nat → Int32, f_X4_append x (W 0) (W 1) (W 2) (W 3) (W 4) M = some (.inl (nI (k + 20)), cIn x M f (k + 20)) ∧ (∀ p, p < k → f p = mA M (x + 1) p) ∧ (∀ q, q < 20 → f (k + q) = cbs (W (q / 4)) (q % 4)) := by
  have w := fun (f : Nat → Int32) (k : Nat) (hk : k + 4 ≤ 600) (a : Int32) => c_word fx (f := f) (k := k) hk (a := a)
  have kK : ∀ (f : Nat → Int32) (l : Nat), (mK (cIn x M f l) x = 5) = True := fun f l => eq_true fx.1.1
  have k5 : (mK M x = 5) = True := eq_true fx.1.1
  have g0 : gI 5 129 x M = some (nI k) := by unfold gI; rw [if_pos fx.1.1, e129]
  have l580 : nI k ≤ 580 := nI_le (b := 580) (by omega) (by omega)
  have w0 := w (mA M (x + 1)) k (by omega) (W 0)
  rw [cIn_self e129] at w0
  have gE : ∀ (f : Nat → Int32) (l : Nat), gI 5 129 x (cIn x M f l) = some (nI l) := fun f l => by
    unfold gI; rw [if_pos (show mK (cIn x M f l) x = 5 from fx.1.1)]; show some (mI (wI (wA M (x + 1) f) 129 x _) 129 x) = _; rw [mI_wI, if_pos ⟨rfl, rfl⟩]
  have w1 := w (wdC (mA M (x + 1)) k (W 0) 4) (k + 4) (by omega) (W 1)
  have w2 := w (wdC (wdC (mA M (x + 1)) k (W 0) 4) (k + 4) (W 1) 4) (k + 4 + 4) (by omega) (W 2)
  have w3 := w (wdC (wdC (wdC (mA M (x + 1)) k (W 0) 4) (k + 4) (W 1) 4) (k + 4 + 4) (W 2) 4) (k + 4 + 4 + 4) (by omega) (W 3)
  have w4 := w (wdC (wdC (wdC (wdC (mA M (x + 1)) k (W 0) 4) (k + 4) (W 1) 4) (k + 4 + 4) (W 2) 4) (k + 4 + 4 + 4) (W 3) 4) (k + 4 + 4 + 4 + 4) (by omega) (W 4)
  refine ⟨wdC (wdC (wdC (wdC (wdC (mA M (x + 1)) k (W 0) 4) (k + 4) (W 1) 4) (k + 4 + 4) (W 2) 4) (k + 4 + 4 + 4) (W 3) 4) (k + 4 + 4 + 4 + 4) (W 4) 4, ?_, fun p hp => ?_, fun q hq => ?_⟩
  · simp only [f_X4_append, g0, Option.bind_some, l580, if_true, cK, k5, kK, w0, w1, w2, w3, w4, gE]
  · rw [wd_at, if_neg (by omega), wd_at, if_neg (by omega), wd_at, if_neg (by omega), wd_at, if_neg (by omega), wd_at, if_neg (by omega)]
  · rw [wd_at]
    by_cases c4 : 16 ≤ q
    · rw [if_pos (by omega), show q / 4 = 4 by omega, show k + q - (k + 4 + 4 + 4 + 4) = q % 4 by omega]
    · rw [if_neg (by omega), wd_at]
      by_cases c3 : 12 ≤ q
      · rw [if_pos (by omega), show q / 4 = 3 by omega, show k + q - (k + 4 + 4 + 4) = q % 4 by omega]
      · rw [if_neg (by omega), wd_at]
        by_cases c2 : 8 ≤ q
        · rw [if_pos (by omega), show q / 4 = 2 by omega, show k + q - (k + 4 + 4) = q % 4 by omega]
        · rw [if_neg (by omega), wd_at]
          by_cases c1 : 4 ≤ q
          · rw [if_pos (by omega), show q / 4 = 1 by omega, show k + q - (k + 4) = q % 4 by omega]
          · rw [if_neg (by omega), wd_at, if_pos (by omega), show q / 4 = 0 by omega, show k + q - k = q % 4 by omega]
theorem Str.frk {P : Nat → Prop} {M' : Mem} (hs : Str M s T) (f : Fr P M M') (hP : ∀ a, P a → mK M a ≠ 6 ∧ mK M a ≠ 7) : Str M' s T := by
  obtain ⟨⟨s1, s2⟩, a, s3, s4, s5, s6, s7, s8⟩ := hs
  obtain ⟨⟨p1, p2, p3⟩, p4⟩ := f.2 s s8
  obtain ⟨⟨q1, q2, q3⟩, q4⟩ := f.2 a s7
  obtain ⟨p5, _⟩ := p4 (fun e => (hP s e).1 s1)
  obtain ⟨_, q5, _⟩ := q4 (fun e => (hP a e).2 s4)
  exact ⟨⟨p1.trans s1, (p5 _).trans s2⟩, a, (p3 _).trans s3, q1.trans s4, q2.trans s5, fun i hi => ⟨(s6 i hi).1, by rw [q5]; exact (s6 i hi).2⟩, Nat.lt_of_lt_of_le s7 f.1, Nat.lt_of_lt_of_le s8 f.1⟩
theorem w_type (fx : Fix x M) (hz : x + 61 ≤ mZ M) (hs : Str M s T) (h1 : 1 ≤ T.length) (hl : T.length ≤ 200) (e129 : mI M 129 x = 0) : ∃ M' len, f_L_type x s M = some (nI T.length, M') ∧ Fr (kqP x) M M' ∧ mI M' 129 x = nI len ∧ T.length ≤ len ∧ len ≤ 600 ∧ (∀ p, p < T.length → mA M' (x + 1) p = nI (T.getD p 0)) := by
  obtain ⟨M0, hM0⟩ : ∃ M0, M0 = newA 9 5 M := ⟨_, rfl⟩
  obtain ⟨y, hy⟩ : ∃ y, y = mZ M := ⟨_, rfl⟩
  have z0 : mZ M0 = mZ M + 1 := by rw [hM0]; rfl
  have ky : mK M0 y = 9 := by rw [hM0, nA_K, if_pos hy]
  have ny : mN M0 y = 5 := by rw [hM0, nA_N, if_pos hy]
  have f0 : Fr (fun _ => False) M M0 := ⟨by omega, fun a ha => ⟨⟨by rw [hM0, nA_K, if_neg (by omega)], by rw [hM0, nA_N, if_neg (by omega)], fun _ => by rw [hM0]; rfl⟩, fun _ => ⟨fun _ => by rw [hM0]; rfl, by rw [hM0, nA_A, if_neg (by omega)], by rw [hM0, nA_B, if_neg (by omega)], by rw [hM0, nA_L, if_neg (by omega)]⟩⟩⟩
  have fx0 : Fix x M0 := fx.fr f0 hz
  have hs0 : Str M0 s T := hs.frk f0 (fun a h => h.elim)
  have i0 : mI M0 129 x = 0 := by rw [((f0.2 x (by omega)).2 id).1]; exact e129
  have lp : ∃ r, fj_L_type_9 x s y 0 M0 = some r ∧ (r.1 = nI T.length ∧ Fr (fun a => a = x ∨ a = x + 1 ∨ a = y) M0 r.2 ∧ mI r.2 129 x = nI (20 * ((T.length + 19) / 20)) ∧ (∀ p, p < 20 * ((T.length + 19) / 20) → mA r.2 (x + 1) p = nI (ltr T p))) := by
    have good : ∀ M', Fr (fun a => a = x ∨ a = x + 1 ∨ a = y) M0 M' → Fix x M' ∧ Str M' s T ∧ mK M' y = 9 ∧ mN M' y = 5 := fun M' f => by
      refine ⟨fx0.fr f (by omega), hs0.frk f (fun a h => ?_), (f.2 y (by omega)).1.1.trans ky, (f.2 y (by omega)).1.2.1.trans ny⟩
      rcases h with rfl | rfl | rfl
      · rw [fx0.1.1]; decide
      · rw [fx0.2.1.1]; decide
      · rw [ky]; decide
    unfold fj_L_type_9
    refine loopM_inv (N := (T.length + 19) / 20) (P := fun i q => q.1 = nI (20 * i) ∧ Fr (fun a => a = x ∨ a = x + 1 ∨ a = y) M0 q.2 ∧ mI q.2 129 x = nI (20 * i) ∧ (∀ p, p < 20 * i → mA q.2 (x + 1) p = nI (ltr T p))) ⟨rfl, Fr.refl _, i0, fun p hp => by omega⟩ (fun i q hi hp => ?_) (fun q hp => ?_) (FUn (by omega))
    · obtain ⟨q1, M'⟩ := q
      obtain ⟨p1, p2, p3, p4⟩ := hp
      dsimp only at p1 p2 p3 p4
      subst p1
      obtain ⟨fx', hs', ky', ny'⟩ := good M' p2
      have k6 : (mK M' s = 6) = True := eq_true hs'.1.1
      have k5 : (mK M' x = 5) = True := eq_true fx'.1.1
      have l1 : ¬ (nI T.length ≤ nI (20 * i)) := nI_ge (by omega) (by omega)
      have tin := ty_in (x := x) hs' hl (k := 20 * i) (by omega) ky' ny'
      have M2K : mK (wA M' y (wfs (mA M' y) (fun q => ltr T (20 * i + q)) 20)) y = 9 := ky'
      have ga : ∀ j, j < 5 → gA 9 y (nI j) (wA M' y (wfs (mA M' y) (fun q => ltr T (20 * i + q)) 20)) = some (wfs (mA M' y) (fun q => ltr T (20 * i + q)) 20 j) := fun j hj => by
        unfold gA
        rw [if_pos ⟨M2K, by rw [show mN (wA M' y (wfs (mA M' y) (fun q => ltr T (20 * i + q)) 20)) y = 5 from ny', inT (by omega) (by omega)]; exact not_false⟩, nI_cl (by omega), wA_self]
      have fx2 : Fix x (wA M' y (wfs (mA M' y) (fun q => ltr T (20 * i + q)) 20)) := fx'
      have xy : x + 1 ≠ y := fun e => by rw [← e, fx'.2.1.1] at ky'; exact absurd ky' (by decide)
      obtain ⟨f, ea, fa, fb⟩ := ap_ok fx2 (k := 20 * i) p3 (by omega) (wfs (mA M' y) (fun q => ltr T (20 * i + q)) 20)
      have g0 : gA 9 y 0 (wA M' y (wfs (mA M' y) (fun q => ltr T (20 * i + q)) 20)) = _ := ga 0 (by omega)
      have g1 : gA 9 y 1 (wA M' y (wfs (mA M' y) (fun q => ltr T (20 * i + q)) 20)) = _ := ga 1 (by omega)
      have g2 : gA 9 y 2 (wA M' y (wfs (mA M' y) (fun q => ltr T (20 * i + q)) 20)) = _ := ga 2 (by omega)
      have g3 : gA 9 y 3 (wA M' y (wfs (mA M' y) (fun q => ltr T (20 * i + q)) 20)) = _ := ga 3 (by omega)
      have g4 : gA 9 y 4 (wA M' y (wfs (mA M' y) (fun q => ltr T (20 * i + q)) 20)) = _ := ga 4 (by omega)
      have e20 : nI (20 * i) + 20 = nI (20 * (i + 1)) := nI_add (20 * i) 20
      have k5' : (mK (wA M' y (wfs (mA M' y) (fun q => ltr T (20 * i + q)) 20)) x = 5) = True := eq_true fx'.1.1
      refine ⟨(nI (20 * (i + 1)), cIn x (wA M' y (wfs (mA M' y) (fun q => ltr T (20 * i + q)) 20)) f (20 * i + 20)), ?_, rfl, ?_, ?_, fun p hp => ?_⟩
      · simp only [fc_L_type_9, cK, k6, if_true, strlen_ok hs', bn, l1, if_false]
        rw [tin]
        simp only [fj_L_type_76, g0, g1, g2, g3, g4, Option.bind_some, cK, k5', if_true, ea, bq, e20]
      · exact p2.tr ((Fr.wA (Or.inr (Or.inr rfl))).tr ((Fr.wA (Or.inr (Or.inl rfl))).tr (Fr.wI (Or.inl rfl))))
      · show mI (wI _ 129 x _) 129 x = _
        rw [mI_wI, if_pos ⟨rfl, rfl⟩]; rfl
      · have em : mA (cIn x (wA M' y (wfs (mA M' y) (fun q => ltr T (20 * i + q)) 20)) f (20 * i + 20)) (x + 1) = f := wA_self _ _ _
        rw [em]
        by_cases c : p < 20 * i
        · rw [fa p c, mA_wA, if_neg xy]; exact p4 p c
        · obtain ⟨q, rfl⟩ : ∃ q, p = 20 * i + q := ⟨p - 20 * i, by omega⟩
          rw [fb q (by omega)]
          have wv : wfs (mA M' y) (fun q => ltr T (20 * i + q)) 20 (q / 4) = pk (pk (pk (pk (mA M' y (q / 4)) (ltr T (20 * i + (4 * (q / 4) + 0)))) (ltr T (20 * i + (4 * (q / 4) + 1)))) (ltr T (20 * i + (4 * (q / 4) + 2)))) (ltr T (20 * i + (4 * (q / 4) + 3))) := by
            unfold wfs
            rw [show min 4 (20 - 4 * (q / 4)) = 4 by omega]; rfl
          obtain ⟨b0, b1, b2, b3⟩ := cbs_pk (mA M' y (q / 4)) (ltr_lt hs' (20 * i + (4 * (q / 4) + 0))) (ltr_lt hs' (20 * i + (4 * (q / 4) + 1))) (ltr_lt hs' (20 * i + (4 * (q / 4) + 2))) (ltr_lt hs' (20 * i + (4 * (q / 4) + 3)))
          rw [wv]
          rcases (show q % 4 = 0 ∨ q % 4 = 1 ∨ q % 4 = 2 ∨ q % 4 = 3 by omega) with e | e | e | e
          · rw [e, b0, show 4 * (q / 4) + 0 = q by omega]
          · rw [e, b1, show 4 * (q / 4) + 1 = q by omega]
          · rw [e, b2, show 4 * (q / 4) + 2 = q by omega]
          · rw [e, b3, show 4 * (q / 4) + 3 = q by omega]
    · obtain ⟨q1, M'⟩ := q
      obtain ⟨p1, p2, p3, p4⟩ := hp
      dsimp only at p1 p2 p3 p4
      subst p1
      obtain ⟨fx', hs', ky', ny'⟩ := good M' p2
      have k6 : (mK M' s = 6) = True := eq_true hs'.1.1
      have l1 : nI T.length ≤ nI (20 * ((T.length + 19) / 20)) := nI_le (by omega) (by omega)
      refine ⟨(nI T.length, M'), ?_, rfl, p2, p3, p4⟩
      simp only [fc_L_type_9, fj_L_type_102, cK, k6, if_true, strlen_ok hs', bn, l1, Option.map_some]
  obtain ⟨⟨r1, M'⟩, e, rfl, f, p3, p4⟩ := lp
  dsimp only at f p3 p4
  refine ⟨M', 20 * ((T.length + 19) / 20), ?_, ⟨Nat.le_trans f0.1 f.1, fun a ha => ?_⟩, p3, by omega, by omega, fun p hp => ?_⟩
  · unfold f_L_type bnewa
    rw [← hM0, ← hy]
    exact e
  · obtain ⟨⟨a1, a2, a3⟩, a4⟩ := f0.2 a ha
    obtain ⟨⟨b1, b2, b3⟩, b4⟩ := f.2 a (by omega)
    refine ⟨⟨b1.trans a1, b2.trans a2, fun g => (b3 g).trans (a3 g)⟩, fun hn => ?_⟩
    obtain ⟨c1, c2, c3, c4⟩ := a4 id
    obtain ⟨d1, d2, d3, d4⟩ := b4 (fun e => by rcases e with e | e | e; exact hn (Or.inl e); exact hn (Or.inr (Or.inl e)); omega)
    exact ⟨fun g => (d1 g).trans (c1 g), d2.trans c2, d3.trans c3, d4.trans c4⟩
  · rw [p4 p (by omega)]; unfold ltr; rw [if_pos hp]
end TY
