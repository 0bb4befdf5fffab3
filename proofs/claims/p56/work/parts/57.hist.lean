/-! NEW WORLDS; THE HISTORY -/
/-- a state made, and put into an array -/
def mkS (M : Mem) : Mem := wR (newA 9 132 (newO 3 M)) 64 (mZ M) (some (mZ M + 1))
def addS (M : Mem) (b i : Nat) : Mem := wB (mkS M) b (u1 (mB M b) i (some (mZ M)))
theorem mkS_K {M : Mem} {a : Nat} (ha : a < mZ M) : mK (mkS M) a = mK M a := by
  show va_up (va_up (mK M) (mZ M) 3) (mZ M + 1) 9 a = mK M a
  unfold va_up; rw [if_neg (by omega), if_neg (by omega)]
theorem mkS_St (M : Mem) : St (mkS M) (mZ M) (mZ M + 1) := by
  refine ⟨?_, ?_, ?_, ?_⟩
  · show va_up (va_up (mK M) (mZ M) 3) (mZ M + 1) 9 (mZ M) = 3
    unfold va_up; rw [if_neg (by omega), if_pos rfl]
  · show up2 _ 64 (mZ M) (some (mZ M + 1)) 64 (mZ M) = some (mZ M + 1)
    unfold up2; rw [if_pos ⟨rfl, rfl⟩]
  · show va_up (va_up (mK M) (mZ M) 3) (mZ M + 1) 9 (mZ M + 1) = 9
    unfold va_up; rw [if_pos rfl]
  · show va_up (mN M) (mZ M + 1) 132 (mZ M + 1) = 132
    unfold va_up; rw [if_pos rfl]
theorem mkS_fr (M : Mem) {P : Nat → Prop} : Fr P M (mkS M) := by
  refine ⟨by show mZ M ≤ mZ M + 1 + 1; omega, fun a ha => ⟨⟨mkS_K ha, ?_, fun f => ?_⟩, fun _ => ⟨fun f => ?_, ?_, ?_, ?_⟩⟩⟩
  · show va_up (mN M) (mZ M + 1) 132 a = mN M a
    unfold va_up; rw [if_neg (by omega)]
  · show up2 (fun f b => if b = mZ M then none else mR M f b) 64 (mZ M) (some (mZ M + 1)) f a = mR M f a
    unfold up2; dsimp only; rw [if_neg (by omega), if_neg (by omega)]
  · show (if a = mZ M then 0 else mI M f a) = mI M f a
    rw [if_neg (by omega)]
  · show va_up (mA M) (mZ M + 1) _ a = mA M a
    unfold va_up; rw [if_neg (by omega)]
  · show va_up (mB M) (mZ M + 1) _ a = mB M a
    unfold va_up; rw [if_neg (by omega)]
  · show va_up (mL M) (mZ M + 1) _ a = mL M a
    unfold va_up; rw [if_neg (by omega)]
theorem X2_new {M : Mem} {γ : Type} {K : Nat → Mem → Option γ} : (bnew 3 M fun v M2 => (f_X2_init v M2).bind fun M3 => K v M3) = K (mZ M) (mkS M) := by
  show (f_X2_init (mZ M) (newO 3 M)).bind _ = _
  rw [X2_init (s := mZ M) (by show va_up (mK M) (mZ M) 3 (mZ M) = 3; unfold va_up; rw [if_pos rfl]) (by show mZ M < mZ M + 1; omega)]
  rfl
theorem addS_eq {M : Mem} {b i n : Nat} {γ : Type} {K : Mem → Option γ} (hb : mK M b = 10) (hn : mN M b = n) (hi : i < n) (h2 : i < 2147483648) (hz : b < mZ M) : (bnew 3 M fun v M2 => (f_X2_init v M2).bind fun M3 => (sBn 10 3 b (nI i) v M3).bind K) = K (addS M b i) := by
  rw [X2_new (K := fun v M3 => (sBn 10 3 b (nI i) v M3).bind K)]
  have f := (mkS_fr M (P := fun _ => False)).2 b hz
  rw [sBn_w, if_pos ⟨by rw [f.1.1, hb], (mkS_St M).1, by rw [f.1.2.1, hn, inT hi h2]; exact not_false⟩, nI_cl h2, (f.2 id).2.2.1]
  rfl
def addN (M : Mem) (b : Nat) : Nat → Mem
  | 0 => M
  | n + 1 => addS (addN M b n) b n
theorem addN_all (M : Mem) (b : Nat) (hb : b < mZ M) (n : Nat) : mZ (addN M b n) = mZ M + 2 * n ∧ Fr (fun a => a = b) M (addN M b n) ∧ ∀ i, i < n → mB (addN M b n) b i = some (mZ M + 2 * i) ∧ St (addN M b n) (mZ M + 2 * i) (mZ M + 2 * i + 1) := by
  induction n with
  | zero => exact ⟨rfl, Fr.refl M, fun i hi => absurd hi (by omega)⟩
  | succ n ih =>
    obtain ⟨i1, i2, i3⟩ := ih
    have fr : Fr (fun a => a = b) (addN M b n) (addN M b (n + 1)) := (mkS_fr (addN M b n)).tr (Fr.wB rfl)
    refine ⟨by show mZ (addN M b n) + 1 + 1 = _; rw [i1]; omega, i2.tr fr, fun i hi => ?_⟩
    have e : mB (addN M b (n + 1)) b = u1 (mB (addN M b n) b) n (some (mZ (addN M b n))) := wB_self _ _ _
    rw [e, i1]
    by_cases q : i = n
    · subst q; rw [u1_self]; have := mkS_St (addN M b i); rw [i1] at this; exact ⟨rfl, this⟩
    · rw [u1_ne _ _ q]; exact ⟨(i3 i (by omega)).1, (i3 i (by omega)).2.fr fr (by rw [i1]; omega) (by rw [i1]; omega)⟩
/-- the head of a new world: its fields, its three arrays -/
def hdW (M : Mem) (w : Nat) : Mem := wR (newA 9 6 (wR (newA 10 6 (wR (newA 10 4 (wI (wI (wI (wI (newO 4 M) 96 w 1) 97 w 0) 98 w 0) 99 w 0)) 100 w (some (w + 1)))) 101 w (some (w + 2)))) 102 w (some (w + 3))
theorem hdW_all {M : Mem} {w : Nat} (hw : w = mZ M) : mZ (hdW M w) = w + 4 ∧ Fr (fun _ => False) M (hdW M w) ∧ (mK (hdW M w) w = 4 ∧ mR (hdW M w) 100 w = some (w + 1) ∧ mR (hdW M w) 101 w = some (w + 2) ∧ mR (hdW M w) 102 w = some (w + 3)) ∧ (mK (hdW M w) (w + 1) = 10 ∧ mN (hdW M w) (w + 1) = 4 ∧ mK (hdW M w) (w + 2) = 10 ∧ mN (hdW M w) (w + 2) = 6 ∧ mK (hdW M w) (w + 3) = 9 ∧ mN (hdW M w) (w + 3) = 6) := by
  subst hw
  have eK : mK (hdW M (mZ M)) = va_up (va_up (va_up (va_up (mK M) (mZ M) 4) (mZ M + 1) 10) (mZ M + 1 + 1) 10) (mZ M + 1 + 1 + 1) 9 := rfl
  have eN : mN (hdW M (mZ M)) = va_up (va_up (va_up (mN M) (mZ M + 1) 4) (mZ M + 1 + 1) 6) (mZ M + 1 + 1 + 1) 6 := rfl
  have eR : mR (hdW M (mZ M)) = up2 (up2 (up2 (fun f b => if b = mZ M then none else mR M f b) 100 (mZ M) (some (mZ M + 1))) 101 (mZ M) (some (mZ M + 2))) 102 (mZ M) (some (mZ M + 3)) := rfl
  refine ⟨rfl, ⟨by show mZ M ≤ mZ M + 1 + 1 + 1 + 1; omega, fun a ha => ⟨⟨?_, ?_, fun f => ?_⟩, fun _ => ⟨fun f => ?_, ?_, ?_, ?_⟩⟩⟩, ⟨?_, ?_, ?_, ?_⟩, ?_, ?_, ?_, ?_, ?_, ?_⟩
  · rw [eK]; unfold va_up; rw [if_neg (by omega), if_neg (by omega), if_neg (by omega), if_neg (by omega)]
  · rw [eN]; unfold va_up; rw [if_neg (by omega), if_neg (by omega), if_neg (by omega)]
  · rw [eR]; unfold up2; dsimp only; rw [if_neg (by omega), if_neg (by omega), if_neg (by omega), if_neg (by omega)]
  · show up2 (up2 (up2 (up2 (fun f b => if b = mZ M then 0 else mI M f b) 96 (mZ M) 1) 97 (mZ M) 0) 98 (mZ M) 0) 99 (mZ M) 0 f a = _
    unfold up2; dsimp only; rw [if_neg (by omega), if_neg (by omega), if_neg (by omega), if_neg (by omega), if_neg (by omega)]
  · show va_up (va_up (va_up (mA M) (mZ M + 1) _) (mZ M + 1 + 1) _) (mZ M + 1 + 1 + 1) _ a = _
    unfold va_up; rw [if_neg (by omega), if_neg (by omega), if_neg (by omega)]
  · show va_up (va_up (va_up (mB M) (mZ M + 1) _) (mZ M + 1 + 1) _) (mZ M + 1 + 1 + 1) _ a = _
    unfold va_up; rw [if_neg (by omega), if_neg (by omega), if_neg (by omega)]
  · show va_up (va_up (va_up (mL M) (mZ M + 1) _) (mZ M + 1 + 1) _) (mZ M + 1 + 1 + 1) _ a = _
    unfold va_up; rw [if_neg (by omega), if_neg (by omega), if_neg (by omega)]
  · rw [eK]; unfold va_up; rw [if_neg (by omega), if_neg (by omega), if_neg (by omega), if_pos rfl]
  · rw [eR]; unfold up2; rw [if_neg (by omega), if_neg (by omega), if_pos ⟨rfl, rfl⟩]
  · rw [eR]; unfold up2; rw [if_neg (by omega), if_pos ⟨rfl, rfl⟩]
  · rw [eR]; unfold up2; rw [if_pos ⟨rfl, rfl⟩]
  · rw [eK]; unfold va_up; rw [if_neg (by omega), if_neg (by omega), if_pos rfl]
  · rw [eN]; unfold va_up; rw [if_neg (by omega), if_neg (by omega), if_pos rfl]
  · rw [eK]; unfold va_up; rw [if_neg (by omega), if_pos rfl]
  · rw [eN]; unfold va_up; rw [if_neg (by omega), if_pos rfl]
  · rw [eK]; unfold va_up; rw [if_pos rfl]
  · rw [eN]; unfold va_up; rw [if_pos rfl]
theorem gRn_ok {M : Mem} {k f a v : Nat} (h : mK M a = k) (h2 : mR M f a = some v) : gRn k f a M = some v := by unfold gRn; rw [if_pos h, h2]
theorem X3_init {M : Mem} {w : Nat} (hw : w = mZ M) : ∃ M', f_X3_init w (newO 4 M) = some M' ∧ Fr (fun _ => False) M M' ∧ WS M' w id ∧ mZ M' = w + 24 := by
  obtain ⟨z0, f0, ⟨a1, a2, a3, a4⟩, b1, b2, b3, b4, b5, b6⟩ := hdW_all hw
  obtain ⟨z1, f1, c1⟩ := addN_all (hdW M w) (w + 1) (by omega) 4
  have z1' : mZ (addN (hdW M w) (w + 1) 4) = w + 12 := by rw [z1, z0]
  obtain ⟨z2, f2, c2⟩ := addN_all (addN (hdW M w) (w + 1) 4) (w + 2) (by omega) 6
  have g := fun n (hn : n ≤ 4) => addN_all (hdW M w) (w + 1) (by omega) n
  have g' := fun n (hn : n ≤ 6) => addN_all (addN (hdW M w) (w + 1) 4) (w + 2) (by omega) n
  refine ⟨addN (addN (hdW M w) (w + 1) 4) (w + 2) 6, ?_, ?_, ?_, by rw [z2, z1']⟩
  · have k0 : mK (newO 4 M) w = 4 := by show va_up (mK M) (mZ M) 4 w = 4; unfold va_up; rw [if_pos hw]
    have step1 : ∀ i, i < 4 → ∀ (K : Mem → Option Mem), ((gRn 4 100 w (addN (hdW M w) (w + 1) i)).bind fun v => bnew 3 (addN (hdW M w) (w + 1) i) fun v1 M2 => (f_X2_init v1 M2).bind fun M3 => (sBn 10 3 v (nI i) v1 M3).bind K) = K (addN (hdW M w) (w + 1) (i + 1)) := by
      intro i hi K
      obtain ⟨g1, g2, g3⟩ := g i (by omega)
      have e0 := (g2.2 w (by omega)).1
      have e1 := (g2.2 (w + 1) (by omega)).1
      rw [gRn_ok (e0.1.trans a1) ((e0.2.2 _).trans a2), Option.bind_some]
      exact addS_eq (e1.1.trans b1) (e1.2.1.trans b2) hi (by omega) (by rw [g1]; omega)
    have step2 : ∀ i, i < 6 → ∀ (K : Mem → Option Mem), ((gRn 4 101 w (addN (addN (hdW M w) (w + 1) 4) (w + 2) i)).bind fun v => bnew 3 (addN (addN (hdW M w) (w + 1) 4) (w + 2) i) fun v1 M2 => (f_X2_init v1 M2).bind fun M3 => (sBn 10 3 v (nI i) v1 M3).bind K) = K (addN (addN (hdW M w) (w + 1) 4) (w + 2) (i + 1)) := by
      intro i hi K
      obtain ⟨g1, g2, g3⟩ := g' i (by omega)
      have e0 := (g2.2 w (by omega)).1
      have e1 := (g2.2 (w + 2) (by omega)).1
      have d0 := (f1.2 w (by omega)).1
      have d1 := (f1.2 (w + 2) (by omega)).1
      rw [gRn_ok (e0.1.trans (d0.1.trans a1)) ((e0.2.2 _).trans ((d0.2.2 _).trans a3)), Option.bind_some]
      exact addS_eq (e1.1.trans (d1.1.trans b3)) (e1.2.1.trans (d1.2.1.trans b4)) hi (by omega) (by rw [g1]; omega)
    have hd : ∀ (K : Mem → Option Mem), ((sI 4 96 w 1 (newO 4 M)).bind fun M1 => (sI 4 97 w 0 M1).bind fun M2 => (sI 4 98 w 0 M2).bind fun M3 => (sI 4 99 w 0 M3).bind fun M4 => bnewa 10 4 M4 fun v5 M6 => (sR 4 100 w (some v5) M6).bind fun M7 => bnewa 10 6 M7 fun v8 M9 => (sR 4 101 w (some v8) M9).bind fun M10 => bnewa 9 6 M10 fun v11 M12 => (sR 4 102 w (some v11) M12).bind K) = K (hdW M w) := by
      intro K
      have kk : ∀ (k n z : Nat) (M : Mem), mK M w = 4 → w < mZ M → mK (newA k n M) w = 4 := fun k n z M h h2 => by
        show va_up (mK M) (mZ M) k w = 4; unfold va_up; rw [if_neg (by omega), h]
      subst hw
      have q1 : mK (newA 10 4 (wI (wI (wI (wI (newO 4 M) 96 (mZ M) 1) 97 (mZ M) 0) 98 (mZ M) 0) 99 (mZ M) 0)) (mZ M) = 4 := kk _ _ 0 _ k0 (by show mZ M < mZ M + 1; omega)
      have q2 : mK (newA 10 6 (wR (newA 10 4 (wI (wI (wI (wI (newO 4 M) 96 (mZ M) 1) 97 (mZ M) 0) 98 (mZ M) 0) 99 (mZ M) 0)) 100 (mZ M) (some (mZ M + 1)))) (mZ M) = 4 := kk _ _ 0 _ q1 (by show mZ M < mZ M + 1 + 1; omega)
      have q3 : mK (newA 9 6 (wR (newA 10 6 (wR (newA 10 4 (wI (wI (wI (wI (newO 4 M) 96 (mZ M) 1) 97 (mZ M) 0) 98 (mZ M) 0) 99 (mZ M) 0)) 100 (mZ M) (some (mZ M + 1)))) 101 (mZ M) (some (mZ M + 2)))) (mZ M) = 4 := kk _ _ 0 _ q2 (by show mZ M < mZ M + 1 + 1 + 1; omega)
      rw [sI_w, if_pos k0, Option.bind_some, sI_w, if_pos (show mK (wI (newO 4 M) 96 (mZ M) 1) (mZ M) = 4 from k0), Option.bind_some, sI_w, if_pos (show mK (wI (wI (newO 4 M) 96 (mZ M) 1) 97 (mZ M) 0) (mZ M) = 4 from k0), Option.bind_some, sI_w, if_pos (show mK (wI (wI (wI (newO 4 M) 96 (mZ M) 1) 97 (mZ M) 0) 98 (mZ M) 0) (mZ M) = 4 from k0), Option.bind_some]
      show ((sR 4 100 (mZ M) (some (mZ M + 1)) (newA 10 4 (wI (wI (wI (wI (newO 4 M) 96 (mZ M) 1) 97 (mZ M) 0) 98 (mZ M) 0) 99 (mZ M) 0))).bind _) = _
      rw [sR_w, if_pos q1, Option.bind_some]
      show ((sR 4 101 (mZ M) (some (mZ M + 2)) (newA 10 6 (wR (newA 10 4 (wI (wI (wI (wI (newO 4 M) 96 (mZ M) 1) 97 (mZ M) 0) 98 (mZ M) 0) 99 (mZ M) 0)) 100 (mZ M) (some (mZ M + 1))))).bind _) = _
      rw [sR_w, if_pos q2, Option.bind_some]
      show ((sR 4 102 (mZ M) (some (mZ M + 3)) (newA 9 6 (wR (newA 10 6 (wR (newA 10 4 (wI (wI (wI (wI (newO 4 M) 96 (mZ M) 1) 97 (mZ M) 0) 98 (mZ M) 0) 99 (mZ M) 0)) 100 (mZ M) (some (mZ M + 1)))) 101 (mZ M) (some (mZ M + 2))))).bind _) = _
      rw [sR_w, if_pos q3, Option.bind_some]
      rfl
    unfold f_X3_init
    refine (hd _).trans ?_
    refine (step1 0 (by omega) _).trans ?_
    refine (step1 1 (by omega) _).trans ?_
    refine (step1 2 (by omega) _).trans ?_
    refine (step1 3 (by omega) _).trans ?_
    refine (step2 0 (by omega) _).trans ?_
    refine (step2 1 (by omega) _).trans ?_
    refine (step2 2 (by omega) _).trans ?_
    refine (step2 3 (by omega) _).trans ?_
    refine (step2 4 (by omega) _).trans ?_
    exact step2 5 (by omega) _
  · refine ⟨by rw [z2]; omega, fun a ha => ?_⟩
    have h0 := f0.2 a ha
    have h1 := f1.2 a (by omega)
    have h2 := f2.2 a (by omega)
    have h1' := h1.2 (by omega); have h2' := h2.2 (by omega); have h0' := h0.2 id
    exact ⟨⟨h2.1.1.trans (h1.1.1.trans h0.1.1), h2.1.2.1.trans (h1.1.2.1.trans h0.1.2.1), fun f => (h2.1.2.2 f).trans ((h1.1.2.2 f).trans (h0.1.2.2 f))⟩, fun _ => ⟨fun f => (h2'.1 f).trans ((h1'.1 f).trans (h0'.1 f)), h2'.2.1.trans (h1'.2.1.trans h0'.2.1), h2'.2.2.1.trans (h1'.2.2.1.trans h0'.2.2.1), h2'.2.2.2.trans (h1'.2.2.2.trans h0'.2.2.2)⟩⟩
  · have e := fun a (ha : a < w + 4) => (f1.2 a (by omega)).1
    have e' := fun a (ha : a < w + 12) => (f2.2 a (by omega)).1
    refine ⟨⟨(e' w (by omega)).1.trans ((e w (by omega)).1.trans a1), ((e' w (by omega)).2.2 _).trans (((e w (by omega)).2.2 _).trans a2), ((e' w (by omega)).2.2 _).trans (((e w (by omega)).2.2 _).trans a3), ((e' w (by omega)).2.2 _).trans (((e w (by omega)).2.2 _).trans a4)⟩, ⟨(e' (w + 1) (by omega)).1.trans ((e (w + 1) (by omega)).1.trans b1), (e' (w + 1) (by omega)).2.1.trans ((e (w + 1) (by omega)).2.1.trans b2), (e' (w + 2) (by omega)).1.trans ((e (w + 2) (by omega)).1.trans b3), (e' (w + 2) (by omega)).2.1.trans ((e (w + 2) (by omega)).2.1.trans b4), (e' (w + 3) (by omega)).1.trans ((e (w + 3) (by omega)).1.trans b5), (e' (w + 3) (by omega)).2.1.trans ((e (w + 3) (by omega)).2.1.trans b6)⟩, fun i hi => ?_, fun i hi => ⟨?_, hi⟩, fun j hj => ?_, fun i j _ _ h => h⟩
    · rw [((f2.2 (w + 1) (by omega)).2 (by omega)).2.2.1, (c1 i hi).1, z0]
    · rw [(c2 i hi).1, z1']; rfl
    · by_cases q : j < 4
      · have := (c1 j q).2.fr f2 (by omega) (by omega)
        rw [z0] at this; rwa [show w + 5 + 2 * j = w + 4 + 2 * j + 1 by omega]
      · have := (c2 (j - 4) (by omega)).2
        rw [z1'] at this; rwa [show w + 5 + 2 * j = w + 12 + 2 * (j - 4) + 1 by omega, show w + 4 + 2 * j = w + 12 + 2 * (j - 4) by omega]
section HI
variable {M : Mem} {hx hr : Nat}
def Hs (M : Mem) (hx hr : Nat) : Prop := mK M hx = 1 ∧ mR M 0 hx = some hr ∧ mK M hr = 11 ∧ mN M hr = 10
theorem Hs.fr {P : Nat → Prop} {M' : Mem} (h : Hs M hx hr) (f : Fr P M M') (h1 : hx < mZ M) (h2 : hr < mZ M) : Hs M' hx hr := by
  obtain ⟨a, b, c, d⟩ := h
  have e := (f.2 hx h1).1; have e' := (f.2 hr h2).1
  exact ⟨e.1.trans a, (e.2.2 _).trans b, e'.1.trans c, e'.2.1.trans d⟩
theorem H0 (h : Hs M hx hr) : gRn 1 0 hx M = some hr := gRn_ok h.1 h.2.1
theorem HB (h : Hs M hx hr) {i : Nat} (hi : i < 10) : gB 11 hr (nI i) M = some (mB M hr i) := by
  unfold gB; rw [if_pos ⟨h.2.2.1, by rw [h.2.2.2, inT hi (by omega)]; exact not_false⟩, nI_cl (by omega)]
theorem HBn (h : Hs M hx hr) {i : Nat} (hi : i < 10) : gBn 11 hr (nI i) M = mB M hr i := by
  unfold gBn; rw [if_pos ⟨h.2.2.1, by rw [h.2.2.2, inT hi (by omega)]; exact not_false⟩, nI_cl (by omega)]
theorem HsB (h : Hs M hx hr) {i v : Nat} (hi : i < 10) (hv : mK M v = 4) : sBn 11 4 hr (nI i) v M = some (wB M hr (u1 (mB M hr) i (some v))) := by
  rw [sBn_w, if_pos ⟨h.2.2.1, hv, by rw [h.2.2.2, inT hi (by omega)]; exact not_false⟩, nI_cl (by omega)]
theorem HI1 (h : Hs M hx hr) {f : Nat} : gI 1 f hx M = some (mI M f hx) := by unfold gI; rw [if_pos h.1]
theorem HsI (h : Hs M hx hr) {f : Nat} {v : Int32} : sI 1 f hx v M = some (wI M f hx v) := by rw [sI_w, if_pos h.1]
theorem Hs.wI {f a : Nat} {g : Int32} (h : Hs M hx hr) : Hs (Jvm.Pilot.COfflineNotesLaw_law_r8929_57547b.wI M f a g) hx hr := h
theorem X0_rowAt (h : Hs M hx hr) (h1 : hx < mZ M) (h2 : hr < mZ M) {i : Nat} (hi : i < 10) : ∃ w M', f_X0_rowAt hx (nI i) M = some (w, M') ∧ Fr (fun a => a = hr) M M' ∧ mB M' hr = u1 (mB M hr) i (some w) ∧ ((mB M hr i = some w ∧ M' = M) ∨ (mB M hr i = none ∧ w = mZ M ∧ WS M' w id ∧ mZ M' = w + 24)) := by
  cases e : mB M hr i with
  | some w =>
    refine ⟨w, M, ?_, Fr.refl M, ?_, Or.inl ⟨rfl, rfl⟩⟩
    · simp only [f_X0_rowAt, fj_X0_rowAt_22, H0 h, HB h hi, HBn h hi, e, cK, bn, Option.bind_some, Option.map_some]
    · funext j; unfold u1; by_cases q : j = i
      · rw [if_pos q, q, e]
      · rw [if_neg q]
  | none =>
    obtain ⟨M1, e1, f1, w1, z1⟩ := X3_init (M := M) rfl
    have hs1 := h.fr f1 h1 h2
    have fin : Hs (wB M1 hr (u1 (mB M1 hr) i (some (mZ M)))) hx hr := hs1
    have eB : mB M1 hr = mB M hr := ((f1.2 hr h2).2 id).2.2.1
    refine ⟨mZ M, wB M1 hr (u1 (mB M1 hr) i (some (mZ M))), ?_, (f1.mono (fun a h => h.elim)).tr (Fr.wB rfl), ?_, Or.inr ⟨rfl, rfl, ?_, z1⟩⟩
    · have e3 : gRn 1 0 hx (wB M1 hr (u1 (mB M1 hr) i (some (mZ M)))) = some hr := H0 fin
      have e4 : gBn 11 hr (nI i) (wB M1 hr (u1 (mB M1 hr) i (some (mZ M)))) = some (mZ M) := by rw [HBn fin hi, wB_self, u1_self]
      simp only [f_X0_rowAt, fj_X0_rowAt_22, H0 h, HB h hi, e, cK, bn, Option.bind_some, Option.map_some, bnew, e1, HsB hs1 hi w1.1.1, e3, e4]
    · rw [wB_self, eB]
    · exact w1.fr (P := fun a => a = hr) (by omega) (Fr.wB rfl) ⟨by rw [mB_wB, if_neg (by omega)], by rw [mB_wB, if_neg (by omega)]⟩
theorem X0_record {cw nx h : Nat} {p : Nat → Nat} {g : Nat → Int32} (hh : Hs M hx hr) (h1 : hx < mZ M) (h2 : hr < mZ M) (hn : nx < 10) (hc : h ≤ 10) (e1 : mI M 1 hx = nI nx) (e2 : mI M 2 hx = nI h) (hr0 : RelP M cw p g) (hz : cw + 24 ≤ mZ M) (hne : hx ≠ hr ∧ (hx < cw ∨ cw + 24 ≤ hx) ∧ (hr < cw ∨ cw + 24 ≤ hr))
    (hold : ∀ w, mB M hr nx = some w → (∃ q, WS M w q) ∧ w + 24 ≤ mZ M ∧ (w + 24 ≤ cw ∨ cw + 24 ≤ w) ∧ (hx < w ∨ w + 24 ≤ hx) ∧ (hr < w ∨ w + 24 ≤ hr)) :
    ∃ w q M', f_X0_record hx cw M = some M' ∧ Fr (fun a => a = hr ∨ a = hx ∨ inW w a) M M' ∧ mB M' hr = u1 (mB M hr) nx (some w) ∧ RelP M' w q g ∧ w + 24 ≤ mZ M' ∧ mI M' 1 hx = nI ((nx + 1) % 10) ∧ mI M' 2 hx = nI (if h = 10 then 10 else h + 1) ∧ (mB M hr nx = some w ∨ w = mZ M) := by
  obtain ⟨w, M1, r1, f1, b1, alt⟩ := X0_rowAt hh h1 h2 hn
  have hws : (∃ q, WS M1 w q) ∧ w + 24 ≤ mZ M1 ∧ (w + 24 ≤ cw ∨ cw + 24 ≤ w) ∧ (hx < w ∨ w + 24 ≤ hx) ∧ (hr < w ∨ w + 24 ≤ hr) ∧ (mB M hr nx = some w ∨ w = mZ M) := by
    rcases alt with ⟨c1, c2⟩ | ⟨c1, c2, c3, c4⟩
    · subst c2; obtain ⟨d1, d2, d3, d4, d5⟩ := hold w c1; exact ⟨d1, d2, d3, d4, d5, Or.inl c1⟩
    · exact ⟨⟨id, c3⟩, by omega, by omega, by omega, by omega, Or.inr c2⟩
  obtain ⟨⟨q, wq⟩, wz, gap, gx, gr, wo⟩ := hws
  have hr1 : RelP M1 cw p g := hr0.fr hz f1 (fun i hi => by omega)
  obtain ⟨M2, s2, f2, rel2⟩ := X3_copyFrom wq hr1 gap wz (Nat.le_trans hz f1.1)
  have hh1 := hh.fr f1 h1 h2
  have hh2 := hh1.fr f2.1 (Nat.lt_of_lt_of_le h1 f1.1) (Nat.lt_of_lt_of_le h2 f1.1)
  have i1 : ∀ f, mI M2 f hx = mI M f hx := fun f => ((f2.1.at (Nat.lt_of_lt_of_le h1 f1.1) (by unfold inW; omega)).1 f).trans ((f1.at h1 hne.1).1 f)
  have eB : mB M2 hr = mB M1 hr := (f2.1.at (Nat.lt_of_lt_of_le h2 f1.1) (by unfold inW; omega)).2.2.1
  refine ⟨w, q, wI (wI M2 1 hx (nI ((nx + 1) % 10))) 2 hx (nI (if h = 10 then 10 else h + 1)), ?_, ?_, ?_, ?_, Nat.le_trans wz f2.1.1, ?_, ?_, wo⟩
  · have m10 : nI (nx + 1) - nI ((nx + 1) / 10 * 10) = nI ((nx + 1) % 10) := by rw [nI_sub (by omega)]; congr 1; omega
    have hmin : (if nI 10 < nI (h + 1) then nI 10 else nI (h + 1)) = nI (if h = 10 then 10 else h + 1) := by
      by_cases c : h = 10
      · subst c; rfl
      · rw [if_neg (nI_nlt (by omega) (by omega)), if_neg c]
    have e3 : mI (wI M2 1 hx (nI ((nx + 1) % 10))) 2 hx = nI h := by rw [mI_wI, if_neg (by omega), i1, e2]
    simp (disch := omega) only [f_X0_record, HI1 hh, e1, r1, hh.1, s2, wq.1.1, HI1 hh2, i1, HsI hh2, cK, bn, Option.bind_some, Option.map_some, lit_nI, nI_add, nI_div, nI_mul, m10, HI1 (Hs.wI hh2), HsI (Hs.wI hh2), e3, hmin, if_true, if_false, if_pos, if_neg, true_and, and_true, not_false_eq_true, or_self, or_false, false_or, reduceIte, and_self, not_true_eq_false, ne_eq]
  · have l1 : Fr (fun a => a = hr ∨ a = hx ∨ inW w a) M M1 := f1.mono (fun a h => Or.inl h)
    have l2 : Fr (fun a => a = hr ∨ a = hx ∨ inW w a) M1 M2 := f2.1.mono (fun a h => Or.inr (Or.inr h))
    exact ((l1.tr l2).tr (Fr.wI (b := hx) (Or.inr (Or.inl rfl)))).tr (Fr.wI (b := hx) (Or.inr (Or.inl rfl)))
  · show mB M2 hr = _; rw [eB, b1]
  · exact RelP.fr (P := fun a => a = hx) rel2 (Nat.le_trans wz f2.1.1) ((Fr.wI (P := fun a => a = hx) (b := hx) rfl).tr (Fr.wI (P := fun a => a = hx) (b := hx) rfl)) (fun i hi => by omega)
  · rw [mI_wI, if_neg (by omega), mI_wI, if_pos ⟨rfl, rfl⟩]
  · rw [mI_wI, if_pos ⟨rfl, rfl⟩]
theorem X0_exchange {cw w nx h : Nat} (hh : Hs M hx hr) (hn : nx < 10) (hc : 0 < h ∧ h ≤ 10) (e1 : mI M 1 hx = nI nx) (e2 : mI M 2 hx = nI h) (ew : mB M hr ((nx + 9) % 10) = some w) (hk : mK M cw = 4) : f_X0_exchange hx cw M = some (w, wB (wI (wI M 1 hx (nI ((nx + 9) % 10))) 2 hx (nI (h - 1))) hr (u1 (mB M hr) ((nx + 9) % 10) (some cw))) := by
  have m10 : nI (nx + 9) - nI ((nx + 9) / 10 * 10) = nI ((nx + 9) % 10) := by rw [nI_sub (by omega)]; congr 1; omega
  have a1 : mI (wI M 1 hx (nI ((nx + 9) % 10))) 2 hx = nI h := by rw [mI_wI, if_neg (by omega), e2]
  have a2 : mI (wI (wI M 1 hx (nI ((nx + 9) % 10))) 2 hx (nI (h - 1))) 1 hx = nI ((nx + 9) % 10) := by rw [mI_wI, if_neg (by omega), mI_wI, if_pos ⟨rfl, rfl⟩]
  have s0 : nI (nx + 10) - nI 1 = nI (nx + 9) := nI_sub (by omega)
  have s1 : nI h - nI 1 = nI (h - 1) := nI_sub (by omega)
  have hi : (nx + 9) % 10 < 10 := by omega
  have h3 : Hs (wI (wI M 1 hx (nI ((nx + 9) % 10))) 2 hx (nI (h - 1))) hx hr := hh
  have ra : f_X0_rowAt hx (nI ((nx + 9) % 10)) (wI (wI M 1 hx (nI ((nx + 9) % 10))) 2 hx (nI (h - 1))) = some (w, wI (wI M 1 hx (nI ((nx + 9) % 10))) 2 hx (nI (h - 1))) := by
    simp only [f_X0_rowAt, fj_X0_rowAt_22, H0 h3, HB h3 hi, HBn h3 hi, mK_wI, mN_wI, mR_wI, mA_wI, mB_wI, mL_wI, mZ_wI, mK_wA, mN_wA, mI_wA, mR_wA, mB_wA, mL_wA, mZ_wA, mK_wB, mN_wB, mI_wB, mR_wB, mA_wB, mL_wB, mZ_wB, mK_wR, mN_wR, mI_wR, mA_wR, mB_wR, mL_wR, mZ_wR, mK_wL, mN_wL, mI_wL, mR_wL, mA_wL, mB_wL, mZ_wL, ew, cK, bn, Option.bind_some, Option.map_some]
  have kc : mK (wI (wI M 1 hx (nI ((nx + 9) % 10))) 2 hx (nI (h - 1))) cw = 4 := hk
  simp (disch := omega) only [f_X0_exchange, HI1 hh, e1, lit_nI, nI_add, s0, nI_div, nI_mul, m10, HsI hh, cK, bn, Option.bind_some, Option.map_some, HI1 (Hs.wI hh), a1, s1, HsI (Hs.wI hh), HI1 h3, a2, ra, hh.1, mK_wI, mN_wI, mR_wI, mA_wI, mB_wI, mL_wI, mZ_wI, mK_wA, mN_wA, mI_wA, mR_wA, mB_wA, mL_wA, mZ_wA, mK_wB, mN_wB, mI_wB, mR_wB, mA_wB, mL_wB, mZ_wB, mK_wR, mN_wR, mI_wR, mA_wR, mB_wR, mL_wR, mZ_wR, mK_wL, mN_wL, mI_wL, mR_wL, mA_wL, mB_wL, mZ_wL, H0 h3, HsB h3 hi kc, if_true, if_false, if_pos, if_neg, true_and, and_true, not_false_eq_true, or_self, or_false, false_or, reduceIte, and_self, not_true_eq_false, ne_eq]
theorem X0_forget (hh : Hs M hx hr) : f_X0_forget hx M = some (wI M 2 hx 0) := by
  simp only [f_X0_forget, HsI hh, cK, bn, Option.bind_some, Option.map_some]
end HI
