/-! LOAD: class and reference -/
def nul (f : Nat → Option Nat) (n : Nat) : Nat → Option Nat := fun j => if j < n then none else f j
theorem nul_step (f : Nat → Option Nat) (n : Nat) : u1 (nul f n) n none = nul f (n + 1) := by
  funext q; unfold u1 nul
  by_cases e : q = n
  · rw [if_pos e, if_pos (by omega)]
  · rw [if_neg e]; by_cases e2 : q < n
    · rw [if_pos e2, if_pos (by omega)]
    · rw [if_neg e2, if_neg (by omega)]
theorem nul_0 (f : Nat → Option Nat) : nul f 0 = f := funext fun q => if_neg (by omega)
section LO2
variable {n x : Nat} {M : Mem}
theorem lw_genx {H : Nat → Mem → Option (Int32 × Mem)} {F : Option ((Int32 ⊕ Nat) × Mem)} {G : Mem → Option (Int32 × Mem)} (hI : Inv n x M) {E : Nat} {kx : Int32} {M1 : Mem} (hk0 : kx ≠ 0) (hH : ∀ M, H E M = some (kx, M)) (h1 : F = some (.inr E, M1)) (f1 : Fix x M1)
    (h3 : ∀ z, wfz (setZ M1 z) → ∃ v M4, G (setZ M1 z) = some (v, M4) ∧ Fix x M4 ∧ mI M4 161 (x + 60) = kx ∧ Inv (n + 1) x M4) :
    ∃ kv M1, (bx (cK 5 x M F) H fun v1 M2 => (sL (x + 68) 0 v1.toInt64 M2).bind fun M3 => some (0, M3)) = some (kv, M1) ∧ ∀ z, wfz (setZ M1 z) → ∃ M2, (bn (cK 6 (x + 60) (setZ M1 z) (G (setZ M1 z))) fun v4 M3 => bn (cK 6 (x + 60) M3 (f_X5_thrown (x + 60) M3)) fun v6 M5 => (if v6 = kv then (if kv = 0 then (gL (x + 68) 0 M5).bind fun v7 => (if (lg_cmp v7 v4.toInt64) = 0 then some M5 else none) else some M5) else none)) = some M2 ∧ Inv (n + 1) x M2 := by
  have fx := hI.fix
  refine ⟨kx, M1, ?_, fun z hz => ?_⟩
  · rw [cK_ok fx.1.1, h1]; exact hH M1
  · obtain ⟨v, M4, e1, f3, e161, hi⟩ := h3 z hz
    have f2 : Fix x (setZ M1 z) := f1
    refine ⟨M4, ?_, hi⟩
    rw [cK_ok f2.rn.1, e1, bn_some, cK_ok f3.rn.1, thrown_eq f3.rn.1, bn_some, if_pos e161, if_neg hk0]
theorem case_1 (hI : Inv n x M) (hz : wfz M) (hn : 600 ≤ n) {a : Int32} : fk_law_1 x (x + 60) (x + 68) a M (Inv (n + 1) x) := by
  obtain ⟨w, p, h, b, hD⟩ := hI.d
  have fx := hI.fix
  obtain ⟨a1, a2, a3, ⟨len, ol, b1, b2, b3, b4, b5, b6, b7, b8, b9, b10⟩, a5, a6, a7, a8⟩ := id hD
  have hz69 : x + 69 ≤ mZ M := by
    have := hz (x + 68) (by rw [fx.2.2.2.2.2.2.2.2.1]; decide)
    omega
  have bad : (¬ ∃ r, r ≤ len ∧ a = nI r) → fk_law_1 x (x + 60) (x + 68) a M (Inv (n + 1) x) := fun hb => by
    have hb' : a < 0 ∨ ¬ a ≤ nI len := by
      by_cases c0 : a < 0
      · exact Or.inl c0
      · obtain ⟨j, hj, rfl⟩ := nI_of c0
        refine Or.inr (fun e => hb ⟨j, ?_, rfl⟩)
        refine Nat.le_of_not_lt fun c => nI_ge c (by omega) e
    refine lw_gen (H := hnd2 0 1) (F := f_X4_load x a M) (G := f_X5_load (x + 60) a) hI (Or.inr ⟨0, 1, M, by decide, fun M => rfl, ?_, CSim.refl, fun M2 f2 eI _ => ⟨0, ?_⟩⟩)
    · have g129 : gI 5 129 x M = some (nI len) := by unfold gI; rw [if_pos fx.1.1, b3]
      by_cases c0 : a < 0
      · simp only [f_X4_load, fj_X4_load_12, c0, if_true]
      · have c1 := hb'.resolve_left c0
        simp only [f_X4_load, fj_X4_load_12, c0, if_false, g129, Option.bind_some, c1]
    · have gi6 : gI 6 169 (x + 60) (wA M2 (x + 62) (mA M (x + 62))) = some (nI len) := by
        unfold gI; rw [if_pos (show mK (wA M2 (x + 62) (mA M (x + 62))) (x + 60) = 6 from f2.rn.1)]; exact congrArg some ((eI 169 (by omega) (by omega)).trans b4)
      have inr : f_X5_in a 0 (nI len) (wA M2 (x + 62) (mA M (x + 62))) = some (0, wA M2 (x + 62) (mA M (x + 62))) := by
        rw [in_b01, b01_f (fun e => hb'.elim (Int32.not_lt.mpr e.1) (fun c => c e.2))]
      simp only [f_X5_load, cK, kM f2.rn, if_true, if_false, bn, Option.bind_some, Option.map_some, told_eq f2.rn, refuse_eq f2.rn, refuses_eq f2.rn, e10, b01_or, true_or, or_true, gi6, inr]
  by_cases hb : ∃ r, r ≤ len ∧ a = nI r
  case neg => exact bad hb
  obtain ⟨r, hr, rfl⟩ := hb
  obtain ⟨sw, ps, M9, pa, epa, ⟨rt, c, e1, z2, c9⟩, f9, k9, st, out⟩ := c_load hD hz b3 hr b1
  have fx9 := c9.1
  obtain ⟨plS, _⟩ := c.2.2.1.1 1 sw e1
  unfold Place at plS
  have zs := z2 1 sw e1
  have n9 : ∀ y, y = x ∨ y = x + 1 ∨ y = x + 2 ∨ (x + 27 ≤ y ∧ y < x + 34) ∨ (x + 60 ≤ y ∧ y < x + 69) → (∀ f, mI M9 f y = mI M f y) ∧ mA M9 y = mA M y ∧ mB M9 y = mB M y ∧ mL M9 y = mL M y := fun y hy => f9.at (by omega) (by unfold inW; omega)
  have a134 : mR M9 134 x = some w := c9.2.1.1.trans c9.2.2.2.1.1
  have g134 : ∀ (u v : Int32), gRn 5 134 x (wI (wI (wI M9 129 x 0) 130 x u) 131 x v) = some w := fun u v => gRn_ok (M := wI (wI (wI M9 129 x 0) 130 x u) 131 x v) fx9.1.1 a134
  rw [g134, Option.bind_some] at st
  have inp : ∀ {M3 : Mem}, Fix x M3 → (∀ y, y = x + 61 ∨ y = x + 66 → mA M3 y = mA M9 y) → RB1 x r (mA M (x + 1)) M3 := fun {M3} f3 e3 => ⟨f3, by omega, fun i hi => by rw [e3 _ (Or.inr rfl), (n9 (x + 66) (by omega)).2.1]; exact ⟨(b9 i (by omega)).2, (b9 i (by omega)).1⟩, fun i hi => by rw [e3 _ (Or.inl rfl), (n9 (x + 61) (by omega)).2.1]; exact a5 i hi⟩
  cases ho : textR (mA M (x + 1)) r (zr (mA M (x + 62)) 1330) with
  | inl e =>
    obtain ⟨k, o⟩ := e
    obtain ⟨k0, _, ty, st9, en, hps, _⟩ := out.1 k o ho
    have e38 : mI M9 38 pa = k := hps.2.2.2.2.2.1
    have e39 : mI M9 39 pa = nI o := hps.2.2.2.2.2.2
    rw [e38, e39, if_neg k0] at st
    let M1 := wI (wI (wI M9 129 x 0) 130 x k) 131 x (nI o)
    have eI : ∀ f y, mI M1 f y = if f = 131 ∧ y = x then nI o else if f = 130 ∧ y = x then k else if f = 129 ∧ y = x then 0 else mI M9 f y := fun f y => by
      show mI (wI (wI (wI M9 129 x 0) 130 x k) 131 x (nI o)) f y = _
      rw [mI_wI, mI_wI, mI_wI]
    have f1 : Fix x M1 := fx9
    refine lw_genx (H := hnd2 0 1) (F := f_X4_load x (nI r) M) (G := f_X5_load (x + 60) (nI r)) hI (E := 1) (kx := 2) (M1 := M1) (by decide) (fun M => rfl) st f1 (fun z _ => ?_)
    let M3 := setZ M1 z
    have f3 : Fix x M3 := f1
    have h3 := inp (M3 := M3) f3 (fun y _ => rfl)
    have e62 : mA M3 (x + 62) = mA M (x + 62) := (n9 (x + 62) (by omega)).2.1
    obtain ⟨v, N2, l1, l2, l3, l4, l5⟩ := r_load h3 (len := len) (by rw [show mI M3 169 (x + 60) = mI M1 169 (x + 60) from rfl, eI, if_neg (by omega), if_neg (by omega), if_neg (by omega), (n9 (x + 60) (by omega)).1]; exact b4) hr b1
    rw [e62] at l4
    obtain ⟨m1, m2, m3, m4, m5, m6, m7⟩ := l4 k o ho
    have aA : ∀ y, y = x + 1 ∨ y = x + 2 ∨ y = x + 61 ∨ y = x + 64 ∨ y = x + 65 ∨ y = x + 66 ∨ y = x + 67 → mA N2 y = mA M y := fun y hy => (l2.2.2.2.1 y (by omega) (by omega)).trans (n9 y (by omega)).2.1
    have aI : ∀ f, f = 165 ∨ f = 167 ∨ f = 171 → mI M3 f (x + 60) = mI M f (x + 60) := fun f hf => by
      rw [show mI M3 f (x + 60) = mI M1 f (x + 60) from rfl, eI, if_neg (by omega), if_neg (by omega), if_neg (by omega)]; exact (n9 (x + 60) (by omega)).1 f
    have aX : ∀ f, mI N2 f x = mI M1 f x := fun f => l2.2.2.2.2.2.2.2 f x (by omega)
    have kp : Keep x M9 N2 := ⟨l2.1, l2.2.1, l2.2.2.1, l2.2.2.2.2.1, fun y h1 h2 h3 h4 h5 => l2.2.2.2.1 y (by omega) (by omega), fun f y h1 h2 => by
      rw [l2.2.2.2.2.2.2.2 f y (by omega), show mI M3 f y = mI M1 f y from rfl, eI, if_neg (by omega), if_neg (by omega), if_neg (by omega)]⟩
    refine ⟨v, N2, l1, f3.rl l2, m4, w, p, h, b, ?_, ?_, ?_, ⟨0, ol, by omega, b2, ?_, ?_, ?_, ?_, ?_, ?_, fun i hi => by omega, ?_⟩, ?_, ?_, ?_, ?_⟩
    · have cc : Cls x w p N2 (mA M (x + 62)) (mA M (x + 64)) h (mA M (x + 65)) b := ⟨rt, c9.keep kp⟩
      rw [aA (x + 64) (by omega), aA (x + 65) (by omega)]
      exact cc.congr (fun q hq => m7 q hq) (fun q _ => rfl) (fun s q _ _ _ => rfl)
    · rw [m5, aI 165 (by omega)]; exact a2
    · rw [m6, aI 167 (by omega)]; exact a3
    · rw [aX, eI, if_neg (by omega), if_neg (by omega), if_pos ⟨rfl, rfl⟩]; rfl
    · rw [l3]; rfl
    · rw [aX, eI, if_neg (by omega), if_neg (by omega), if_neg (by omega), (n9 x (by omega)).1]; exact b5
    · rw [l2.2.2.2.2.2.2.2 171 (x + 60) (by omega), aI 171 (by omega)]; exact b6
    · rw [aX, eI, if_neg (by omega), if_pos ⟨rfl, rfl⟩, m2]
    · rw [aX, eI, if_pos ⟨rfl, rfl⟩, m3]
    · rw [aA (x + 2) (by omega), aA (x + 67) (by omega)]; exact b10
    · rw [aA (x + 61) (by omega)]; exact a5
    · exact (a6.congr (fun q hq => m7 q hq)).mono (by omega)
    · rw [aA (x + 64) (by omega)]; exact fun j hj => (a7 j hj).mono (by omega)
    · rw [aA (x + 65) (by omega)]; exact fun s hs hb => (a8 s hs hb).mono (by omega)
  | inr g' =>
    obtain ⟨q', ⟨⟨st9, hps, _⟩, rel, _⟩⟩ := out.2 g' ho
    have e38 : mI M9 38 pa = 0 := hps.2.2.2.2.2.1
    have e39 : mI M9 39 pa = -1 := hps.2.2.2.2.2.2
    rw [e38, e39, if_pos rfl] at st
    let MB := wI (wR (wR (wI (wI (wI M9 129 x 0) 130 x 0) 131 x (-1)) 134 x (some sw)) 135 x (some w)) 2 (x + 27) 0
    let M1 := wB MB (x + 29) (nul (mB M9 (x + 29)) 2)
    have eI : ∀ f y, mI M1 f y = if f = 2 ∧ y = x + 27 then 0 else if f = 131 ∧ y = x then -1 else if f = 130 ∧ y = x then 0 else if f = 129 ∧ y = x then 0 else mI M9 f y := fun f y => by
      show mI (wI (wI (wI (wI M9 129 x 0) 130 x 0) 131 x (-1)) 2 (x + 27) 0) f y = _
      rw [mI_wI, mI_wI, mI_wI, mI_wI]
    have eR : ∀ f y, mR M1 f y = if f = 135 ∧ y = x then some w else if f = 134 ∧ y = x then some sw else mR M9 f y := fun f y => by
      show mR (wR (wR (wI (wI (wI M9 129 x 0) 130 x 0) 131 x (-1)) 134 x (some sw)) 135 x (some w)) f y = _
      rw [mR_wR, mR_wR]; rfl
    have eB : ∀ y, mB M1 y = if y = x + 29 then nul (mB M9 (x + 29)) 2 else mB M9 y := fun y => mB_wB _ _ _ _
    have eA : mA M1 = mA M9 := rfl
    have eK : mK M1 = mK M9 := rfl
    have eN : mN M1 = mN M9 := rfl
    have f1 : Fix x M1 := fx9.same (fun i _ => ⟨rfl, rfl⟩) (fun f i _ h1 h2 => by rw [eR, if_neg (by omega), if_neg (by omega)])
    have pw := (c.2.2.1.1 0 w c.2.2.2.1.1).1
    unfold Place at pw
    have lp : fj_X4_load_109 x 0 MB = some (.inl (g' 0), M1) := by
      have k5 : mK MB x = 5 := fx9.1.1
      have r137 : ∀ f, gRn 5 137 x (wB MB (x + 29) f) = some (x + 29) := fun f => gRn_ok (M := wB MB (x + 29) f) k5 (by
        show mR M1 137 x = _
        rw [eR, if_neg (by omega), if_neg (by omega)]; exact fx9.1.2.2.2.2.1)
      have k29 := fx9.2.2.2.1
      unfold fj_X4_load_109
      refine loopM_run (st := fun i => (nI i, wB MB (x + 29) (nul (mB M9 (x + 29)) i))) (N := 2) ?_ (fun i hi => ?_) ?_ (FUn (by decide))
      · show _ = (nI 0, wB MB (x + 29) (nul (mB M9 (x + 29)) 0))
        rw [nul_0, show mB M9 (x + 29) = mB MB (x + 29) from rfl, wB_id]; rfl
      · have l2 : ¬ ((2 : Int32) ≤ nI i) := nI_ge (b := 2) hi (by omega)
        have ei : nI i + 1 = nI (i + 1) := nI_add i 1
        have sb0 : sB0 11 (x + 29) (nI i) (wB MB (x + 29) (nul (mB M9 (x + 29)) i)) = some (wB MB (x + 29) (nul (mB M9 (x + 29)) (i + 1))) := by
          rw [sB0_w, if_pos ⟨show mK (wB MB (x + 29) (nul (mB M9 (x + 29)) i)) (x + 29) = 11 from k29.1, by rw [show mN (wB MB (x + 29) (nul (mB M9 (x + 29)) i)) (x + 29) = 2 from k29.2, inT (by omega) (by omega)]; exact not_false⟩, nI_cl (by omega), wB_self, wB_again, nul_step]
        simp only [fc_X4_load_109, l2, if_false, r137, Option.bind_some, sb0, ei]
      · have l2 : (2 : Int32) ≤ nI 2 := Int32.le_refl _
        have r134 : gRn 5 134 x M1 = some sw := gRn_ok (M := M1) k5 (by rw [eR, if_neg (by omega), if_pos ⟨rfl, rfl⟩])
        have i96 : gI 4 96 sw M1 = some (g' 0) := by
          unfold gI
          rw [if_pos (show mK M1 sw = 4 from rel.1.1.1), eI, if_neg (by omega), if_neg (by omega), if_neg (by omega), if_neg (by omega), rel.2.1.1]
        simp only [fc_X4_load_109, fj_X4_load_129, l2, if_true]
        show Option.map Sum.inr ((gRn 5 134 x M1).bind fun v23 => (gI 4 96 v23 M1).bind fun v24 => some ((Sum.inl v24 : Int32 ⊕ Nat), M1)) = _
        rw [r134, Option.bind_some, i96]; rfl
    refine lw_gen (H := hnd2 0 1) (F := f_X4_load x (nI r) M) (G := f_X5_load (x + 60) (nI r)) hI (Or.inl ⟨g' 0, M1, st.trans lp, f1, fun fL z _ => ?_⟩)
    let M3 := setZ (wL M1 (x + 68) fL) z
    have f3 : Fix x M3 := f1
    have h3 := inp (M3 := M3) f3 (fun y _ => rfl)
    have e62 : mA M3 (x + 62) = mA M (x + 62) := (n9 (x + 62) (by omega)).2.1
    obtain ⟨v, N2, l1, l2, l3, l4, l5⟩ := r_load h3 (len := len) (by rw [show mI M3 169 (x + 60) = mI M1 169 (x + 60) from rfl, eI, if_neg (by omega), if_neg (by omega), if_neg (by omega), if_neg (by omega), (n9 (x + 60) (by omega)).1]; exact b4) hr b1
    rw [e62] at l5
    obtain ⟨rfl, m2, m3, m4, m5, m6, m7⟩ := l5 g' ho
    have aA : ∀ y, y = x + 1 ∨ y = x + 2 ∨ y = x + 61 ∨ y = x + 64 ∨ y = x + 65 ∨ y = x + 66 ∨ y = x + 67 → mA N2 y = mA M y := fun y hy => (l2.2.2.2.1 y (by omega) (by omega)).trans (n9 y (by omega)).2.1
    have aX : ∀ f, mI N2 f x = mI M1 f x := fun f => l2.2.2.2.2.2.2.2 f x (by omega)
    have kp : Keep x M1 N2 := ⟨l2.1, l2.2.1, l2.2.2.1, l2.2.2.2.2.1, fun y h1 h2 h3 h4 h5 => l2.2.2.2.1 y (by omega) (by omega), fun f y h1 h2 => by
      rw [l2.2.2.2.2.2.2.2 f y (by omega)]; rfl⟩
    have wsS : ∀ k y q, rt k = some y → WS M9 y q → WS M1 y q := fun k y q e r => by
      have py := (c.2.2.1.1 k y e).1
      unfold Place at py
      exact r.same (fun i hi => ⟨rfl, rfl, fun f => by rw [eR, if_neg (by omega), if_neg (by omega)]⟩) ⟨by rw [eB, if_neg (by omega)], by rw [eB, if_neg (by omega)]⟩
    have relS : RelP M1 sw ps g' := rel.same (fun i hi => ⟨rfl, rfl, fun f => by rw [eR, if_neg (by omega), if_neg (by omega)]⟩) (fun i hi => ⟨fun f => by rw [eI, if_neg (by omega), if_neg (by omega), if_neg (by omega), if_neg (by omega)], rfl, by rw [eB, if_neg (by omega)]⟩)
    let rt' : Nat → Option Nat := fun k => if k = 0 then some sw else if k = 1 then some w else if k = 12 ∨ k = 13 then none else rt k
    have old : ∀ k y, rt' k = some y → ∃ k', rt k' = some y ∧ (k = 0 → k' = 1) ∧ (k = 1 → k' = 0) ∧ (k ≠ 0 → k ≠ 1 → k' = k) := fun k y e => by
      have e : (if k = 0 then some sw else if k = 1 then some w else if k = 12 ∨ k = 13 then none else rt k) = some y := e
      by_cases k0 : k = 0
      · rw [if_pos k0] at e; cases e; exact ⟨1, e1, fun _ => rfl, fun e => by omega, fun e => absurd k0 e⟩
      · rw [if_neg k0] at e
        by_cases k1 : k = 1
        · rw [if_pos k1] at e; cases e; exact ⟨0, c.2.2.2.1.1, fun e => by omega, fun _ => rfl, fun _ e => absurd k1 e⟩
        · rw [if_neg k1] at e
          by_cases k2 : k = 12 ∨ k = 13
          · rw [if_pos k2] at e; cases e
          · rw [if_neg k2] at e; exact ⟨k, e, fun e => absurd e k0, fun e => absurd e k1, fun _ _ => rfl⟩
    obtain ⟨_, ⟨p1, p2, p3, p4⟩, ⟨q1, q2, q3⟩, _, ⟨nx, h1, h2, h3', h4, h5⟩, _⟩ := id c9
    have cc : CC x sw ps rt' M1 g' (mA M (x + 64)) 0 (mA M (x + 65)) 0 := by
      refine ⟨f1, ⟨?_, ?_, fun i hi => ?_, fun s hs => ?_⟩, ⟨fun k y e => ?_, fun k k' y y' hk e e' => ?_, w, rfl⟩, ⟨rfl, relS⟩, ⟨nx, h1, by omega, ?_, ?_, fun j hj => by omega⟩, ⟨by omega, fun s hs => ⟨fun hb => ?_, fun _ => ?_⟩⟩⟩
      · rw [eR, if_neg (by omega), if_pos ⟨rfl, rfl⟩]; rfl
      · rw [eR, if_pos ⟨rfl, rfl⟩]; rfl
      · rw [eB, if_neg (by omega), p3 i hi]
        show _ = (if 2 + i = 0 then some sw else if 2 + i = 1 then some w else if 2 + i = 12 ∨ 2 + i = 13 then none else rt (2 + i))
        rw [if_neg (by omega), if_neg (by omega), if_neg (by omega)]
      · rw [eB, if_pos rfl]
        show nul (mB M9 (x + 29)) 2 s = (if 12 + s = 0 then some sw else if 12 + s = 1 then some w else if 12 + s = 12 ∨ 12 + s = 13 then none else rt (12 + s))
        rw [if_neg (by omega), if_neg (by omega), if_pos (by omega)]
        exact if_pos hs
      · obtain ⟨k', e', _⟩ := old k y e
        obtain ⟨pl, q, wq⟩ := q1 k' y e'
        exact ⟨pl, q, wsS k' y q e' wq⟩
      · obtain ⟨j, ej, j1, j2, j3⟩ := old k y e
        obtain ⟨j', ej', j1', j2', j3'⟩ := old k' y' e'
        exact q2 j j' y y' (by omega) ej ej'
      · rw [eI, if_neg (by omega), if_neg (by omega), if_neg (by omega), if_neg (by omega)]; exact h3'
      · rw [eI, if_pos ⟨rfl, rfl⟩]; rfl
      · unfold bit at hb
        rw [Nat.zero_div] at hb
        omega
      · show (if 12 + s = 0 then some sw else if 12 + s = 1 then some w else if 12 + s = 12 ∨ 12 + s = 13 then none else rt (12 + s)) = none
        rw [if_neg (by omega), if_neg (by omega), if_pos (by omega)]
    refine ⟨N2, l1, f3.rl l2, m4, by rw [l2.2.2.2.2.2.1]; exact wL_self _ _ _, sw, ps, 0, 0, ?_, ?_, ?_, ⟨0, ol, by omega, b2, ?_, ?_, ?_, ?_, ?_, ?_, fun i hi => by omega, ?_⟩, ?_, ?_, fun j hj => by omega, fun s hs hb => ?_⟩
    · rw [m7, aA (x + 64) (by omega), aA (x + 65) (by omega)]
      exact ⟨rt', cc.keep kp⟩
    · rw [m5]; rfl
    · rw [m6]; rfl
    · rw [aX, eI, if_neg (by omega), if_neg (by omega), if_neg (by omega), if_pos ⟨rfl, rfl⟩]; rfl
    · rw [l3]; rfl
    · rw [aX, eI, if_neg (by omega), if_neg (by omega), if_neg (by omega), if_neg (by omega), (n9 x (by omega)).1]; exact b5
    · rw [l2.2.2.2.2.2.2.2 171 (x + 60) (by omega), show mI M3 171 (x + 60) = mI M1 171 (x + 60) from rfl, eI, if_neg (by omega), if_neg (by omega), if_neg (by omega), if_neg (by omega), (n9 (x + 60) (by omega)).1]; exact b6
    · rw [aX, eI, if_neg (by omega), if_neg (by omega), if_pos ⟨rfl, rfl⟩, m2]
    · rw [aX, eI, if_neg (by omega), if_pos ⟨rfl, rfl⟩, m3]
    · rw [aA (x + 2) (by omega), aA (x + 67) (by omega)]; exact b10
    · rw [aA (x + 61) (by omega)]; exact a5
    · rw [m7]; exact (textR_wf (by omega) (fun q hq => zr_lo hq) ho).mono (by omega)
    · unfold bit at hb
      rw [Nat.zero_div] at hb
      omega
end LO2
