/-! LOAD, WHERE THE TEXT IS TAKEN; THE BEGINNING -/
def nul (f : Nat → Option Nat) (n : Nat) : Nat → Option Nat := fun j => if j < n then none else f j
theorem nul_step (f : Nat → Option Nat) (n : Nat) : u1 (nul f n) n none = nul f (n + 1) := by
  funext q; unfold u1 nul
  by_cases e : q = n
  · rw [if_pos e, if_pos (by omega)]
  · rw [if_neg e]; by_cases e2 : q < n
    · rw [if_pos e2, if_pos (by omega)]
    · rw [if_neg e2, if_neg (by omega)]
theorem nul_0 (f : Nat → Option Nat) : nul f 0 = f := funext fun q => if_neg (by omega)
section LD
variable {x : Nat} {M : Mem}
theorem c_load {w : Nat} {p : Nat → Nat} {g o v : GF} {h b : Nat} (hZ : ClsZ x w p M g o h v b) {len r : Nat} (e129 : mI M 129 x = nI len) (hr : r ≤ len) (h600 : len ≤ 600) : ∃ sw ps M9 pa, pa = mZ M ∧ (∃ rt, CC x w p rt M g o h v b ∧ rt 1 = some sw ∧ (∀ k u, rt k = some u → u + 24 ≤ mZ M) ∧ CC x w p rt M9 g o h v b) ∧ Fr (inW sw) M M9 ∧ mK M9 pa = 2 ∧
    f_X4_load x (nI r) M = ((gRn 5 134 x (wI (wI (wI M9 129 x 0) 130 x (mI M9 38 pa)) 131 x (mI M9 39 pa))).bind fun v16 => if mI M9 38 pa = 0 then (fj_X4_load_109 x 0 (wI (wR (wR (wI (wI (wI M9 129 x 0) 130 x (mI M9 38 pa)) 131 x (mI M9 39 pa)) 134 x (some sw)) 135 x (some v16)) 2 (x + 27) 0)) else some (.inr 1, wI (wI (wI M9 129 x 0) 130 x (mI M9 38 pa)) 131 x (mI M9 39 pa))) ∧
    OutT pa (x + 1) r sw (mA M (x + 1)) ps M9 (textR (mA M (x + 1)) r (fun _ => 0)) := by
  obtain ⟨rt, c, z1, z2⟩ := hZ
  obtain ⟨sw, e1⟩ := c.2.2.1.2.2
  obtain ⟨pl, ps, wp⟩ := c.2.2.1.1 1 sw e1
  have fx := c.1
  have zs := z2 1 sw e1
  unfold Place at pl
  have fP : Fr (fun _ => False) M (mkP M (x + 1) r sw) := mkP_fr
  have w7 : WS (mkP M (x + 1) r sw) sw ps := wp.fr zs fP ⟨rfl, rfl⟩
  obtain ⟨g0, r0⟩ := RelP.some w7
  have ps0 := mkP_ps (r := r) (sw := sw) fx.2.1.1 fx.2.1.2.1 (by omega) (by omega) (show x + 1 < mZ M by omega)
  have ap : AP (mkP M (x + 1) r sw) (mZ M) (x + 1) sw := ⟨by omega, by omega, Nat.le_succ_of_le zs, Nat.lt_succ_self _, by show x + 1 < mZ M + 1; omega, by omega⟩
  have cg : CG (mZ M) (x + 1) r sw (mA M (x + 1)) ps (mkP M (x + 1) r sw) g0 cur0 := ⟨⟨0, ps0, Nat.zero_le _, Nat.zero_le _⟩, r0, ap⟩
  obtain ⟨M9, y1, y2, y3⟩ := c_parse (z := fun _ => 0) (fun q hq => rfl) cg
  have f9 : Fr (inW sw) M M9 := by
    have t := (fP.mono (Q := fun a => inW sw a ∨ a = mZ M) (fun _ h => h.elim)).tr y2.1
    exact ⟨t.1, fun a ha => ⟨(t.2 a ha).1, fun hn => (t.2 a ha).2 (fun e => e.elim hn (fun e => by omega))⟩⟩
  have c9 := c.spare z1 z2 e1 f9 ⟨y2.2.1, y2.2.2.1⟩
  have k9 : mK M9 (mZ M) = 2 := by
    have := (y2.1.2 (mZ M) (Nat.lt_succ_self _)).1.1
    rw [this, mkP_K, if_pos rfl]
  refine ⟨sw, ps, M9, mZ M, rfl, ⟨rt, c, e1, z2, c9⟩, f9, k9, ?_, y3⟩
  have fx9 := c9.1
  have g129 : gI 5 129 x M = some (nI len) := by unfold gI; rw [if_pos fx.1.1, e129]
  have k5 : mK (newO 2 M) x = 5 := by show va_up (mK M) (mZ M) 2 x = 5; unfold va_up; rw [if_neg (by omega)]; exact fx.1.1
  have r128 : gRn 5 128 x (newO 2 M) = some (x + 1) := gRn_ok k5 (by show (if x = mZ M then none else mR M 128 x) = _; rw [if_neg (by omega)]; exact fx.1.2.1)
  have r135 : gRn 5 135 x (newO 2 M) = some sw := gRn_ok k5 (by show (if x = mZ M then none else mR M 135 x) = _; rw [if_neg (by omega)]; exact c.2.1.2.1.trans e1)
  have ng : ¬ (nI r < 0) := nI_pos (by omega)
  have le : nI r ≤ nI len := nI_le hr (by omega)
  have kx : mK M9 x = 5 := fx9.1.1
  have k2' : mK (mkP M (x + 1) r sw) (mZ M) = 2 := by rw [mkP_K, if_pos rfl]
  have np : ¬ (mZ M = x) := by omega
  have a134 : gRn 5 134 x (wI (wI (wI M9 129 x 0) 130 x (mI M9 38 (mZ M))) 131 x (mI M9 39 (mZ M))) = some w := gRn_ok kx (c9.2.1.1.trans c9.2.2.2.1.1)
  have e38 : ∀ f, f = 38 ∨ f = 39 → ∀ (g : Nat) (v : Int32) (N : Mem), mI (wI N g x v) f (mZ M) = mI N f (mZ M) := fun f _ g v N => by rw [mI_wI, if_neg (fun e => np e.2)]
  rw [a134, Option.bind_some]
  have st1 : f_X4_load x (nI r) M = ((gI 5 130 x (wI (wI (wI M9 129 x 0) 130 x (mI M9 38 (mZ M))) 131 x (mI M9 39 (mZ M)))).bind fun v15 => (if v15 = 0 then
      (gRn 5 134 x (wI (wI (wI M9 129 x 0) 130 x (mI M9 38 (mZ M))) 131 x (mI M9 39 (mZ M)))).bind fun v16 =>
      (gRn 5 135 x (wI (wI (wI M9 129 x 0) 130 x (mI M9 38 (mZ M))) 131 x (mI M9 39 (mZ M)))).bind fun v17 =>
      (sR 5 134 x (some v17) (wI (wI (wI M9 129 x 0) 130 x (mI M9 38 (mZ M))) 131 x (mI M9 39 (mZ M)))).bind fun M18 =>
      (sR 5 135 x (some v16) M18).bind fun M19 =>
      (gRn 5 136 x M19).bind fun v20 =>
      (cK 1 v20 M19 (f_X0_forget v20 M19)).bind fun M22 =>
      fj_X4_load_109 x 0 M22
      else
      some (.inr 1, (wI (wI (wI M9 129 x 0) 130 x (mI M9 38 (mZ M))) 131 x (mI M9 39 (mZ M)))))) := by
    unfold f_X4_load
    rw [if_neg ng, g129, Option.bind_some, if_pos le]
    unfold bnew
    dsimp only
    rw [r128, Option.bind_some, r135, Option.bind_some, mkP_init, Option.bind_some, cK_ok k2', y1, Option.bind_some, sI_w, if_pos kx, Option.bind_some]
    have q1 : gI 2 38 (mZ M) (wI M9 129 x 0) = some (mI M9 38 (mZ M)) := by unfold gI; rw [if_pos (show mK (wI M9 129 x 0) (mZ M) = 2 from k9), e38 38 (Or.inl rfl)]
    rw [q1, Option.bind_some, sI_w, if_pos (show mK (wI M9 129 x 0) x = 5 from kx), Option.bind_some]
    have q2 : gI 2 39 (mZ M) (wI (wI M9 129 x 0) 130 x (mI M9 38 (mZ M))) = some (mI M9 39 (mZ M)) := by unfold gI; rw [if_pos (show mK (wI (wI M9 129 x 0) 130 x (mI M9 38 (mZ M))) (mZ M) = 2 from k9), e38 39 (Or.inr rfl), e38 39 (Or.inr rfl)]
    rw [q2, Option.bind_some, sI_w, if_pos (show mK (wI (wI M9 129 x 0) 130 x (mI M9 38 (mZ M))) x = 5 from kx), Option.bind_some]
  have e130 : gI 5 130 x (wI (wI (wI M9 129 x 0) 130 x (mI M9 38 (mZ M))) 131 x (mI M9 39 (mZ M))) = some (mI M9 38 (mZ M)) := by
    unfold gI; rw [if_pos (show mK (wI (wI (wI M9 129 x 0) 130 x (mI M9 38 (mZ M))) 131 x (mI M9 39 (mZ M))) x = 5 from kx), mI_wI, if_neg (by omega), mI_wI, if_pos ⟨rfl, rfl⟩]
  rw [st1, e130, Option.bind_some]
  by_cases k0 : mI M9 38 (mZ M) = 0
  · rw [if_pos k0, if_pos k0, a134, Option.bind_some]
    have a135 : gRn 5 135 x (wI (wI (wI M9 129 x 0) 130 x (mI M9 38 (mZ M))) 131 x (mI M9 39 (mZ M))) = some sw := gRn_ok kx (c9.2.1.2.1.trans e1)
    rw [a135, Option.bind_some, sR_w, if_pos (show mK (wI (wI (wI M9 129 x 0) 130 x (mI M9 38 (mZ M))) 131 x (mI M9 39 (mZ M))) x = 5 from kx), Option.bind_some, sR_w, if_pos (show mK (wR (wI (wI (wI M9 129 x 0) 130 x (mI M9 38 (mZ M))) 131 x (mI M9 39 (mZ M))) 134 x (some sw)) x = 5 from kx), Option.bind_some]
    have a136 : gRn 5 136 x (wR (wR (wI (wI (wI M9 129 x 0) 130 x (mI M9 38 (mZ M))) 131 x (mI M9 39 (mZ M))) 134 x (some sw)) 135 x (some w)) = some (x + 27) := gRn_ok kx (by rw [mR_wR, if_neg (by omega), mR_wR, if_neg (by omega)]; exact fx9.1.2.2.2.1)
    rw [a136, Option.bind_some]
    have hs : Hs (wR (wR (wI (wI (wI M9 129 x 0) 130 x (mI M9 38 (mZ M))) 131 x (mI M9 39 (mZ M))) 134 x (some sw)) 135 x (some w)) (x + 27) (x + 28) := by
      obtain ⟨t1, t2, t3, t4⟩ := fx9.2.2.1
      exact ⟨t1, by rw [mR_wR, if_neg (by omega), mR_wR, if_neg (by omega)]; exact t2, t3, t4⟩
    rw [cK_ok hs.1, X0_forget hs, Option.bind_some]
  · rw [if_neg k0, if_neg k0]
/-- a text that is taken -/
theorem c_loaded {w : Nat} {p : Nat → Nat} {g o v g' : GF} {h b r len : Nat} (hZ : ClsZ x w p M g o h v b) (e129 : mI M 129 x = nI len) (hr : r ≤ len) (h600 : len ≤ 600) (ho : textR (mA M (x + 1)) r (fun _ => 0) = .inr g') : ∃ M1 sw ps, f_X4_load x (nI r) M = some (.inl (g' 0), M1) ∧ ClsZ x sw ps M1 g' o 0 v 0 ∧ mI M1 129 x = 0 ∧ mA M1 (x + 60) = mA M (x + 60) ∧ mZ M ≤ mZ M1 := by
  have hz61 := hZ.z1
  obtain ⟨sw, ps, M9, pa, epa, ⟨rt, c, e1, z2, c9⟩, f9, k9, st, out⟩ := c_load hZ e129 hr h600
  have fx9 := c9.1
  obtain ⟨plS, _⟩ := c.2.2.1.1 1 sw e1
  unfold Place at plS
  have zs := z2 1 sw e1
  have a134 : mR M9 134 x = some w := c9.2.1.1.trans c9.2.2.2.1.1
  have g134 : ∀ (u v : Int32), gRn 5 134 x (wI (wI (wI M9 129 x 0) 130 x u) 131 x v) = some w := fun u v => gRn_ok (M := wI (wI (wI M9 129 x 0) 130 x u) 131 x v) fx9.1.1 a134
  rw [g134, Option.bind_some] at st
  obtain ⟨q', ⟨⟨st9, hps, _⟩, rel, _⟩⟩ := out.2 g' ho
  have e38 : mI M9 38 pa = 0 := hps.2.2.2.2.2.1
  have e39 : mI M9 39 pa = -1 := hps.2.2.2.2.2.2
  rw [e38, e39, if_pos rfl] at st
  let MB := wI (wR (wR (wI (wI (wI M9 129 x 0) 130 x 0) 131 x (-1)) 134 x (some sw)) 135 x (some w)) 2 (x + 27) 0
  let M1 := wB MB (x + 29) (nul (mB M9 (x + 29)) 2)
  have eI : ∀ f y, mI M1 f y = if f = 2 ∧ y = x + 27 then 0 else if f = 131 ∧ y = x then -1 else if f = 130 ∧ y = x then 0 else if f = 129 ∧ y = x then 0 else mI M9 f y := fun f y => by
    show mI (wI (wI (wI (wI M9 129 x 0) 130 x 0) 131 x (-1)) 2 (x + 27) 0) f y = _
    rw [mI_wI, mI_wI, mI_wI, mI_wI]
  have eR : ∀ f y, mR M1 f y = if f = 135 ∧ y = x then some w else if f = 134 ∧ y = x then some sw else mR M9 f y := fun f y => by
    show mR (wR (wR (wI (wI (wI M9 129 x 0) 130 x 0) 131 x (-1)) 134 x (some sw)) 135 x (some w)) f y = _
    rw [mR_wR, mR_wR]; rfl
  have eB : ∀ y, mB M1 y = if y = x + 29 then nul (mB M9 (x + 29)) 2 else mB M9 y := fun y => mB_wB _ _ _ _
  have f1 : Fix x M1 := fx9.same (fun i _ => ⟨rfl, rfl⟩) (fun f i _ h1 h2 => by rw [eR, if_neg (by omega), if_neg (by omega)])
  have pw := (c.2.2.1.1 0 w c.2.2.2.1.1).1
  unfold Place at pw
  have lp : fj_X4_load_109 x 0 MB = some (.inl (g' 0), M1) := by
    have k5 : mK MB x = 5 := fx9.1.1
    have r137 : ∀ f, gRn 5 137 x (wB MB (x + 29) f) = some (x + 29) := fun f => gRn_ok (M := wB MB (x + 29) f) k5 (by
      show mR M1 137 x = _
      rw [eR, if_neg (by omega), if_neg (by omega)]; exact fx9.1.2.2.2.2.1)
    have k29 := fx9.2.2.2.1
    unfold fj_X4_load_109
    refine loopM_run (st := fun i => (nI i, wB MB (x + 29) (nul (mB M9 (x + 29)) i))) (N := 2) ?_ (fun i hi => ?_) ?_ (FUn (by decide))
    · show _ = (nI 0, wB MB (x + 29) (nul (mB M9 (x + 29)) 0))
      rw [nul_0, show mB M9 (x + 29) = mB MB (x + 29) from rfl, wB_id]; rfl
    · have l2 : ¬ ((2 : Int32) ≤ nI i) := nI_ge (b := 2) hi (by omega)
      have ei : nI i + 1 = nI (i + 1) := nI_add i 1
      have sb0 : sB0 11 (x + 29) (nI i) (wB MB (x + 29) (nul (mB M9 (x + 29)) i)) = some (wB MB (x + 29) (nul (mB M9 (x + 29)) (i + 1))) := by
        rw [sB0_w, if_pos ⟨show mK (wB MB (x + 29) (nul (mB M9 (x + 29)) i)) (x + 29) = 11 from k29.1, by rw [show mN (wB MB (x + 29) (nul (mB M9 (x + 29)) i)) (x + 29) = 2 from k29.2, inT (by omega) (by omega)]; exact not_false⟩, nI_cl (by omega), wB_self, wB_again, nul_step]
      simp only [fc_X4_load_109, l2, if_false, r137, Option.bind_some, sb0, ei]
    · have l2 : (2 : Int32) ≤ nI 2 := Int32.le_refl _
      have r134 : gRn 5 134 x M1 = some sw := gRn_ok (M := M1) k5 (by rw [eR, if_neg (by omega), if_pos ⟨rfl, rfl⟩])
      have i96 : gI 4 96 sw M1 = some (g' 0) := by
        unfold gI
        rw [if_pos (show mK M1 sw = 4 from rel.1.1.1), eI, if_neg (by omega), if_neg (by omega), if_neg (by omega), if_neg (by omega), rel.2.1.1]
      simp only [fc_X4_load_109, fj_X4_load_129, l2, if_true]
      show Option.map Sum.inr ((gRn 5 134 x M1).bind fun v23 => (gI 4 96 v23 M1).bind fun v24 => some ((Sum.inl v24 : Int32 ⊕ Nat), M1)) = _
      rw [r134, Option.bind_some, i96]; rfl
  have wsS : ∀ k y q, rt k = some y → WS M9 y q → WS M1 y q := fun k y q e r => by
    have py := (c.2.2.1.1 k y e).1
    unfold Place at py
    exact r.same (fun i hi => ⟨rfl, rfl, fun f => by rw [eR, if_neg (by omega), if_neg (by omega)]⟩) ⟨by rw [eB, if_neg (by omega)], by rw [eB, if_neg (by omega)]⟩
  have relS : RelP M1 sw ps g' := rel.same (fun i hi => ⟨rfl, rfl, fun f => by rw [eR, if_neg (by omega), if_neg (by omega)]⟩) (fun i hi => ⟨fun f => by rw [eI, if_neg (by omega), if_neg (by omega), if_neg (by omega), if_neg (by omega)], rfl, by rw [eB, if_neg (by omega)]⟩)
  let rt' : Nat → Option Nat := fun k => if k = 0 then some sw else if k = 1 then some w else if k = 12 ∨ k = 13 then none else rt k
  have old : ∀ k y, rt' k = some y → ∃ k', rt k' = some y ∧ (k = 0 → k' = 1) ∧ (k = 1 → k' = 0) ∧ (k ≠ 0 → k ≠ 1 → k' = k) := fun k y e => by
    have e : (if k = 0 then some sw else if k = 1 then some w else if k = 12 ∨ k = 13 then none else rt k) = some y := e
    by_cases k0 : k = 0
    · rw [if_pos k0] at e; cases e; exact ⟨1, e1, fun _ => rfl, fun e => by omega, fun e => absurd k0 e⟩
    · rw [if_neg k0] at e
      by_cases k1 : k = 1
      · rw [if_pos k1] at e; cases e; exact ⟨0, c.2.2.2.1.1, fun e => by omega, fun _ => rfl, fun _ e => absurd k1 e⟩
      · rw [if_neg k1] at e
        by_cases k2 : k = 12 ∨ k = 13
        · rw [if_pos k2] at e; cases e
        · rw [if_neg k2] at e; exact ⟨k, e, fun e => absurd e k0, fun e => absurd e k1, fun _ _ => rfl⟩
  obtain ⟨_, ⟨p1, p2, p3, p4⟩, ⟨q1, q2, q3⟩, _, ⟨nx, h1, h2, h3', h4, h5⟩, _⟩ := id c9
  have cc : CC x sw ps rt' M1 g' o 0 v 0 := by
    refine ⟨f1, ⟨?_, ?_, fun i hi => ?_, fun s hs => ?_⟩, ⟨fun k y e => ?_, fun k k' y y' hk e e' => ?_, w, rfl⟩, ⟨rfl, relS⟩, ⟨nx, h1, by omega, ?_, ?_, fun j hj => by omega⟩, ⟨by omega, fun s hs => ⟨fun hb => ?_, fun _ => ?_⟩⟩⟩
    · rw [eR, if_neg (by omega), if_pos ⟨rfl, rfl⟩]; rfl
    · rw [eR, if_pos ⟨rfl, rfl⟩]; rfl
    · rw [eB, if_neg (by omega), p3 i hi]
      show _ = (if 2 + i = 0 then some sw else if 2 + i = 1 then some w else if 2 + i = 12 ∨ 2 + i = 13 then none else rt (2 + i))
      rw [if_neg (by omega), if_neg (by omega), if_neg (by omega)]
    · rw [eB, if_pos rfl]
      show nul (mB M9 (x + 29)) 2 s = (if 12 + s = 0 then some sw else if 12 + s = 1 then some w else if 12 + s = 12 ∨ 12 + s = 13 then none else rt (12 + s))
      rw [if_neg (by omega), if_neg (by omega), if_pos (by omega)]
      exact if_pos hs
    · obtain ⟨k', e', _⟩ := old k y e
      obtain ⟨pl, q, wq⟩ := q1 k' y e'
      exact ⟨pl, q, wsS k' y q e' wq⟩
    · obtain ⟨j, ej, j1, j2, j3⟩ := old k y e
      obtain ⟨j', ej', j1', j2', j3'⟩ := old k' y' e'
      exact q2 j j' y y' (by omega) ej ej'
    · rw [eI, if_neg (by omega), if_neg (by omega), if_neg (by omega), if_neg (by omega)]; exact h3'
    · rw [eI, if_pos ⟨rfl, rfl⟩]; rfl
    · unfold bit at hb
      rw [Nat.zero_div] at hb
      omega
    · show (if 12 + s = 0 then some sw else if 12 + s = 1 then some w else if 12 + s = 12 ∨ 12 + s = 13 then none else rt (12 + s)) = none
      rw [if_neg (by omega), if_neg (by omega), if_pos (by omega)]
  refine ⟨M1, sw, ps, st.trans lp, ⟨rt', cc, Nat.le_trans hz61 f9.1, fun k u e => ?_⟩, ?_, ?_, f9.1⟩
  · obtain ⟨k', e', _⟩ := old k u e; exact Nat.le_trans (z2 k' u e') f9.1
  · rw [eI, if_neg (by omega), if_neg (by omega), if_neg (by omega), if_pos ⟨rfl, rfl⟩]
  · show mA M9 (x + 60) = _
    exact (f9.at (show x + 60 < mZ M by omega) (by unfold inW; omega)).2.1
theorem c_begin (hx : x = mZ M) : ∃ M1, f_X4_init x (newO 5 M) = some M1 ∧ mZ M1 = x + 60 ∧ ClsZ x (x + 34) id (newA 9 1 M1) gS11 (fun _ => 0) 0 (fun _ => 0) 0 ∧ mI (newA 9 1 M1) 129 x = 0 ∧ Fo (fun _ => False) M (newA 9 1 M1) := by
  obtain ⟨M1, s1, f1, z1, ⟨⟨a1, a2, a3, a4, a5, a6, a7⟩, ⟨b1, b2, b3, b4⟩, hh, ⟨d1, d2⟩, st1, st2, ⟨e1, e2, e3, e4⟩, ws, rel, ⟨g1, g2⟩, ⟨h1, h2, h3, h4⟩⟩⟩ := c_init hx
  refine ⟨M1, s1, z1, ?_⟩
  obtain ⟨M3, eM3⟩ : ∃ D, D = newA 9 1 M1 := ⟨_, rfl⟩
  have a9 := newA_K (k := 9) (n := 1) (M := M1)
  rw [z1, ← eM3] at a9
  have t1 : Fo (fun _ => False) M1 M3 := by rw [eM3]; exact Fo.newA
  have z3 : mZ M3 = x + 61 := by rw [eM3]; show mZ M1 + 1 = _; omega
  rw [← eM3]
  have q1 := fun a (ha : a < x + 60) => t1.2 a (by omega)
  have R1 := fun f => ((q1 x (by omega)).2 id).1 f
  have I1 := fun f => ((q1 x (by omega)).2 id).2.1 f
  have fx : Fix x M3 := ⟨⟨(q1 x (by omega)).1.1.trans a1, (R1 _).trans a2, (R1 _).trans a3, (R1 _).trans a4, (R1 _).trans a5, (R1 _).trans a6, (R1 _).trans a7⟩,
    ⟨(q1 (x + 1) (by omega)).1.1.trans b1, (q1 (x + 1) (by omega)).1.2.trans b2, (q1 (x + 2) (by omega)).1.1.trans b3, (q1 (x + 2) (by omega)).1.2.trans b4⟩,
    hh.fo t1 ⟨by omega, id⟩ (by omega), ⟨(q1 (x + 29) (by omega)).1.1.trans d1, (q1 (x + 29) (by omega)).1.2.trans d2⟩, st1.fo t1 ⟨by omega, id⟩ (by omega), st2.fo t1 ⟨by omega, id⟩ (by omega), ⟨a9.1, a9.2.1⟩⟩
  have ws3 : WS M3 (x + 3) id := ws.fo t1 (by omega) (fun _ _ h => h)
  have rel3 : RelP M3 (x + 34) id gS11 := rel.fo t1 (by omega) (fun _ _ h => h)
  let rt : Nat → Option Nat := fun k => if k = 0 then some (x + 34) else if k = 1 then some (x + 3) else none
  have rts : ∀ k u, rt k = some u → (k = 0 ∧ u = x + 34) ∨ (k = 1 ∧ u = x + 3) := fun k u e => by
    have e : (if k = 0 then some (x + 34) else if k = 1 then some (x + 3) else none) = some u := e
    by_cases c0 : k = 0
    · rw [if_pos c0] at e; cases e; exact Or.inl ⟨c0, rfl⟩
    · rw [if_neg c0] at e
      by_cases c1 : k = 1
      · rw [if_pos c1] at e; cases e; exact Or.inr ⟨c1, rfl⟩
      · rw [if_neg c1] at e; cases e
  have rtn : ∀ k, 2 ≤ k → rt k = none := fun k hk => by
    show (if k = 0 then some (x + 34) else if k = 1 then some (x + 3) else none) = none
    rw [if_neg (by omega), if_neg (by omega)]
  have cc : CC x (x + 34) id rt M3 gS11 (fun _ => 0) 0 (fun _ => 0) 0 := by
    refine ⟨fx, ⟨(R1 _).trans e1, (R1 _).trans e2, fun i hi => ?_, fun s hs => ?_⟩, ⟨fun k u e => ?_, fun k k' u u' hk e e' => ?_, x + 3, rfl⟩, ⟨rfl, rel3⟩, ⟨0, by omega, by omega, ?_, ?_, fun j hj => by omega⟩, ⟨by omega, fun s hs => ⟨fun hb => ?_, fun _ => rtn _ (by omega)⟩⟩⟩
    · rw [((q1 (x + 28) (by omega)).2 id).2.2.2.1, e3, rtn _ (by omega)]
    · rw [((q1 (x + 29) (by omega)).2 id).2.2.2.1, e4, rtn _ (by omega)]
    · rcases rts k u e with ⟨_, rfl⟩ | ⟨_, rfl⟩
      · exact ⟨Or.inr (Or.inl rfl), id, rel3.1⟩
      · exact ⟨Or.inl rfl, id, ws3⟩
    · rcases rts k u e with ⟨c, rfl⟩ | ⟨c, rfl⟩ <;> rcases rts k' u' e' with ⟨c', rfl⟩ | ⟨c', rfl⟩ <;> omega
    · rw [((q1 (x + 27) (by omega)).2 id).2.1]; exact g1
    · rw [((q1 (x + 27) (by omega)).2 id).2.1]; exact g2
    · unfold bit at hb
      rw [Nat.zero_div] at hb
      omega
  refine ⟨⟨rt, cc, by omega, fun k u e => by rcases rts k u e with ⟨_, rfl⟩ | ⟨_, rfl⟩ <;> omega⟩, (I1 _).trans h1, f1.tr t1⟩
end LD
