/-! LOAD -/
section LO
variable {n x : Nat} {M : Mem}
theorem CC.spare {w : Nat} {p : Nat → Nat} {rt : Nat → Option Nat} {M' : Mem} {g o v : GF} {h b sw : Nat} (hc : CC x w p rt M g o h v b) (z1 : x + 69 ≤ mZ M) (z2 : ∀ k u, rt k = some u → u + 24 ≤ mZ M) (e1 : rt 1 = some sw) (f : Fr (inW sw) M M') (hB : mB M' (sw + 1) = mB M (sw + 1) ∧ mB M' (sw + 2) = mB M (sw + 2)) : CC x w p rt M' g o h v b := by
  obtain ⟨c1, ⟨p1, p2, p3, p4⟩, ⟨q1, q2, q3⟩, ⟨n1, n2⟩, ⟨nx, h1, h2, h3, h4, h5⟩, ⟨s1, s2⟩⟩ := hc
  have pl := (q1 1 sw e1).1
  unfold Place at pl
  have rel : ∀ k u q g, k ≠ 1 → rt k = some u → RelP M u q g → RelP M' u q g := fun k u q g hk e r => r.fr (z2 k u e) f (fun i hi => by have := q2 k 1 u sw hk e e1; unfold inW; omega)
  have i27 := (f.2 (x + 27) (by omega)).2 (by unfold inW; omega)
  refine ⟨c1.fr f z1, ⟨by rw [(f.2 x (by omega)).1.2.2]; exact p1, by rw [(f.2 x (by omega)).1.2.2]; exact p2, fun i hi => by rw [((f.2 (x + 28) (by omega)).2 (by unfold inW; omega)).2.2.1]; exact p3 i hi, fun i hi => by rw [((f.2 (x + 29) (by omega)).2 (by unfold inW; omega)).2.2.1]; exact p4 i hi⟩, ⟨fun k u e => ⟨(q1 k u e).1, ?_⟩, q2, q3⟩, ⟨n1, rel 0 w p g (by omega) n1 n2⟩, ⟨nx, h1, h2, by rw [i27.1]; exact h3, by rw [i27.1]; exact h4, fun j hj => ?_⟩, ⟨s1, fun s hs => ⟨fun hb => ?_, (s2 s hs).2⟩⟩⟩
  · obtain ⟨q, wq⟩ := (q1 k u e).2
    have zu := z2 k u e
    by_cases hk : k = 1
    · rw [hk, e1] at e; cases e; exact ⟨q, wq.fr zu f hB⟩
    · have := q2 k 1 u sw hk e e1
      exact ⟨q, wq.fr zu f ⟨((f.2 (u + 1) (by omega)).2 (by unfold inW; omega)).2.2.1, ((f.2 (u + 2) (by omega)).2 (by unfold inW; omega)).2.2.1⟩⟩
  · obtain ⟨u, q, e, r⟩ := h5 j hj; exact ⟨u, q, e, rel _ u q _ (by omega) e r⟩
  · obtain ⟨u, q, e, r⟩ := (s2 s hs).1 hb; exact ⟨u, q, e, rel _ u q _ (by omega) e r⟩
/-- a new parser -/
def mkP (M : Mem) (ta r sw : Nat) : Mem := wR (wI (wR (wI (wI (wI (wI (wI (newO 2 M) 35 (mZ M) 0) 36 (mZ M) 0) 37 (mZ M) 0) 38 (mZ M) 0) 39 (mZ M) (-1)) 32 (mZ M) (some ta)) 33 (mZ M) (nI r)) 34 (mZ M) (some sw)
theorem mkP_K {ta r sw a : Nat} : mK (mkP M ta r sw) a = if a = mZ M then 2 else mK M a := rfl
theorem mkP_fr {ta r sw : Nat} {P : Nat → Prop} : Fr P M (mkP M ta r sw) := by
  refine ⟨Nat.le_succ _, fun a ha => ⟨⟨?_, rfl, fun f => ?_⟩, fun _ => ⟨fun f => ?_, rfl, rfl, rfl⟩⟩⟩
  · rw [mkP_K, if_neg (by omega)]
  · show mR (wR (wI (wR (wI (wI (wI (wI (wI (newO 2 M) 35 (mZ M) 0) 36 (mZ M) 0) 37 (mZ M) 0) 38 (mZ M) 0) 39 (mZ M) (-1)) 32 (mZ M) (some ta)) 33 (mZ M) (nI r)) 34 (mZ M) (some sw)) f a = _
    rw [mR_wR, if_neg (by omega), mR_wI, mR_wR, if_neg (by omega)]
    show (if a = mZ M then none else mR M f a) = _
    rw [if_neg (by omega)]
  · show mI (wI (wI (wI (wI (wI (wI (newO 2 M) 35 (mZ M) 0) 36 (mZ M) 0) 37 (mZ M) 0) 38 (mZ M) 0) 39 (mZ M) (-1)) 33 (mZ M) (nI r)) f a = _
    rw [mI_wI, if_neg (by omega), mI_wI, if_neg (by omega), mI_wI, if_neg (by omega), mI_wI, if_neg (by omega), mI_wI, if_neg (by omega), mI_wI, if_neg (by omega)]
    show (if a = mZ M then 0 else mI M f a) = _
    rw [if_neg (by omega)]
theorem mkP_ps {ta r sw nn : Nat} (h8 : mK M ta = 8) (hn : mN M ta = nn) (hr : r ≤ nn) (h1000 : r ≤ 1000) (hz : ta < mZ M) : PS (mkP M ta r sw) (mZ M) ta r sw (mA M ta) 0 0 0 0 (-1) := by
  have eI : ∀ f, mI (mkP M ta r sw) f (mZ M) = if f = 33 then nI r else if f = 39 then -1 else if f = 38 then 0 else if f = 37 then 0 else if f = 36 then 0 else if f = 35 then 0 else 0 := fun f => by
    show mI (wI (wI (wI (wI (wI (wI (newO 2 M) 35 (mZ M) 0) 36 (mZ M) 0) 37 (mZ M) 0) 38 (mZ M) 0) 39 (mZ M) (-1)) 33 (mZ M) (nI r)) f (mZ M) = _
    simp only [mI_wI, and_true]
    rw [show mI (newO 2 M) f (mZ M) = 0 from if_pos rfl]
  refine ⟨⟨by rw [mkP_K, if_pos rfl], ?_, by rw [eI]; rfl, ?_⟩, ⟨by rw [mkP_K, if_neg (by omega)]; exact h8, by rw [show mN (mkP M ta r sw) ta = nn from hn]; exact hr, h1000, fun i _ => rfl⟩, by rw [eI]; rfl, by rw [eI]; rfl, by rw [eI]; rfl, by rw [eI]; rfl, by rw [eI]; rfl⟩
  · show mR (wR (wI (wR (wI (wI (wI (wI (wI (newO 2 M) 35 (mZ M) 0) 36 (mZ M) 0) 37 (mZ M) 0) 38 (mZ M) 0) 39 (mZ M) (-1)) 32 (mZ M) (some ta)) 33 (mZ M) (nI r)) 34 (mZ M) (some sw)) 32 (mZ M) = _
    rw [mR_wR, if_neg (by omega), mR_wI, mR_wR, if_pos ⟨rfl, rfl⟩]
  · show mR (wR (wI (wR (wI (wI (wI (wI (wI (newO 2 M) 35 (mZ M) 0) 36 (mZ M) 0) 37 (mZ M) 0) 38 (mZ M) 0) 39 (mZ M) (-1)) 32 (mZ M) (some ta)) 33 (mZ M) (nI r)) 34 (mZ M) (some sw)) 34 (mZ M) = _
    rw [mR_wR, if_pos ⟨rfl, rfl⟩]
theorem mkP_init {ta r sw : Nat} : f_X1_init (mZ M) ta (nI r) sw (newO 2 M) = some (mkP M ta r sw) := by
  have k : mK (newO 2 M) (mZ M) = 2 := by show va_up (mK M) (mZ M) 2 (mZ M) = 2; unfold va_up; rw [if_pos rfl]
  simp only [f_X1_init, sI_w, sR_w, mK_wI, mK_wR, k, if_true, Option.bind_some]
  rfl
/-- the class's part of a load -/
theorem c_load {w : Nat} {p : Nat → Nat} {h b : Nat} (hD : InvD n x M w p h b) (hz : wfz M) {len r : Nat} (e129 : mI M 129 x = nI len) (hr : r ≤ len) (h600 : len ≤ 600) : ∃ sw ps M9 pa, pa = mZ M ∧ (∃ rt, CC x w p rt M (mA M (x + 62)) (mA M (x + 64)) h (mA M (x + 65)) b ∧ rt 1 = some sw ∧ (∀ k u, rt k = some u → u + 24 ≤ mZ M) ∧ CC x w p rt M9 (mA M (x + 62)) (mA M (x + 64)) h (mA M (x + 65)) b) ∧ Fr (inW sw) M M9 ∧ mK M9 pa = 2 ∧
    f_X4_load x (nI r) M = ((gRn 5 134 x (wI (wI (wI M9 129 x 0) 130 x (mI M9 38 pa)) 131 x (mI M9 39 pa))).bind fun v16 => if mI M9 38 pa = 0 then (fj_X4_load_109 x 0 (wI (wR (wR (wI (wI (wI M9 129 x 0) 130 x (mI M9 38 pa)) 131 x (mI M9 39 pa)) 134 x (some sw)) 135 x (some v16)) 2 (x + 27) 0)) else some (.inr 1, wI (wI (wI M9 129 x 0) 130 x (mI M9 38 pa)) 131 x (mI M9 39 pa))) ∧
    OutT pa (x + 1) r sw (mA M (x + 1)) ps M9 (textR (mA M (x + 1)) r (zr (mA M (x + 62)) 1330)) := by
  obtain ⟨rt, c, z1, z2⟩ := hD.1.z hz
  obtain ⟨sw, e1⟩ := c.2.2.1.2.2
  obtain ⟨pl, ps, wp⟩ := c.2.2.1.1 1 sw e1
  have fx := c.1
  have zs := z2 1 sw e1
  unfold Place at pl
  have fP : Fr (fun _ => False) M (mkP M (x + 1) r sw) := mkP_fr
  have w7 : WS (mkP M (x + 1) r sw) sw ps := wp.fr zs fP ⟨rfl, rfl⟩
  obtain ⟨g0, r0⟩ := RelP.some w7
  have ps0 := mkP_ps (r := r) (sw := sw) fx.2.1.1 fx.2.1.2.1 (by omega) (by omega) (show x + 1 < mZ M by omega)
  have ap : AP (mkP M (x + 1) r sw) (mZ M) (x + 1) sw := ⟨by omega, by omega, Nat.le_succ_of_le zs, Nat.lt_succ_self _, by show x + 1 < mZ M + 1; omega, by omega⟩
  have cg : CG (mZ M) (x + 1) r sw (mA M (x + 1)) ps (mkP M (x + 1) r sw) g0 cur0 := ⟨⟨0, ps0, Nat.zero_le _, Nat.zero_le _⟩, r0, ap⟩
  obtain ⟨M9, y1, y2, y3⟩ := c_parse (z := zr (mA M (x + 62)) 1330) (fun q hq => zr_lo hq) cg
  have f9 : Fr (inW sw) M M9 := by
    have t := (fP.mono (Q := fun a => inW sw a ∨ a = mZ M) (fun _ h => h.elim)).tr y2.1
    exact ⟨t.1, fun a ha => ⟨(t.2 a ha).1, fun hn => (t.2 a ha).2 (fun e => e.elim hn (fun e => by omega))⟩⟩
  have c9 := c.spare z1 z2 e1 f9 ⟨y2.2.1, y2.2.2.1⟩
  have k9 : mK M9 (mZ M) = 2 := by
    have := (y2.1.2 (mZ M) (Nat.lt_succ_self _)).1.1
    rw [this, mkP_K, if_pos rfl]
  refine ⟨sw, ps, M9, mZ M, rfl, ⟨rt, c, e1, z2, c9⟩, f9, k9, ?_, y3⟩
  have fx9 := c9.1
  have g129 : gI 5 129 x M = some (nI len) := by unfold gI; rw [if_pos fx.1.1, e129]
  have k5 : mK (newO 2 M) x = 5 := by show va_up (mK M) (mZ M) 2 x = 5; unfold va_up; rw [if_neg (by omega)]; exact fx.1.1
  have r128 : gRn 5 128 x (newO 2 M) = some (x + 1) := gRn_ok k5 (by show (if x = mZ M then none else mR M 128 x) = _; rw [if_neg (by omega)]; exact fx.1.2.1)
  have r135 : gRn 5 135 x (newO 2 M) = some sw := gRn_ok k5 (by show (if x = mZ M then none else mR M 135 x) = _; rw [if_neg (by omega)]; exact c.2.1.2.1.trans e1)
  have ng : ¬ (nI r < 0) := nI_pos (by omega)
  have le : nI r ≤ nI len := nI_le hr (by omega)
  have kx : mK M9 x = 5 := fx9.1.1
  have k2' : mK (mkP M (x + 1) r sw) (mZ M) = 2 := by rw [mkP_K, if_pos rfl]
  have np : ¬ (mZ M = x) := by omega
  have a134 : gRn 5 134 x (wI (wI (wI M9 129 x 0) 130 x (mI M9 38 (mZ M))) 131 x (mI M9 39 (mZ M))) = some w := gRn_ok kx (c9.2.1.1.trans c9.2.2.2.1.1)
  have e38 : ∀ f, f = 38 ∨ f = 39 → ∀ (g : Nat) (v : Int32) (N : Mem), mI (wI N g x v) f (mZ M) = mI N f (mZ M) := fun f _ g v N => by rw [mI_wI, if_neg (fun e => np e.2)]
  rw [a134, Option.bind_some]
  have st1 : f_X4_load x (nI r) M = ((gI 5 130 x (wI (wI (wI M9 129 x 0) 130 x (mI M9 38 (mZ M))) 131 x (mI M9 39 (mZ M)))).bind fun v15 => (if v15 = 0 then
      (gRn 5 134 x (wI (wI (wI M9 129 x 0) 130 x (mI M9 38 (mZ M))) 131 x (mI M9 39 (mZ M)))).bind fun v16 =>
      (gRn 5 135 x (wI (wI (wI M9 129 x 0) 130 x (mI M9 38 (mZ M))) 131 x (mI M9 39 (mZ M)))).bind fun v17 =>
      (sR 5 134 x (some v17) (wI (wI (wI M9 129 x 0) 130 x (mI M9 38 (mZ M))) 131 x (mI M9 39 (mZ M)))).bind fun M18 =>
      (sR 5 135 x (some v16) M18).bind fun M19 =>
      (gRn 5 136 x M19).bind fun v20 =>
      (cK 1 v20 M19 (f_X0_forget v20 M19)).bind fun M22 =>
      fj_X4_load_109 x 0 M22
      else
      some (.inr 1, (wI (wI (wI M9 129 x 0) 130 x (mI M9 38 (mZ M))) 131 x (mI M9 39 (mZ M)))))) := by
    unfold f_X4_load
    rw [if_neg ng, g129, Option.bind_some, if_pos le]
    unfold bnew
    dsimp only
    rw [r128, Option.bind_some, r135, Option.bind_some, mkP_init, Option.bind_some, cK_ok k2', y1, Option.bind_some, sI_w, if_pos kx, Option.bind_some]
    have q1 : gI 2 38 (mZ M) (wI M9 129 x 0) = some (mI M9 38 (mZ M)) := by unfold gI; rw [if_pos (show mK (wI M9 129 x 0) (mZ M) = 2 from k9), e38 38 (Or.inl rfl)]
    rw [q1, Option.bind_some, sI_w, if_pos (show mK (wI M9 129 x 0) x = 5 from kx), Option.bind_some]
    have q2 : gI 2 39 (mZ M) (wI (wI M9 129 x 0) 130 x (mI M9 38 (mZ M))) = some (mI M9 39 (mZ M)) := by unfold gI; rw [if_pos (show mK (wI (wI M9 129 x 0) 130 x (mI M9 38 (mZ M))) (mZ M) = 2 from k9), e38 39 (Or.inr rfl), e38 39 (Or.inr rfl)]
    rw [q2, Option.bind_some, sI_w, if_pos (show mK (wI (wI M9 129 x 0) 130 x (mI M9 38 (mZ M))) x = 5 from kx), Option.bind_some]
  have e130 : gI 5 130 x (wI (wI (wI M9 129 x 0) 130 x (mI M9 38 (mZ M))) 131 x (mI M9 39 (mZ M))) = some (mI M9 38 (mZ M)) := by
    unfold gI; rw [if_pos (show mK (wI (wI (wI M9 129 x 0) 130 x (mI M9 38 (mZ M))) 131 x (mI M9 39 (mZ M))) x = 5 from kx), mI_wI, if_neg (by omega), mI_wI, if_pos ⟨rfl, rfl⟩]
  rw [st1, e130, Option.bind_some]
  by_cases k0 : mI M9 38 (mZ M) = 0
  · rw [if_pos k0, if_pos k0, a134, Option.bind_some]
    have a135 : gRn 5 135 x (wI (wI (wI M9 129 x 0) 130 x (mI M9 38 (mZ M))) 131 x (mI M9 39 (mZ M))) = some sw := gRn_ok kx (c9.2.1.2.1.trans e1)
    rw [a135, Option.bind_some, sR_w, if_pos (show mK (wI (wI (wI M9 129 x 0) 130 x (mI M9 38 (mZ M))) 131 x (mI M9 39 (mZ M))) x = 5 from kx), Option.bind_some, sR_w, if_pos (show mK (wR (wI (wI (wI M9 129 x 0) 130 x (mI M9 38 (mZ M))) 131 x (mI M9 39 (mZ M))) 134 x (some sw)) x = 5 from kx), Option.bind_some]
    have a136 : gRn 5 136 x (wR (wR (wI (wI (wI M9 129 x 0) 130 x (mI M9 38 (mZ M))) 131 x (mI M9 39 (mZ M))) 134 x (some sw)) 135 x (some w)) = some (x + 27) := gRn_ok kx (by rw [mR_wR, if_neg (by omega), mR_wR, if_neg (by omega)]; exact fx9.1.2.2.2.1)
    rw [a136, Option.bind_some]
    have hs : Hs (wR (wR (wI (wI (wI M9 129 x 0) 130 x (mI M9 38 (mZ M))) 131 x (mI M9 39 (mZ M))) 134 x (some sw)) 135 x (some w)) (x + 27) (x + 28) := by
      obtain ⟨t1, t2, t3, t4⟩ := fx9.2.2.1
      exact ⟨t1, by rw [mR_wR, if_neg (by omega), mR_wR, if_neg (by omega)]; exact t2, t3, t4⟩
    rw [cK_ok hs.1, X0_forget hs, Option.bind_some]
  · rw [if_neg k0, if_neg k0]
end LO
