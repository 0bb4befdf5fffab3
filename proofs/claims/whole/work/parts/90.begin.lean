/-! WHAT HOLDS AT FIRST -/
section BG
variable {M : Mem} {x : Nat}
theorem begin_inv (hx : x = mZ M) : ∃ M1 M2, f_X4_init x (newO 5 M) = some M1 ∧ mZ M1 = x + 60 ∧ f_X5_init (x + 60) (newO 6 M1) = some M2 ∧ mZ M2 = x + 68 ∧ Inv 600 x (newA 12 1 M2) := by
  obtain ⟨M1, s1, f1, z1, ⟨⟨a1, a2, a3, a4, a5, a6, a7⟩, ⟨b1, b2, b3, b4⟩, hh, ⟨d1, d2⟩, st1, st2, ⟨e1, e2, e3, e4⟩, ws, rel, ⟨g1, g2⟩, ⟨h1, h2, h3, h4⟩⟩⟩ := c_init hx
  obtain ⟨M2, s2, f2, z2, ⟨⟨j1, j2, j3, j4, j5, j6, j7, j8⟩, ⟨k1, k1'⟩, ⟨k2, k2'⟩, ⟨k3, k3'⟩, ⟨k4, k4'⟩, ⟨k5, k5'⟩, ⟨k6, k6'⟩, ⟨k7, k7'⟩⟩, ky, nw, ⟨l1, l2, l3, l4, l5, l6⟩⟩ := r_init (m := x + 60) z1.symm
  refine ⟨M1, M2, s1, z1, s2, z2, ?_⟩
  obtain ⟨M3, eM3⟩ : ∃ D, D = newA 12 1 M2 := ⟨_, rfl⟩
  have a9 := newA_K (k := 12) (n := 1) (M := M2)
  rw [z2, ← eM3] at a9
  have f3 : Fo (fun _ => False) M2 M3 := by rw [eM3]; exact Fo.newA
  have t1 : Fo (fun _ => False) M1 M3 := f2.tr f3
  rw [← eM3]
  have q1 := fun a (ha : a < x + 60) => t1.2 a (by omega)
  have q2 := fun a (ha : a < x + 68) => f3.2 a (by omega)
  have R1 := fun f => ((q1 x (by omega)).2 id).1 f
  have I1 := fun f => ((q1 x (by omega)).2 id).2.1 f
  have R2 := fun f => ((q2 (x + 60) (by omega)).2 id).1 f
  have I2 := fun f => ((q2 (x + 60) (by omega)).2 id).2.1 f
  have fx : Fix x M3 := ⟨⟨(q1 x (by omega)).1.1.trans a1, (R1 _).trans a2, (R1 _).trans a3, (R1 _).trans a4, (R1 _).trans a5, (R1 _).trans a6, (R1 _).trans a7⟩,
    ⟨(q1 (x + 1) (by omega)).1.1.trans b1, (q1 (x + 1) (by omega)).1.2.trans b2, (q1 (x + 2) (by omega)).1.1.trans b3, (q1 (x + 2) (by omega)).1.2.trans b4⟩,
    hh.fo t1 ⟨by omega, id⟩ (by omega), ⟨(q1 (x + 29) (by omega)).1.1.trans d1, (q1 (x + 29) (by omega)).1.2.trans d2⟩, st1.fo t1 ⟨by omega, id⟩ (by omega), st2.fo t1 ⟨by omega, id⟩ (by omega),
    ⟨(q2 (x + 60) (by omega)).1.1.trans j1, (R2 _).trans j2, (R2 _).trans j3, (R2 _).trans j4, (R2 _).trans j5, (R2 _).trans j6, (R2 _).trans j7, (R2 _).trans j8⟩,
    ⟨⟨(q2 (x + 61) (by omega)).1.1.trans k1, (q2 (x + 61) (by omega)).1.2.trans k1'⟩, ⟨(q2 (x + 62) (by omega)).1.1.trans k2, (q2 (x + 62) (by omega)).1.2.trans k2'⟩, ⟨(q2 (x + 63) (by omega)).1.1.trans k3, (q2 (x + 63) (by omega)).1.2.trans k3'⟩, ⟨(q2 (x + 64) (by omega)).1.1.trans k4, (q2 (x + 64) (by omega)).1.2.trans k4'⟩, ⟨(q2 (x + 65) (by omega)).1.1.trans k5, (q2 (x + 65) (by omega)).1.2.trans k5'⟩, ⟨(q2 (x + 66) (by omega)).1.1.trans k6, (q2 (x + 66) (by omega)).1.2.trans k6'⟩, ⟨(q2 (x + 67) (by omega)).1.1.trans k7, (q2 (x + 67) (by omega)).1.2.trans k7'⟩⟩, ⟨a9.1, a9.2.1⟩⟩
  have e62 : mA M3 (x + 62) = gS11 := ((q2 (x + 62) (by omega)).2 id).2.2.1.trans nw
  have ws3 : WS M3 (x + 3) id := ws.fo t1 (by omega) (fun _ _ h => h)
  have rel3 : RelP M3 (x + 34) id gS11 := rel.fo t1 (by omega) (fun _ _ h => h)
  let rt : Nat → Option Nat := fun k => if k = 0 then some (x + 34) else if k = 1 then some (x + 3) else none
  have rts : ∀ k u, rt k = some u → (k = 0 ∧ u = x + 34) ∨ (k = 1 ∧ u = x + 3) := fun k u e => by
    have e : (if k = 0 then some (x + 34) else if k = 1 then some (x + 3) else none) = some u := e
    by_cases c0 : k = 0
    · rw [if_pos c0] at e; cases e; exact Or.inl ⟨c0, rfl⟩
    · rw [if_neg c0] at e
      by_cases c1 : k = 1
      · rw [if_pos c1] at e; cases e; exact Or.inr ⟨c1, rfl⟩
      · rw [if_neg c1] at e; cases e
  have rtn : ∀ k, 2 ≤ k → rt k = none := fun k hk => by
    show (if k = 0 then some (x + 34) else if k = 1 then some (x + 3) else none) = none
    rw [if_neg (by omega), if_neg (by omega)]
  have cc : CC x (x + 34) id rt M3 gS11 (mA M3 (x + 64)) 0 (mA M3 (x + 65)) 0 := by
    refine ⟨fx, ⟨(R1 _).trans e1, (R1 _).trans e2, fun i hi => ?_, fun s hs => ?_⟩, ⟨fun k u e => ?_, fun k k' u u' hk e e' => ?_, x + 3, rfl⟩, ⟨rfl, rel3⟩, ⟨0, by omega, by omega, ?_, ?_, fun j hj => by omega⟩, ⟨by omega, fun s hs => ⟨fun hb => ?_, fun _ => rtn _ (by omega)⟩⟩⟩
    · rw [((q1 (x + 28) (by omega)).2 id).2.2.2.1, e3, rtn _ (by omega)]
    · rw [((q1 (x + 29) (by omega)).2 id).2.2.2.1, e4, rtn _ (by omega)]
    · rcases rts k u e with ⟨_, rfl⟩ | ⟨_, rfl⟩
      · exact ⟨Or.inr (Or.inl rfl), id, rel3.1⟩
      · exact ⟨Or.inl rfl, id, ws3⟩
    · rcases rts k u e with ⟨c, rfl⟩ | ⟨c, rfl⟩ <;> rcases rts k' u' e' with ⟨c', rfl⟩ | ⟨c', rfl⟩ <;> omega
    · rw [((q1 (x + 27) (by omega)).2 id).2.1]; exact g1
    · rw [((q1 (x + 27) (by omega)).2 id).2.1]; exact g2
    · unfold bit at hb
      rw [Nat.zero_div] at hb
      omega
  have wf : Wf 600 gS11 := (textR_wf (by omega) (fun _ _ => rfl) text_S).mono (by omega)
  refine ⟨x + 34, id, 0, 0, ?_, (I2 _).trans l1, (I2 _).trans l2, ⟨0, 0, by omega, by omega, (I1 _).trans h1, (I2 _).trans l3, (I1 _).trans h4, (I2 _).trans l4, ?_, ?_, fun i hi => by omega, fun i hi => by omega⟩, fun i hi => ?_, ?_, fun j hj => by omega, fun s hs hb => ?_⟩
  · rw [e62]; exact ⟨rt, cc⟩
  · rw [I1, I2, h2, l5]
  · rw [I1, I2, h3, l6]
  · rw [((q2 (x + 61) (by omega)).2 id).2.2.1]; exact ky i hi
  · rw [e62]; exact wf
  · unfold bit at hb
    rw [Nat.zero_div] at hb
    omega
end BG
