/-! THE CHANGES, BY THEIR SHAPES -/
def InvD (n x : Nat) (M : Mem) (w : Nat) (p : Nat → Nat) (h b : Nat) : Prop := Cls x w p M (mA M (x + 62)) (mA M (x + 64)) h (mA M (x + 65)) b ∧ mI M 165 (x + 60) = nI h ∧ mI M 167 (x + 60) = nI b ∧ Buf x M ∧ (∀ i, i < 72 → mA M (x + 61) i = keyF i) ∧ Wf n (mA M (x + 62)) ∧ (∀ j, j < h → Wf n (sl (mA M (x + 64)) j)) ∧ (∀ s, s < 2 → bit b s → Wf n (sl (mA M (x + 65)) s))
theorem Inv.d {n x : Nat} {M : Mem} (h : Inv n x M) : ∃ w p h b, InvD n x M w p h b := h
theorem InvD.i {n x : Nat} {M : Mem} {w : Nat} {p : Nat → Nat} {h b : Nat} (H : InvD n x M w p h b) : Inv n x M := ⟨w, p, h, b, H⟩
theorem cx_of {x w : Nat} {p : Nat → Nat} {M : Mem} {g o : Nat → Int32} {h : Nat} {v : Nat → Int32} {b : Nat} (hc : ClsZ x w p M g o h v b) {R C Q m k : Nat} (hn : Cnt g R C Q m) (hw : ∀ t, t < 10 → t < 4 + m → WFr k (row g t)) : Cx x w p M g R C Q m k := by
  obtain ⟨rt, ⟨c1, c2, c3, c4, c5, c6⟩, _⟩ := hc
  exact ⟨c1, c2.1.trans c4.1, c4.2, hn, hw, (c3.1 0 w c4.1).1⟩
theorem InvD.cx {n x : Nat} {M : Mem} {w : Nat} {p : Nat → Nat} {h b : Nat} (H : InvD n x M w p h b) : ∃ R C Q m, Cx x w p M (mA M (x + 62)) R C Q m n := by
  obtain ⟨⟨rt, c1, c2, c3, c4, c5, c6⟩, d2, d3, d4, d5, ⟨⟨R, C, Q, m, d6⟩, d7⟩, d8, d9⟩ := H
  exact ⟨R, C, Q, m, c1, c2.1.trans c4.1, c4.2, d6, fun t ht hv => d7 t ht (by rw [d6.m]; exact hv), (c3.1 0 w c4.1).1⟩
/-- what a change of the class may touch -/
def hisT (x a : Nat) : Prop := hisP x a ∨ a = x + 31 ∨ a = x + 33
/-- the reference, after it has remembered and changed -/
def refM (x : Nat) (M : Mem) (o' : Nat → Int32) (h : Nat) (u : Int32) (g : Nat → Int32) : Mem := wA (wI (wI (wA M (x + 64) o') 165 (x + 60) (nI (remH h))) 161 (x + 60) u) (x + 62) g
theorem fin_chg {n x : Nat} {M M1 : Mem} {w w' : Nat} {p p' : Nat → Nat} {h b : Nat} (H : InvD n x M w p h b) (hz : wfz M) {g' : Nat → Int32} (hc : Cls x w' p' M1 g' (remO (mA M (x + 64)) h (mA M (x + 62))) (remH h) (mA M (x + 65)) b) (f : Fr (hisT x) M M1) (hw : Wf (n + 1) g') {M2 : Mem} (s : ∃ fL z, M2 = setZ (wL M1 (x + 68) fL) z) {o' g'' : Nat → Int32} (ho : ∀ q, q < 13300 → o' q = remO (mA M (x + 64)) h (mA M (x + 62)) q) (hg : ∀ q, q < 1330 → g'' q = g' q) {u : Int32} : Inv (n + 1) x (refM x M2 o' h u g'') := by
  obtain ⟨fL, z, rfl⟩ := s
  have HI := H.i
  obtain ⟨a1, a2, a3, a4, a5, a6, a7, a8⟩ := H
  have fx := HI.fix
  have hz69 : x + 69 ≤ mZ M := by
    have := hz (x + 68) (by rw [fx.2.2.2.2.2.2.2.2.1]; decide)
    omega
  have hh : h ≤ 10 := by obtain ⟨rt, _, _, _, _, ⟨nx, _, q, _⟩, _⟩ := a1; exact q
  have nt : ∀ a, a = x ∨ a = x + 1 ∨ a = x + 2 ∨ (x + 60 ≤ a ∧ a < x + 69) → ¬ hisT x a := fun a ha => by unfold hisT hisP; omega
  have fr := fun a (ha : a = x ∨ a = x + 1 ∨ a = x + 2 ∨ (x + 60 ≤ a ∧ a < x + 69)) => f.at (show a < mZ M by omega) (nt a ha)
  let M4 := refM x (setZ (wL M1 (x + 68) fL) z) o' h u g''
  have eA : ∀ a, a ≠ x + 62 → a ≠ x + 64 → mA M4 a = mA M1 a := fun a h1 h2 => by
    show mA (wA (wI (wI (wA M1 (x + 64) o') 165 (x + 60) (nI (remH h))) 161 (x + 60) u) (x + 62) g'') a = _
    rw [mA_ne h1]; exact mA_ne (M := M1) (g := o') h2
  have e62 : mA M4 (x + 62) = g'' := wA_self _ _ _
  have e64 : mA M4 (x + 64) = o' := by
    show mA (wA (wI (wI (wA M1 (x + 64) o') 165 (x + 60) (nI (remH h))) 161 (x + 60) u) (x + 62) g'') (x + 64) = _
    rw [mA_ne (by omega)]; exact wA_self M1 _ _
  have eI : ∀ f a, mI M4 f a = if f = 161 ∧ a = x + 60 then u else if f = 165 ∧ a = x + 60 then nI (remH h) else mI M1 f a := fun f a => by
    show mI (wI (wI (wA M1 (x + 64) o') 165 (x + 60) (nI (remH h))) 161 (x + 60) u) f a = _
    rw [mI_wI, mI_wI]; rfl
  have kp : Keep x M1 M4 := ⟨rfl, rfl, rfl, rfl, fun a h1 h2 h3 h4 h5 => eA a (by omega) (by omega), fun f a h1 h2 => by rw [eI, if_neg (by omega), if_neg (by omega)]⟩
  have wfs : Wf (n + 1) (mA M (x + 62)) := a6.mono (by omega)
  refine ⟨w', p', remH h, b, ?_, ?_, ?_, ?_, ?_, ?_, ?_, ?_⟩
  · show Cls x w' p' M4 (mA M4 (x + 62)) (mA M4 (x + 64)) (remH h) (mA M4 (x + 65)) b
    rw [e62, e64, eA _ (by omega) (by omega), (fr (x + 65) (by omega)).2.1]
    exact (hc.keep kp).congr hg (fun q hq => ho q (by unfold remH at hq; split at hq <;> omega)) (fun _ _ _ _ _ => rfl)
  · show mI M4 165 (x + 60) = _
    rw [eI, if_neg (by omega), if_pos ⟨rfl, rfl⟩]
  · show mI M4 167 (x + 60) = _
    rw [eI, if_neg (by omega), if_neg (by omega), (fr (x + 60) (by omega)).1]; exact a3
  · refine a4.same (fun f => ?_) (fun f h1 h3 _ h2 => ?_) ?_ ?_ ?_ ?_
    · show mI M4 f x = _
      rw [eI, if_neg (by omega), if_neg (by omega), (fr x (by omega)).1]
    · show mI M4 f (x + 60) = _
      rw [eI, if_neg (by omega), if_neg (by omega), (fr (x + 60) (by omega)).1]
    · show mA M4 (x + 1) = _
      rw [eA _ (by omega) (by omega), (fr (x + 1) (by omega)).2.1]
    · show mA M4 (x + 2) = _
      rw [eA _ (by omega) (by omega), (fr (x + 2) (by omega)).2.1]
    · show mA M4 (x + 66) = _
      rw [eA _ (by omega) (by omega), (fr (x + 66) (by omega)).2.1]
    · show mA M4 (x + 67) = _
      rw [eA _ (by omega) (by omega), (fr (x + 67) (by omega)).2.1]
  · show ∀ i, i < 72 → mA M4 (x + 61) i = keyF i
    rw [eA _ (by omega) (by omega), (fr (x + 61) (by omega)).2.1]; exact a5
  · show Wf (n + 1) (mA M4 (x + 62))
    rw [e62]; exact hw.congr hg
  · show ∀ j, j < remH h → Wf (n + 1) (sl (mA M4 (x + 64)) j)
    rw [e64]
    intro j hj
    have hs : ∀ q, q < 1330 → sl o' j q = sl (remO (mA M (x + 64)) h (mA M (x + 62))) j q := fun q hq => ho _ (by unfold remH at hj; split at hj <;> omega)
    by_cases c : j = remH h - 1
    · exact wfs.congr (fun q hq => (hs q hq).trans (by rw [c]; exact sl_rem_new hh q hq))
    · by_cases c10 : h = 10
      · subst c10
        have hj9 : j < 9 := by have e : remH 10 = 10 := if_pos rfl; omega
        exact ((a7 (j + 1) (by omega)).mono (by omega)).congr (fun q hq => (hs q hq).trans (sl_rem_sh hj9 q hq))
      · have hjh : j < h := by have e : remH h = h + 1 := if_neg c10; omega
        exact ((a7 j hjh).mono (by omega)).congr (fun q hq => (hs q hq).trans (sl_rem_old (by omega) hjh q hq))
  · show ∀ s, s < 2 → bit b s → Wf (n + 1) (sl (mA M4 (x + 65)) s)
    rw [eA _ (by omega) (by omega), (fr (x + 65) (by omega)).2.1]
    exact fun s hs hb => (a8 s hs hb).mono (by omega)
theorem frT {n x : Nat} {M M1 : Mem} (hI : Inv n x M) (hz : wfz M) (f : Fr (hisT x) M M1) : Fix x M1 ∧ mA M1 (x + 62) = mA M (x + 62) ∧ mA M1 (x + 64) = mA M (x + 64) ∧ mI M1 165 (x + 60) = mI M 165 (x + 60) ∧ mA M1 (x + 65) = mA M (x + 65) ∧ mI M1 167 (x + 60) = mI M 167 (x + 60) := by
  have fx := hI.fix
  have hz69 : x + 69 ≤ mZ M := by
    have := hz (x + 68) (by rw [fx.2.2.2.2.2.2.2.2.1]; decide)
    omega
  have fr := fun a (ha : x + 60 ≤ a ∧ a < x + 69) => f.at (show a < mZ M by omega) (show ¬ hisT x a by unfold hisT hisP; omega)
  exact ⟨fx.fr f hz69, (fr _ (by omega)).2.1, (fr _ (by omega)).2.1, (fr _ (by omega)).1 _, (fr _ (by omega)).2.1, (fr _ (by omega)).1 _⟩
/-- a change done -/
def ChgOK (n x : Nat) (M : Mem) (h b : Nat) (F : Option ((Int32 ⊕ Nat) × Mem)) (G : Mem → Option (Int32 × Mem)) (v : Int32) : Prop := ∃ M1 w' p' g', F = some (.inl v, M1) ∧ Cls x w' p' M1 g' (remO (mA M (x + 64)) h (mA M (x + 62))) (remH h) (mA M (x + 65)) b ∧ Fr (hisT x) M M1 ∧ Wf (n + 1) g' ∧ ∀ M2, Fix x M2 → mA M2 (x + 64) = mA M (x + 64) → mI M2 165 (x + 60) = nI h → mA M2 (x + 65) = mA M (x + 65) → mI M2 167 (x + 60) = mI M 167 (x + 60) → ∃ o' g'', G (wA M2 (x + 62) (mA M (x + 62))) = some (v, refM x M2 o' h 0 g'') ∧ (∀ q, q < 13300 → o' q = remO (mA M (x + 64)) h (mA M (x + 62)) q) ∧ (∀ q, q < 1330 → g'' q = g' q)
/-- a change refused -/
def ExcOK (x : Nat) (M : Mem) (F : Option ((Int32 ⊕ Nat) × Mem)) (G : Mem → Option (Int32 × Mem)) (H : Nat → Mem → Option (Int32 × Mem)) : Prop := ∃ E kx M1, kx ≠ 0 ∧ (∀ M, H E M = some (kx, M)) ∧ F = some (.inr E, M1) ∧ CSim x M M1 ∧ ∀ M2, Fix x M2 → (∀ f, f ≠ 161 → f < 174 → mI M2 f (x + 60) = mI M f (x + 60)) → mA M2 (x + 67) = mA M (x + 67) → ∃ v, G (wA M2 (x + 62) (mA M (x + 62))) = some (v, wA (wI M2 161 (x + 60) kx) (x + 62) (mA M (x + 62)))
section LC
variable {n x : Nat} {M : Mem}
theorem ref_fix {M2 : Mem} (f : Fix x M2) {o' g'' : Nat → Int32} {h : Nat} {u : Int32} : Fix x (refM x M2 o' h u g'') ∧ mI (refM x M2 o' h u g'') 161 (x + 60) = u := ⟨f, by
  show mI (wI (wI (wA M2 (x + 64) o') 165 (x + 60) (nI (remH h))) 161 (x + 60) u) 161 (x + 60) = u
  rw [mI_wI, if_pos ⟨rfl, rfl⟩]⟩
theorem exc_end (hI : Inv n x M) {M1 : Mem} (h2 : CSim x M M1) {G : Mem → Option (Int32 × Mem)} {kx : Int32} (hk0 : kx ≠ 0) {z : Nat} (h3 : ∀ M2, Fix x M2 → (∀ f, f ≠ 161 → f < 174 → mI M2 f (x + 60) = mI M f (x + 60)) → mA M2 (x + 67) = mA M (x + 67) → ∃ v, G (wA M2 (x + 62) (mA M (x + 62))) = some (v, wA (wI M2 161 (x + 60) kx) (x + 62) (mA M (x + 62)))) {K : Int32 → Mem → Option Mem} (Q : Mem → Prop) (hQ : ∀ M', Inv (n + 1) x M' → Q M') : ∃ M2, (bn (cK 6 (x + 60) (setZ M1 z) (G (setZ M1 z))) fun v4 M3 => bn (cK 6 (x + 60) M3 (f_X5_thrown (x + 60) M3)) fun v6 M5 => (if v6 = kx then (if kx = 0 then K v4 M5 else some M5) else none)) = some M2 ∧ Q M2 := by
  have fx := hI.fix
  have f1 := fx.sim h2.sim
  have f2 : Fix x (setZ M1 z) := f1
  have e67 : ∀ f, f ≠ 161 → f < 174 → mI (setZ M1 z) f (x + 60) = mI M f (x + 60) := fun f h1 h3 => h2.sim.2.2.2.2.2.2 f _ (by omega)
  obtain ⟨v, e1⟩ := h3 _ f2 e67 (h2.sim.2.2.2.2.1 _ (by omega) (by omega) (by omega) (by omega))
  have en : mA (setZ M1 z) (x + 62) = mA M (x + 62) := h2.now
  rw [← en, wA_id] at e1
  have s3 := Sim.told (x := x) (M := setZ M1 z) (v := kx) (g := mA (setZ M1 z) (x + 62)) (fun q _ => rfl)
  have f3 : Fix x (wA (wI (setZ M1 z) 161 (x + 60) kx) (x + 62) (mA (setZ M1 z) (x + 62))) := f2.sim s3
  refine ⟨_, ?_, hQ _ (((hI.sim h2.sim).sim (Sim.setZ.trans s3)).mono (by omega))⟩
  rw [cK_ok f2.rn.1, e1, bn_some, cK_ok f3.rn.1, thrown_eq f3.rn.1, bn_some]
  have e161 : mI (wA (wI (setZ M1 z) 161 (x + 60) kx) (x + 62) (mA (setZ M1 z) (x + 62))) 161 (x + 60) = kx := by
    show mI (wI _ 161 (x + 60) kx) 161 (x + 60) = kx
    rw [mI_wI, if_pos ⟨rfl, rfl⟩]
  rw [if_pos e161, if_neg hk0]
theorem lw_chg {w : Nat} {p : Nat → Nat} {h b : Nat} {H : Nat → Mem → Option (Int32 × Mem)} {F : Option ((Int32 ⊕ Nat) × Mem)} {G : Mem → Option (Int32 × Mem)} (hD : InvD n x M w p h b) (hz : wfz M) (hh : (∃ v, ChgOK n x M h b F G v) ∨ ExcOK x M F G H) :
    ∃ kv M1, (bx (cK 5 x M F) H fun v1 M2 => (sL (x + 68) 0 v1.toInt64 M2).bind fun M3 => some (0, M3)) = some (kv, M1) ∧ ∀ z, wfz (setZ M1 z) → ∃ M2, (bn (cK 6 (x + 60) (setZ M1 z) (G (setZ M1 z))) fun v4 M3 => bn (cK 6 (x + 60) M3 (f_X5_thrown (x + 60) M3)) fun v6 M5 => (if v6 = kv then (if kv = 0 then (gL (x + 68) 0 M5).bind fun v7 => (if (lg_cmp v7 v4.toInt64) = 0 then some M5 else none) else some M5) else none)) = some M2 ∧ Inv (n + 1) x M2 := by
  have hI := hD.i
  have fx := hI.fix
  rcases hh with ⟨v, M1, w', p', g', h1, hc, hf, hw, h3⟩ | ⟨E, kx, M1, hk0, hH, h1, h2, h3⟩
  · obtain ⟨f1, a62, a64, i165, a65, i167⟩ := frT hI hz hf
    refine ⟨0, wL M1 (x + 68) (u1 (mL M1 (x + 68)) 0 v.toInt64), ?_, fun z _ => ?_⟩
    · rw [cK_ok fx.1.1, h1]
      show ((sL (x + 68) 0 v.toInt64 M1).bind fun M3 => some ((0 : Int32), M3)) = _
      rw [sL_ok f1]; rfl
    · have f2 : Fix x (setZ (wL M1 (x + 68) (u1 (mL M1 (x + 68)) 0 v.toInt64)) z) := f1
      obtain ⟨o', g'', e1, ho, hg⟩ := h3 _ f2 a64 (i165.trans hD.2.1) a65 i167
      have en : mA (setZ (wL M1 (x + 68) (u1 (mL M1 (x + 68)) 0 v.toInt64)) z) (x + 62) = mA M (x + 62) := a62
      rw [← en, wA_id] at e1
      obtain ⟨f3, e161⟩ := ref_fix (o' := o') (g'' := g'') (h := h) (u := 0) f2
      refine ⟨refM x (setZ (wL M1 (x + 68) (u1 (mL M1 (x + 68)) 0 v.toInt64)) z) o' h 0 g'', ?_, fin_chg hD hz hc hf hw ⟨_, _, rfl⟩ ho hg⟩
      rw [cK_ok f2.rn.1, e1, bn_some, cK_ok f3.rn.1, thrown_eq f3.rn.1, bn_some, if_pos e161, if_pos rfl, gL_ok f3, Option.bind_some]
      have eL : mL (refM x (setZ (wL M1 (x + 68) (u1 (mL M1 (x + 68)) 0 v.toInt64)) z) o' h 0 g'') (x + 68) 0 = v.toInt64 := by
        show mL (wL M1 (x + 68) (u1 (mL M1 (x + 68)) 0 v.toInt64)) (x + 68) 0 = _
        rw [wL_self, u1_self]
      rw [if_pos (by rw [eL]; exact lg_cmp0 _)]
  · refine ⟨kx, M1, ?_, fun z _ => ?_⟩
    · rw [cK_ok fx.1.1, h1]; exact hH M1
    · exact exc_end hI h2 hk0 h3 (Inv (n + 1) x) (fun _ h => h)
theorem lw_chgb {w : Nat} {p : Nat → Nat} {h b : Nat} {F : Option ((Int32 ⊕ Nat) × Mem)} {G : Mem → Option (Int32 × Mem)} (hD : InvD n x M w p h b) (hz : wfz M) (hh : (∃ v, (v = 0 ∨ v = 1) ∧ ChgOK n x M h b F G v) ∨ ExcOK x M F G (hnd1 0)) :
    ∃ kv M1, (bx (cK 5 x M F) (hnd1 0) fun v1 M2 => (if v1 = 0 then (sL (x + 68) 0 0 M2).bind fun M3 => some (0, M3) else (sL (x + 68) 0 1 M2).bind fun M4 => some (0, M4))) = some (kv, M1) ∧ ∀ z, wfz (setZ M1 z) → ∃ M2, (bn (cK 6 (x + 60) (setZ M1 z) (G (setZ M1 z))) fun v4 M3 => bn (cK 6 (x + 60) M3 (f_X5_thrown (x + 60) M3)) fun v6 M5 => (if v6 = kv then (if kv = 0 then (gL (x + 68) 0 M5).bind fun v7 => (if v4 = 0 then (if (lg_cmp v7 0) = 0 then some M5 else none) else (if (lg_cmp v7 1) = 0 then some M5 else none)) else some M5) else none)) = some M2 ∧ Inv (n + 1) x M2 := by
  have hI := hD.i
  have fx := hI.fix
  rcases hh with ⟨v, hv, M1, w', p', g', h1, hc, hf, hw, h3⟩ | ⟨E, kx, M1, hk0, hH, h1, h2, h3⟩
  · obtain ⟨f1, a62, a64, i165, a65, i167⟩ := frT hI hz hf
    obtain ⟨u, hu⟩ : ∃ u : Int64, u = if v = 0 then 0 else 1 := ⟨_, rfl⟩
    refine ⟨0, wL M1 (x + 68) (u1 (mL M1 (x + 68)) 0 u), ?_, fun z _ => ?_⟩
    · rw [cK_ok fx.1.1, h1]
      show (if v = 0 then (sL (x + 68) 0 0 M1).bind fun M3 => some ((0 : Int32), M3) else (sL (x + 68) 0 1 M1).bind fun M4 => some (0, M4)) = _
      rw [sL_ok f1, sL_ok f1]
      by_cases c : v = 0
      · rw [if_pos c, hu, if_pos c]; rfl
      · rw [if_neg c, hu, if_neg c]; rfl
    · have f2 : Fix x (setZ (wL M1 (x + 68) (u1 (mL M1 (x + 68)) 0 u)) z) := f1
      obtain ⟨o', g'', e1, ho, hg⟩ := h3 _ f2 a64 (i165.trans hD.2.1) a65 i167
      have en : mA (setZ (wL M1 (x + 68) (u1 (mL M1 (x + 68)) 0 u)) z) (x + 62) = mA M (x + 62) := a62
      rw [← en, wA_id] at e1
      obtain ⟨f3, e161⟩ := ref_fix (o' := o') (g'' := g'') (h := h) (u := 0) f2
      refine ⟨refM x (setZ (wL M1 (x + 68) (u1 (mL M1 (x + 68)) 0 u)) z) o' h 0 g'', ?_, fin_chg hD hz hc hf hw ⟨_, _, rfl⟩ ho hg⟩
      rw [cK_ok f2.rn.1, e1, bn_some, cK_ok f3.rn.1, thrown_eq f3.rn.1, bn_some, if_pos e161, if_pos rfl, gL_ok f3, Option.bind_some]
      have eL : mL (refM x (setZ (wL M1 (x + 68) (u1 (mL M1 (x + 68)) 0 u)) z) o' h 0 g'') (x + 68) 0 = u := by
        show mL (wL M1 (x + 68) (u1 (mL M1 (x + 68)) 0 u)) (x + 68) 0 = _
        rw [wL_self, u1_self]
      rw [eL, hu]
      by_cases c : v = 0
      · rw [if_pos c, if_pos c, if_pos (lg_cmp0 _)]
      · rw [if_neg c, if_neg c, if_pos (lg_cmp0 _)]
  · refine ⟨kx, M1, ?_, fun z _ => ?_⟩
    · rw [cK_ok fx.1.1, h1]; exact hH M1
    · exact exc_end hI h2 hk0 h3 (Inv (n + 1) x) (fun _ h => h)
end LC
