/-! WHAT HOLDS BETWEEN THE CALLS, ALL OF IT; THE LAW'S CASES BY THEIR SHAPES -/
def Cnt (g : Nat → Int32) (R C Q m : Nat) : Prop := g 0 = nI R ∧ g 1 = nI C ∧ g 2 = nI Q ∧ g 3 = nI m ∧ 1 ≤ R ∧ R ≤ 4 ∧ C ≤ 4 ∧ Q ≤ 4 ∧ m ≤ 6
theorem Cnt.m {g : Nat → Int32} {R C Q m : Nat} (h : Cnt g R C Q m) : mcn g = m := by unfold mcn; rw [h.2.2.2.1, nI_cl (by have := h.2.2.2.2.2.2.2.2; omega)]
def Wf (k : Nat) (g : Nat → Int32) : Prop := (∃ R C Q m, Cnt g R C Q m) ∧ ∀ t, t < 10 → t < 4 + mcn g → WFr k (row g t)
theorem Wf.congr {k : Nat} {g g' : Nat → Int32} (h : Wf k g) (e : ∀ q, q < 1330 → g' q = g q) : Wf k g' := by
  obtain ⟨⟨R, C, Q, m, c⟩, h2⟩ := h
  have em : mcn g' = mcn g := by unfold mcn; rw [e 3 (by omega)]
  refine ⟨⟨R, C, Q, m, by rw [e 0 (by omega)]; exact c.1, by rw [e 1 (by omega)]; exact c.2.1, by rw [e 2 (by omega)]; exact c.2.2.1, by rw [e 3 (by omega)]; exact c.2.2.2.1, c.2.2.2.2⟩, fun t ht hv => ?_⟩
  rw [em] at hv
  exact (h2 t ht hv).congr (fun i hi => e _ (by rw [bs_eq]; omega))
theorem Wf.mono {k l : Nat} {g : Nat → Int32} (h : Wf k g) (hl : k ≤ l) : Wf l g := ⟨h.1, fun t ht hv => (h.2 t ht hv).mono hl⟩
def Buf (x : Nat) (M : Mem) : Prop := ∃ len ol, len ≤ 600 ∧ ol ≤ 32 ∧ mI M 129 x = nI len ∧ mI M 169 (x + 60) = nI len ∧ mI M 133 x = nI ol ∧ mI M 171 (x + 60) = nI ol ∧ mI M 130 x = mI M 172 (x + 60) ∧ mI M 131 x = mI M 173 (x + 60) ∧
  (∀ i, i < len → (0 ≤ (mA M (x + 1) i).toInt ∧ (mA M (x + 1) i).toInt ≤ 255) ∧ mA M (x + 66) i = vp_nar .byte (mA M (x + 1) i)) ∧ ∀ i, i < ol → mA M (x + 2) i = mA M (x + 67) i
def keyF (i : Nat) : Int32 := ([114, 101, 112, 108, 105, 99, 97, 115, 105, 110, 99, 0, 0, 0, 0, 0, 100, 101, 99, 0, 0, 0, 0, 0, 97, 100, 100, 0, 0, 0, 0, 0, 114, 101, 109, 111, 118, 101, 0, 0, 119, 114, 105, 116, 101, 0, 0, 0, 109, 101, 114, 103, 101, 0, 0, 0, 115, 101, 110, 100, 0, 0, 0, 0, 100, 101, 108, 105, 118, 101, 114, 0] : List Int32).getD i 0
def Inv (n x : Nat) (M : Mem) : Prop := ∃ w p h b, Cls x w p M (mA M (x + 62)) (mA M (x + 64)) h (mA M (x + 65)) b ∧ mI M 165 (x + 60) = nI h ∧ mI M 167 (x + 60) = nI b ∧ Buf x M ∧ (∀ i, i < 72 → mA M (x + 61) i = keyF i) ∧ Wf n (mA M (x + 62)) ∧ (∀ j, j < h → Wf n (sl (mA M (x + 64)) j)) ∧ (∀ s, s < 2 → bit b s → Wf n (sl (mA M (x + 65)) s))
theorem Inv.mono {n l x : Nat} {M : Mem} (h : Inv n x M) (hl : n ≤ l) : Inv l x M := by
  obtain ⟨w, p, h, b, c1, c2, c3, c4, c5, c6, c7, c8⟩ := h
  exact ⟨w, p, h, b, c1, c2, c3, c4, c5, c6.mono hl, fun j hj => (c7 j hj).mono hl, fun s hs hb => (c8 s hs hb).mono hl⟩
/-- nothing that counts has changed -/
def Sim (x : Nat) (M M' : Mem) : Prop := mK M' = mK M ∧ mN M' = mN M ∧ mR M' = mR M ∧ mB M' = mB M ∧ (∀ a, a ≠ x + 31 → a ≠ x + 33 → a ≠ x + 62 → a ≠ x + 63 → mA M' a = mA M a) ∧ (∀ q, q < 1330 → mA M' (x + 62) q = mA M (x + 62) q) ∧ (∀ f a, ¬ (a = x + 60 ∧ (f = 161 ∨ 174 ≤ f)) → mI M' f a = mI M f a)
theorem Sim.keep {x : Nat} {M M' : Mem} (h : Sim x M M') : Keep x M M' := by
  obtain ⟨k1, k2, k3, k4, k5, k6, k7⟩ := h
  exact ⟨k1, k2, k3, k4, fun a h1 h2 _ _ h5 => k5 a h1 h2 (by omega) (by omega), fun f a h1 h2 => k7 f a (by omega)⟩
theorem Sim.trans {x : Nat} {M M' M2 : Mem} (h : Sim x M M') (k : Sim x M' M2) : Sim x M M2 := by
  obtain ⟨k1, k2, k3, k4, k5, k6, k7⟩ := h
  obtain ⟨l1, l2, l3, l4, l5, l6, l7⟩ := k
  exact ⟨l1.trans k1, l2.trans k2, l3.trans k3, l4.trans k4, fun a h1 h2 h3 h4 => (l5 a h1 h2 h3 h4).trans (k5 a h1 h2 h3 h4), fun q hq => (l6 q hq).trans (k6 q hq), fun f a h => (l7 f a h).trans (k7 f a h)⟩
theorem Buf.same {x : Nat} {M M' : Mem} (h : Buf x M) (e1 : ∀ f, mI M' f x = mI M f x) (e2 : ∀ f, f ≠ 161 → f ≠ 165 → f ≠ 167 → f < 174 → mI M' f (x + 60) = mI M f (x + 60)) (e3 : mA M' (x + 1) = mA M (x + 1)) (e4 : mA M' (x + 2) = mA M (x + 2)) (e5 : mA M' (x + 66) = mA M (x + 66)) (e6 : mA M' (x + 67) = mA M (x + 67)) : Buf x M' := by
  obtain ⟨len, ol, a1, a2, a3, a4, a5, a6, a7, a8, a9, a10⟩ := h
  refine ⟨len, ol, a1, a2, by rw [e1]; exact a3, by rw [e2 _ (by omega) (by omega) (by omega) (by omega)]; exact a4, by rw [e1]; exact a5, by rw [e2 _ (by omega) (by omega) (by omega) (by omega)]; exact a6, by rw [e1, e2 _ (by omega) (by omega) (by omega) (by omega)]; exact a7, by rw [e1, e2 _ (by omega) (by omega) (by omega) (by omega)]; exact a8, ?_, ?_⟩
  · rw [e3, e5]; exact a9
  · rw [e4, e6]; exact a10
theorem Inv.sim {n x : Nat} {M M' : Mem} (h : Inv n x M) (k : Sim x M M') : Inv n x M' := by
  obtain ⟨w, p, h, b, c1, c2, c3, c4, c5, c6, c7, c8⟩ := h
  have K := k
  obtain ⟨k1, k2, k3, k4, k5, k6, k7⟩ := k
  have e64 : mA M' (x + 64) = mA M (x + 64) := k5 _ (by omega) (by omega) (by omega) (by omega)
  have e65 : mA M' (x + 65) = mA M (x + 65) := k5 _ (by omega) (by omega) (by omega) (by omega)
  refine ⟨w, p, h, b, ?_, by rw [k7 _ _ (by omega)]; exact c2, by rw [k7 _ _ (by omega)]; exact c3, ?_, ?_, c6.congr k6, ?_, ?_⟩
  · rw [e64, e65]; exact (c1.keep K.keep).congr k6 (fun q _ => rfl) (fun s q _ _ _ => rfl)
  · exact c4.same (fun f => k7 _ _ (by omega)) (fun f h1 _ _ h2 => k7 _ _ (by omega)) (k5 _ (by omega) (by omega) (by omega) (by omega)) (k5 _ (by omega) (by omega) (by omega) (by omega)) (k5 _ (by omega) (by omega) (by omega) (by omega)) (k5 _ (by omega) (by omega) (by omega) (by omega))
  · rw [k5 _ (by omega) (by omega) (by omega) (by omega)]; exact c5
  · rw [e64]; exact c7
  · rw [e65]; exact c8
/-- the class has only tried something -/
def CSim (x : Nat) (M M' : Mem) : Prop := ∃ f1 f2, M' = wA (wA M (x + 31) f1) (x + 33) f2
theorem CSim.refl {x : Nat} {M : Mem} : CSim x M M := ⟨mA M (x + 31), mA M (x + 33), by rw [wA_id, wA_id]⟩
theorem CSim.one {x : Nat} {M : Mem} {f : Nat → Int32} : CSim x M (wA M (x + 31) f) := ⟨f, mA M (x + 33), by
  have : mA (wA M (x + 31) f) (x + 33) = mA M (x + 33) := mA_ne (by omega)
  rw [← this, wA_id]⟩
theorem CSim.trans {x : Nat} {M M' M2 : Mem} (h : CSim x M M') (k : CSim x M' M2) : CSim x M M2 := by
  obtain ⟨a, b, rfl⟩ := h
  obtain ⟨c, d, rfl⟩ := k
  refine ⟨c, d, ?_⟩
  rw [wA_comm (a := x + 33) (b := x + 31) (by omega), wA_again, wA_again]
theorem CSim.now {x : Nat} {M M' : Mem} (h : CSim x M M') : mA M' (x + 62) = mA M (x + 62) := by
  obtain ⟨a, b, rfl⟩ := h
  rw [mA_ne (by omega), mA_ne (by omega)]
theorem CSim.sim {x : Nat} {M M' : Mem} (h : CSim x M M') : Sim x M M' := by
  obtain ⟨a, b, rfl⟩ := h
  exact ⟨rfl, rfl, rfl, rfl, fun a h1 h2 h3 h4 => by rw [mA_ne h2, mA_ne h1], fun q hq => by rw [mA_ne (by omega), mA_ne (by omega)], fun f a h => rfl⟩
theorem Sim.wL {x : Nat} {M : Mem} {a : Nat} {f : Nat → Int64} {z : Nat} : Sim x M (setZ (wL M a f) z) := ⟨rfl, rfl, rfl, rfl, fun a h1 h2 h3 h4 => rfl, fun q hq => rfl, fun f a h => rfl⟩
theorem Sim.setZ {x : Nat} {M : Mem} {z : Nat} : Sim x M (Jvm.Pilot.COfflineNotesLaw_law_r8908_f384f3.setZ M z) := ⟨rfl, rfl, rfl, rfl, fun a h1 h2 h3 h4 => rfl, fun q hq => rfl, fun f a h => rfl⟩
theorem Sim.told {x : Nat} {M : Mem} {v : Int32} {g : Nat → Int32} (h : ∀ q, q < 1330 → g q = mA M (x + 62) q) : Sim x M (wA (wI M 161 (x + 60) v) (x + 62) g) := ⟨rfl, rfl, rfl, rfl, fun a h1 h2 h3 h4 => by rw [mA_ne h3]; rfl, fun q hq => by rw [wA_self, h q hq], fun f a h => by
  show mI (wI M 161 (x + 60) v) f a = _
  rw [mI_wI, if_neg (by omega)]⟩
theorem Fix.sim {x : Nat} {M M' : Mem} (h : Fix x M) (k : Sim x M M') : Fix x M' := h.same (fun i _ => ⟨by rw [k.1], by rw [k.2.1]⟩) (fun f i _ _ _ => by rw [k.2.2.1])
theorem Fix.rn {x : Nat} {M : Mem} (h : Fix x M) : Rn M (x + 60) (x + 62) := ⟨h.2.2.2.2.2.2.1.1, h.2.2.2.2.2.2.1.2.2.1, h.2.2.2.2.2.2.2.1.2.1.1, h.2.2.2.2.2.2.2.1.2.1.2⟩
theorem Inv.fix {n x : Nat} {M : Mem} (h : Inv n x M) : Fix x M := by obtain ⟨w, p, h, b, ⟨rt, c⟩, _⟩ := h; exact c.1
theorem thrown_eq {M : Mem} {m : Nat} (h : mK M m = 6) : f_X5_thrown m M = some (mI M 161 m, M) := by simp only [f_X5_thrown, gI, if_pos h, Option.bind_some]
theorem sL_ok {x : Nat} {M : Mem} (h : Fix x M) {v : Int64} : sL (x + 68) 0 v M = some (wL M (x + 68) (u1 (mL M (x + 68)) 0 v)) := by
  rw [sL_w, if_pos ⟨h.2.2.2.2.2.2.2.2.1, by rw [h.2.2.2.2.2.2.2.2.2]; decide⟩]; rfl
theorem gL_ok {x : Nat} {M : Mem} (h : Fix x M) : gL (x + 68) 0 M = some (mL M (x + 68) 0) := by
  unfold gL; rw [if_pos ⟨h.2.2.2.2.2.2.2.2.1, by rw [h.2.2.2.2.2.2.2.2.2]; decide⟩]; rfl
theorem lg_cmp0 (v : Int64) : lg_cmp v v = 0 := (lg_cmp_eq v v).mpr rfl
section LW
variable {n x : Nat} {M : Mem}
/-- a read that answers an int, or throws -/
theorem lw_int {H : Nat → Mem → Option (Int32 × Mem)} {F : Option ((Int32 ⊕ Nat) × Mem)} {G : Mem → Option (Int32 × Mem)} (hI : Inv n x M) {E : Nat} {kx : Int32} (hk0 : kx ≠ 0) (hH : ∀ M, H E M = some (kx, M))
    (h : (∃ v M1, F = some (.inl v, M1) ∧ CSim x M M1 ∧ ∀ M2, Fix x M2 → ∃ g', G (wA M2 (x + 62) (mA M (x + 62))) = some (v, wA (wI M2 161 (x + 60) 0) (x + 62) g') ∧ ∀ q, q < 1330 → g' q = mA M (x + 62) q) ∨
      (∃ M1, F = some (.inr E, M1) ∧ CSim x M M1 ∧ ∀ M2, Fix x M2 → ∃ v g', G (wA M2 (x + 62) (mA M (x + 62))) = some (v, wA (wI M2 161 (x + 60) kx) (x + 62) g') ∧ ∀ q, q < 1330 → g' q = mA M (x + 62) q)) :
    ∃ kv M1, (bx (cK 5 x M F) H fun v1 M2 => (sL (x + 68) 0 v1.toInt64 M2).bind fun M3 => some (0, M3)) = some (kv, M1) ∧ ∀ z, wfz (setZ M1 z) → ∃ M2, (bn (cK 6 (x + 60) (setZ M1 z) (G (setZ M1 z))) fun v4 M3 => bn (cK 6 (x + 60) M3 (f_X5_thrown (x + 60) M3)) fun v6 M5 => (if v6 = kv then (if kv = 0 then (gL (x + 68) 0 M5).bind fun v7 => (if (lg_cmp v7 v4.toInt64) = 0 then some M5 else none) else some M5) else none)) = some M2 ∧ Inv (n + 1) x M2 := by
  have fx := hI.fix
  rcases h with ⟨v, M1, h1, h2, h3⟩ | ⟨M1, h1, h2, h3⟩
  · have f1 := fx.sim h2.sim
    refine ⟨0, wL M1 (x + 68) (u1 (mL M1 (x + 68)) 0 v.toInt64), ?_, fun z _ => ?_⟩
    · rw [cK_ok fx.1.1, h1]
      show ((sL (x + 68) 0 v.toInt64 M1).bind fun M3 => some ((0 : Int32), M3)) = _
      rw [sL_ok f1]; rfl
    · have f2 : Fix x (setZ (wL M1 (x + 68) (u1 (mL M1 (x + 68)) 0 v.toInt64)) z) := f1
      obtain ⟨g', e1, e2⟩ := h3 _ f2
      have en : mA (setZ (wL M1 (x + 68) (u1 (mL M1 (x + 68)) 0 v.toInt64)) z) (x + 62) = mA M (x + 62) := h2.now
      rw [← en, wA_id] at e1
      rw [← en] at e2
      have s3 := Sim.told (v := 0) e2
      have f3 : Fix x (wA (wI (setZ (wL M1 (x + 68) (u1 (mL M1 (x + 68)) 0 v.toInt64)) z) 161 (x + 60) 0) (x + 62) g') := f2.sim s3
      refine ⟨_, ?_, ((hI.sim h2.sim).sim (Sim.wL.trans s3)).mono (by omega)⟩
      rw [cK_ok f2.rn.1, e1, bn_some, cK_ok f3.rn.1, thrown_eq f3.rn.1, bn_some]
      have e161 : mI (wA (wI (setZ (wL M1 (x + 68) (u1 (mL M1 (x + 68)) 0 v.toInt64)) z) 161 (x + 60) 0) (x + 62) g') 161 (x + 60) = 0 := by
        show mI (wI _ 161 (x + 60) 0) 161 (x + 60) = 0
        rw [mI_wI, if_pos ⟨rfl, rfl⟩]
      rw [if_pos e161, if_pos rfl, gL_ok f3, Option.bind_some]
      have eL : mL (wA (wI (setZ (wL M1 (x + 68) (u1 (mL M1 (x + 68)) 0 v.toInt64)) z) 161 (x + 60) 0) (x + 62) g') (x + 68) 0 = v.toInt64 := by
        show mL (wL M1 (x + 68) (u1 (mL M1 (x + 68)) 0 v.toInt64)) (x + 68) 0 = _
        rw [wL_self, u1_self]
      rw [if_pos (by rw [eL]; exact lg_cmp0 _)]
  · refine ⟨kx, M1, ?_, fun z _ => ?_⟩
    · rw [cK_ok fx.1.1, h1]; exact hH M1
    · have f1 := fx.sim h2.sim
      have f2 : Fix x (setZ M1 z) := f1
      obtain ⟨v, g', e1, e2⟩ := h3 _ f2
      have en : mA (setZ M1 z) (x + 62) = mA M (x + 62) := h2.now
      rw [← en, wA_id] at e1
      rw [← en] at e2
      have s3 := Sim.told (v := kx) e2
      have f3 : Fix x (wA (wI (setZ M1 z) 161 (x + 60) kx) (x + 62) g') := f2.sim s3
      refine ⟨_, ?_, ((hI.sim h2.sim).sim (Sim.setZ.trans s3)).mono (by omega)⟩
      rw [cK_ok f2.rn.1, e1, bn_some, cK_ok f3.rn.1, thrown_eq f3.rn.1, bn_some]
      have e161 : mI (wA (wI (setZ M1 z) 161 (x + 60) kx) (x + 62) g') 161 (x + 60) = kx := by
        show mI (wI _ 161 (x + 60) kx) 161 (x + 60) = kx
        rw [mI_wI, if_pos ⟨rfl, rfl⟩]
      rw [if_pos e161, if_neg hk0]
/-- a read that answers yes or no, or throws -/
theorem lw_bool {F : Option ((Int32 ⊕ Nat) × Mem)} {G : Mem → Option (Int32 × Mem)} (hI : Inv n x M)
    (h : (∃ v M1, (v = 0 ∨ v = 1) ∧ F = some (.inl v, M1) ∧ CSim x M M1 ∧ ∀ M2, Fix x M2 → ∃ g', G (wA M2 (x + 62) (mA M (x + 62))) = some (v, wA (wI M2 161 (x + 60) 0) (x + 62) g') ∧ ∀ q, q < 1330 → g' q = mA M (x + 62) q) ∨
      (∃ M1, F = some (.inr 0, M1) ∧ CSim x M M1 ∧ ∀ M2, Fix x M2 → ∃ v g', G (wA M2 (x + 62) (mA M (x + 62))) = some (v, wA (wI M2 161 (x + 60) 1) (x + 62) g') ∧ ∀ q, q < 1330 → g' q = mA M (x + 62) q)) :
    ∃ kv M1, (bx (cK 5 x M F) (hnd1 0) fun v1 M2 => (if v1 = 0 then (sL (x + 68) 0 0 M2).bind fun M3 => some (0, M3) else (sL (x + 68) 0 1 M2).bind fun M4 => some (0, M4))) = some (kv, M1) ∧ ∀ z, wfz (setZ M1 z) → ∃ M2, (bn (cK 6 (x + 60) (setZ M1 z) (G (setZ M1 z))) fun v4 M3 => bn (cK 6 (x + 60) M3 (f_X5_thrown (x + 60) M3)) fun v6 M5 => (if v6 = kv then (if kv = 0 then (gL (x + 68) 0 M5).bind fun v7 => (if v4 = 0 then (if (lg_cmp v7 0) = 0 then some M5 else none) else (if (lg_cmp v7 1) = 0 then some M5 else none)) else some M5) else none)) = some M2 ∧ Inv (n + 1) x M2 := by
  have fx := hI.fix
  rcases h with ⟨v, M1, hv, h1, h2, h3⟩ | ⟨M1, h1, h2, h3⟩
  · have f1 := fx.sim h2.sim
    obtain ⟨u, hu⟩ : ∃ u : Int64, u = if v = 0 then 0 else 1 := ⟨_, rfl⟩
    refine ⟨0, wL M1 (x + 68) (u1 (mL M1 (x + 68)) 0 u), ?_, fun z _ => ?_⟩
    · rw [cK_ok fx.1.1, h1]
      show (if v = 0 then (sL (x + 68) 0 0 M1).bind fun M3 => some ((0 : Int32), M3) else (sL (x + 68) 0 1 M1).bind fun M4 => some (0, M4)) = _
      rw [sL_ok f1, sL_ok f1]
      by_cases c : v = 0
      · rw [if_pos c, hu, if_pos c]; rfl
      · rw [if_neg c, hu, if_neg c]; rfl
    · have f2 : Fix x (setZ (wL M1 (x + 68) (u1 (mL M1 (x + 68)) 0 u)) z) := f1
      obtain ⟨g', e1, e2⟩ := h3 _ f2
      have en : mA (setZ (wL M1 (x + 68) (u1 (mL M1 (x + 68)) 0 u)) z) (x + 62) = mA M (x + 62) := h2.now
      rw [← en, wA_id] at e1
      rw [← en] at e2
      have s3 := Sim.told (v := 0) e2
      have f3 : Fix x (wA (wI (setZ (wL M1 (x + 68) (u1 (mL M1 (x + 68)) 0 u)) z) 161 (x + 60) 0) (x + 62) g') := f2.sim s3
      refine ⟨_, ?_, ((hI.sim h2.sim).sim (Sim.wL.trans s3)).mono (by omega)⟩
      rw [cK_ok f2.rn.1, e1, bn_some, cK_ok f3.rn.1, thrown_eq f3.rn.1, bn_some]
      have e161 : mI (wA (wI (setZ (wL M1 (x + 68) (u1 (mL M1 (x + 68)) 0 u)) z) 161 (x + 60) 0) (x + 62) g') 161 (x + 60) = 0 := by
        show mI (wI _ 161 (x + 60) 0) 161 (x + 60) = 0
        rw [mI_wI, if_pos ⟨rfl, rfl⟩]
      rw [if_pos e161, if_pos rfl, gL_ok f3, Option.bind_some]
      have eL : mL (wA (wI (setZ (wL M1 (x + 68) (u1 (mL M1 (x + 68)) 0 u)) z) 161 (x + 60) 0) (x + 62) g') (x + 68) 0 = u := by
        show mL (wL M1 (x + 68) (u1 (mL M1 (x + 68)) 0 u)) (x + 68) 0 = _
        rw [wL_self, u1_self]
      rw [eL, hu]
      by_cases c : v = 0
      · rw [if_pos c, if_pos c, if_pos (lg_cmp0 _)]
      · rw [if_neg c, if_neg c, if_pos (lg_cmp0 _)]
  · refine ⟨1, M1, ?_, fun z _ => ?_⟩
    · rw [cK_ok fx.1.1, h1]; rfl
    · have f1 := fx.sim h2.sim
      have f2 : Fix x (setZ M1 z) := f1
      obtain ⟨v, g', e1, e2⟩ := h3 _ f2
      have en : mA (setZ M1 z) (x + 62) = mA M (x + 62) := h2.now
      rw [← en, wA_id] at e1
      rw [← en] at e2
      have s3 := Sim.told (v := 1) e2
      have f3 : Fix x (wA (wI (setZ M1 z) 161 (x + 60) 1) (x + 62) g') := f2.sim s3
      refine ⟨_, ?_, ((hI.sim h2.sim).sim (Sim.setZ.trans s3)).mono (by omega)⟩
      rw [cK_ok f2.rn.1, e1, bn_some, cK_ok f3.rn.1, thrown_eq f3.rn.1, bn_some]
      have e161 : mI (wA (wI (setZ M1 z) 161 (x + 60) 1) (x + 62) g') 161 (x + 60) = 1 := by
        show mI (wI _ 161 (x + 60) 1) 161 (x + 60) = 1
        rw [mI_wI, if_pos ⟨rfl, rfl⟩]
      rw [if_pos e161, if_neg (by decide)]
/-- a read that always answers an int -/
theorem lw_plain {F : Option (Int32 × Mem)} {G : Mem → Option (Int32 × Mem)} (hI : Inv n x M)
    (h : ∃ v M1, F = some (v, M1) ∧ CSim x M M1 ∧ ∀ M2, Fix x M2 → ∃ g', G (wA M2 (x + 62) (mA M (x + 62))) = some (v, wA (wI M2 161 (x + 60) 0) (x + 62) g') ∧ ∀ q, q < 1330 → g' q = mA M (x + 62) q) :
    ∃ M2, (bn (cK 5 x M F) fun v2 M1 => bn (cK 6 (x + 60) M1 (G M1)) fun v4 M3 => (if v2 = v4 then some M3 else none)) = some M2 ∧ Inv (n + 1) x M2 := by
  have fx := hI.fix
  obtain ⟨v, M1, h1, h2, h3⟩ := h
  have f1 := fx.sim h2.sim
  obtain ⟨g', e1, e2⟩ := h3 _ f1
  rw [← h2.now, wA_id] at e1
  rw [← h2.now] at e2
  have s3 := Sim.told (v := 0) e2
  refine ⟨_, ?_, ((hI.sim h2.sim).sim s3).mono (by omega)⟩
  rw [cK_ok fx.1.1, h1, bn_some, cK_ok f1.rn.1, e1, bn_some, if_pos rfl]
end LW
