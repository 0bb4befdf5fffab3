/-! THE BEGINNING: the class's object and the reference's, made -/
def Fo (P : Nat → Prop) (M M' : Mem) : Prop := mZ M ≤ mZ M' ∧ ∀ a, a < mZ M → (mK M' a = mK M a ∧ mN M' a = mN M a) ∧ (¬ P a → (∀ f, mR M' f a = mR M f a) ∧ (∀ f, mI M' f a = mI M f a) ∧ mA M' a = mA M a ∧ mB M' a = mB M a ∧ mL M' a = mL M a)
theorem Fo.fr {P : Nat → Prop} {M M' : Mem} (h : Fr P M M') : Fo P M M' := ⟨h.1, fun a ha => ⟨⟨(h.2 a ha).1.1, (h.2 a ha).1.2.1⟩, fun hn => ⟨(h.2 a ha).1.2.2, (h.2 a ha).2 hn⟩⟩⟩
theorem Fo.mono {P Q : Nat → Prop} {M M' : Mem} (h : Fo P M M') (hq : ∀ a, P a → Q a) : Fo Q M M' := ⟨h.1, fun a ha => ⟨(h.2 a ha).1, fun hn => (h.2 a ha).2 (fun e => hn (hq a e))⟩⟩
theorem Fo.tr {P : Nat → Prop} {M M' M2 : Mem} (h : Fo P M M') (k : Fo P M' M2) : Fo P M M2 := by
  refine ⟨Nat.le_trans h.1 k.1, fun a ha => ?_⟩
  obtain ⟨a1, a2⟩ := h.2 a ha
  obtain ⟨b1, b2⟩ := k.2 a (Nat.lt_of_lt_of_le ha h.1)
  refine ⟨⟨b1.1.trans a1.1, b1.2.trans a1.2⟩, fun hn => ?_⟩
  obtain ⟨c1, c2, c3, c4, c5⟩ := a2 hn
  obtain ⟨d1, d2, d3, d4, d5⟩ := b2 hn
  exact ⟨fun f => (d1 f).trans (c1 f), fun f => (d2 f).trans (c2 f), d3.trans c3, d4.trans c4, d5.trans c5⟩
theorem Fo.wR {P : Nat → Prop} {M : Mem} {f b : Nat} {v : Option Nat} (h : P b) : Fo P M (wR M f b v) := ⟨Nat.le_refl _, fun a _ => ⟨⟨rfl, rfl⟩, fun hn => ⟨fun g => by rw [mR_wR, if_neg (fun e => hn (by rw [e.2]; exact h))], fun _ => rfl, rfl, rfl, rfl⟩⟩⟩
theorem Fo.wI {P : Nat → Prop} {M : Mem} {f b : Nat} {v : Int32} (h : P b) : Fo P M (wI M f b v) := Fo.fr (Fr.wI h)
theorem Fo.wA {P : Nat → Prop} {M : Mem} {b : Nat} {v : GF} (h : P b) : Fo P M (wA M b v) := Fo.fr (Fr.wA h)
theorem Fo.newO {P : Nat → Prop} {M : Mem} {k : Nat} : Fo P M (Jvm.Pilot.COfflineNotesLaw_law_r8908_f384f3.newO k M) := by
  refine ⟨Nat.le_succ _, fun a ha => ⟨⟨?_, rfl⟩, fun _ => ⟨fun f => ?_, fun f => ?_, rfl, rfl, rfl⟩⟩⟩
  · show va_up (mK M) (mZ M) k a = _
    unfold va_up; rw [if_neg (by omega)]
  · show (if a = mZ M then none else mR M f a) = _
    rw [if_neg (by omega)]
  · show (if a = mZ M then 0 else mI M f a) = _
    rw [if_neg (by omega)]
theorem Fo.newA {P : Nat → Prop} {M : Mem} {k n : Nat} : Fo P M (Jvm.Pilot.COfflineNotesLaw_law_r8908_f384f3.newA k n M) := by
  refine ⟨Nat.le_succ _, fun a ha => ⟨⟨?_, ?_⟩, fun _ => ⟨fun f => rfl, fun f => rfl, ?_, ?_, ?_⟩⟩⟩
  · show va_up (mK M) (mZ M) k a = _
    unfold va_up; rw [if_neg (by omega)]
  · show va_up (mN M) (mZ M) n a = _
    unfold va_up; rw [if_neg (by omega)]
  · show va_up (mA M) (mZ M) _ a = _
    unfold va_up; rw [if_neg (by omega)]
  · show va_up (mB M) (mZ M) _ a = _
    unfold va_up; rw [if_neg (by omega)]
  · show va_up (mL M) (mZ M) _ a = _
    unfold va_up; rw [if_neg (by omega)]
theorem foR {M : Mem} {f b : Nat} {v : Option Nat} : Fo (fun a => a = b) M (wR M f b v) := Fo.wR rfl
theorem foI {M : Mem} {f b : Nat} {v : Int32} : Fo (fun a => a = b) M (wI M f b v) := Fo.wI rfl
theorem newO_K {k : Nat} {M : Mem} : mK (newO k M) (mZ M) = k := by show va_up (mK M) (mZ M) k (mZ M) = k; unfold va_up; rw [if_pos rfl]
theorem newO_I {k f : Nat} {M : Mem} : mI (newO k M) f (mZ M) = 0 := if_pos rfl
theorem newA_K {k n : Nat} {M : Mem} : mK (newA k n M) (mZ M) = k ∧ mN (newA k n M) (mZ M) = n ∧ mA (newA k n M) (mZ M) = (fun _ => 0) ∧ mB (newA k n M) (mZ M) = (fun _ => none) ∧ mL (newA k n M) (mZ M) = (fun _ => 0) := by
  refine ⟨?_, ?_, ?_, ?_, ?_⟩
  · show va_up (mK M) (mZ M) k (mZ M) = k; unfold va_up; rw [if_pos rfl]
  · show va_up (mN M) (mZ M) n (mZ M) = n; unfold va_up; rw [if_pos rfl]
  · show va_up (mA M) (mZ M) _ (mZ M) = _; unfold va_up; rw [if_pos rfl]
  · show va_up (mB M) (mZ M) _ (mZ M) = _; unfold va_up; rw [if_pos rfl]
  · show va_up (mL M) (mZ M) _ (mZ M) = _; unfold va_up; rw [if_pos rfl]
theorem St.fo {P : Nat → Prop} {M M' : Mem} {s c : Nat} (h : St M s c) (f : Fo P M M') (hs : s < mZ M ∧ ¬ P s) (hc : c < mZ M) : St M' s c := h.same (f.2 s hs.1).1.1 ((f.2 s hs.1).2 hs.2).1 (f.2 c hc).1.1 (f.2 c hc).1.2
theorem WS.fo {P : Nat → Prop} {M M' : Mem} {w : Nat} {p : Nat → Nat} (h : WS M w p) (f : Fo P M M') (hz : w + 24 ≤ mZ M) (hP : ∀ i, i < 24 → ¬ P (w + i)) : WS M' w p := h.same (fun i hi => ⟨(f.2 _ (by omega)).1.1, (f.2 _ (by omega)).1.2, ((f.2 _ (by omega)).2 (hP i hi)).1⟩) ⟨((f.2 _ (by omega)).2 (hP 1 (by omega))).2.2.2.1, ((f.2 _ (by omega)).2 (hP 2 (by omega))).2.2.2.1⟩
theorem RelP.fo {P : Nat → Prop} {M M' : Mem} {w : Nat} {p : Nat → Nat} {g : GF} (h : RelP M w p g) (f : Fo P M M') (hz : w + 24 ≤ mZ M) (hP : ∀ i, i < 24 → ¬ P (w + i)) : RelP M' w p g := h.same (fun i hi => ⟨(f.2 _ (by omega)).1.1, (f.2 _ (by omega)).1.2, ((f.2 _ (by omega)).2 (hP i hi)).1⟩) (fun i hi => ⟨((f.2 _ (by omega)).2 (hP i hi)).2.1, ((f.2 _ (by omega)).2 (hP i hi)).2.2.1, ((f.2 _ (by omega)).2 (hP i hi)).2.2.2.1⟩)
theorem Hs.fo {P : Nat → Prop} {M M' : Mem} {a b : Nat} (h : Hs M a b) (f : Fo P M M') (ha : a < mZ M ∧ ¬ P a) (hb : b < mZ M) : Hs M' a b := by
  obtain ⟨h1, h2, h3, h4⟩ := h
  exact ⟨(f.2 a ha.1).1.1.trans h1, (((f.2 a ha.1).2 ha.2).1 _).trans h2, (f.2 b hb).1.1.trans h3, (f.2 b hb).1.2.trans h4⟩
theorem bnew_eq {γ : Type} {k : Nat} {M : Mem} {g : Nat → Mem → Option γ} : bnew k M g = g (mZ M) (newO k M) := rfl
theorem bnewa_eq {γ : Type} {k n : Nat} {M : Mem} {g : Nat → Mem → Option γ} : bnewa k n M g = g (mZ M) (newA k n M) := rfl
theorem sR_ok {M : Mem} {k f a : Nat} {v : Option Nat} (h : mK M a = k) : sR k f a v M = some (wR M f a v) := by rw [sR_w, if_pos h]
theorem sI_ok {M : Mem} {k f a : Nat} {v : Int32} (h : mK M a = k) : sI k f a v M = some (wI M f a v) := by rw [sI_w, if_pos h]
section IN
variable {M : Mem} {x : Nat}
/-- stage 1: two rows of letters -/
theorem in_1 (hx : x = mZ M) {γ : Type} {K : Mem → Option γ} : ∃ A, (bnewa 8 600 (newO 5 M) fun v1 M2 => (sR 5 128 x (some v1) M2).bind fun M3 => (sI 5 129 x 0 M3).bind fun M4 => (sI 5 130 x 0 M4).bind fun M5 => (sI 5 131 x (-1) M5).bind fun M6 => bnewa 8 32 M6 fun v7 M8 => (sR 5 132 x (some v7) M8).bind fun M9 => (sI 5 133 x 0 M9).bind fun M10 => K M10) = K A ∧ Fo (fun _ => False) M A ∧ mZ A = x + 3 ∧ mK A x = 5 ∧ (mR A 128 x = some (x + 1) ∧ mR A 132 x = some (x + 2)) ∧ (mI A 129 x = 0 ∧ mI A 130 x = 0 ∧ mI A 131 x = -1 ∧ mI A 133 x = 0) ∧ (mK A (x + 1) = 8 ∧ mN A (x + 1) = 600 ∧ mK A (x + 2) = 8 ∧ mN A (x + 2) = 32) := by
  have k0 : mK (newO 5 M) x = 5 := by rw [hx]; exact newO_K
  let B1 := newA 8 600 (newO 5 M)
  have z1 : mZ (newO 5 M) = x + 1 := by rw [hx]; rfl
  have f1 : Fo (fun _ => False) (newO 5 M) B1 := Fo.newA
  have k1 : mK B1 x = 5 := (f1.2 x (by omega)).1.1.trans k0
  let B5 := wI (wI (wI (wR B1 128 x (some (x + 1))) 129 x 0) 130 x 0) 131 x (-1)
  let B6 := newA 8 32 B5
  have z5 : mZ B5 = x + 2 := by show mZ (newO 5 M) + 1 = _; rw [z1]
  have f6 : Fo (fun _ => False) B5 B6 := Fo.newA
  have k6 : mK B6 x = 5 := (f6.2 x (by omega)).1.1.trans k1
  have a1 := newA_K (k := 8) (n := 600) (M := newO 5 M)
  rw [z1] at a1
  have a2 := newA_K (k := 8) (n := 32) (M := B5)
  rw [z5] at a2
  let A := wI (wR B6 132 x (some (x + 2))) 133 x 0
  have eI : ∀ f, mI A f x = if f = 133 then 0 else if f = 131 then -1 else if f = 130 then 0 else if f = 129 then 0 else mI (newO 5 M) f x := fun f => by
    show mI (wI B6 133 x 0) f x = _
    rw [mI_wI, show mI B6 f x = mI B5 f x from ((f6.2 x (by omega)).2 id).2.1 f]
    show _ = _
    simp only [and_true, mI_wI, B5]
    rfl
  have eR : ∀ f, mR A f x = if f = 132 then some (x + 2) else if f = 128 then some (x + 1) else mR (newO 5 M) f x := fun f => by
    show mR (wR B6 132 x (some (x + 2))) f x = _
    rw [mR_wR, show mR B6 f x = mR B5 f x from ((f6.2 x (by omega)).2 id).1 f]
    show (if f = 132 ∧ x = x then _ else mR (wR B1 128 x (some (x + 1))) f x) = _
    simp only [and_true, mR_wR]
    rfl
  refine ⟨A, ?_, ?_, by show mZ B5 + 1 = _; rw [z5], k6, ⟨by rw [eR]; rfl, by rw [eR]; rfl⟩, ⟨by rw [eI]; rfl, by rw [eI]; rfl, by rw [eI]; rfl, by rw [eI]; rfl⟩, ?_, ?_, a2.1, a2.2.1⟩
  · rw [bnewa_eq, z1, sR_ok k1, Option.bind_some, sI_ok (show mK (wR B1 128 x (some (x + 1))) x = 5 from k1), Option.bind_some, sI_ok (show mK (wI (wR B1 128 x (some (x + 1))) 129 x 0) x = 5 from k1), Option.bind_some, sI_ok (show mK (wI (wI (wR B1 128 x (some (x + 1))) 129 x 0) 130 x 0) x = 5 from k1), Option.bind_some, bnewa_eq]
    show ((sR 5 132 x (some (mZ B5)) B6).bind fun M9 => (sI 5 133 x 0 M9).bind fun M10 => K M10) = _
    rw [z5, sR_ok k6, Option.bind_some, sI_ok (show mK (wR B6 132 x (some (x + 2))) x = 5 from k6), Option.bind_some]
  · have g1 : Fo (fun a => a = x) M A := ((Fo.newO.tr Fo.newA).tr ((foR.tr foI).tr (foI.tr foI))).tr (Fo.newA.tr (foR.tr foI))
    exact ⟨g1.1, fun a ha => ⟨(g1.2 a ha).1, fun _ => (g1.2 a ha).2 (by omega)⟩⟩
  · exact ((f6.2 (x + 1) (by omega)).1.1).trans a1.1
  · exact ((f6.2 (x + 1) (by omega)).1.2).trans a1.2.1
/-- the class's object made -/
def CI (x : Nat) (M : Mem) : Prop := (mK M x = 5 ∧ mR M 128 x = some (x + 1) ∧ mR M 132 x = some (x + 2) ∧ mR M 136 x = some (x + 27) ∧ mR M 137 x = some (x + 29) ∧ mR M 138 x = some (x + 30) ∧ mR M 139 x = some (x + 32)) ∧
  (mK M (x + 1) = 8 ∧ mN M (x + 1) = 600 ∧ mK M (x + 2) = 8 ∧ mN M (x + 2) = 32) ∧ Hs M (x + 27) (x + 28) ∧ (mK M (x + 29) = 11 ∧ mN M (x + 29) = 2) ∧ St M (x + 30) (x + 31) ∧ St M (x + 32) (x + 33) ∧
  (mR M 134 x = some (x + 34) ∧ mR M 135 x = some (x + 3) ∧ mB M (x + 28) = (fun _ => none) ∧ mB M (x + 29) = (fun _ => none)) ∧ WS M (x + 3) id ∧ RelP M (x + 34) id gS11 ∧ (mI M 1 (x + 27) = 0 ∧ mI M 2 (x + 27) = 0) ∧ (mI M 129 x = 0 ∧ mI M 130 x = 0 ∧ mI M 131 x = -1 ∧ mI M 133 x = 0)
theorem fo0 {P : Nat → Prop} {M0 M1 : Mem} (h : Fo (fun _ => False) M0 M1) : Fo P M0 M1 := h.mono (fun _ h => h.elim)
theorem fo_lo {P : Nat → Prop} {M0 M1 : Mem} {n : Nat} (h : Fo P M0 M1) (hz : mZ M0 ≤ n) (hn : ∀ a, a < n → P a → a = x) : Fo (fun a => a = x) M0 M1 := ⟨h.1, fun a ha => ⟨(h.2 a ha).1, fun hx => (h.2 a ha).2 (fun e => hx (hn a (by omega) e))⟩⟩
theorem in_2 {A : Mem} (zA : mZ A = x + 3) (kA : mK A x = 5) {γ : Type} {K : Mem → Option γ} : ∃ C, (bnew 4 A fun v11 M12 => (f_X3_init v11 M12).bind fun M14 => (sR 5 135 x (some v11) M14).bind fun M15 => bnew 1 M15 fun v16 M17 => (f_X0_init v16 M17).bind fun M19 => (sR 5 136 x (some v16) M19).bind fun M20 => K M20) = K C ∧ Fo (fun a => a = x) A C ∧ mZ C = x + 29 ∧ WS C (x + 3) id ∧ Hs C (x + 27) (x + 28) ∧ mB C (x + 28) = (fun _ => none) ∧ (mI C 1 (x + 27) = 0 ∧ mI C 2 (x + 27) = 0) ∧ (∀ f, mR C f x = if f = 136 then some (x + 27) else if f = 135 then some (x + 3) else mR A f x) ∧ ∀ f, mI C f x = mI A f x := by
  obtain ⟨B, sB, fB0, wB0, zB⟩ := X3_init (M := A) (w := x + 3) zA.symm
  have fB : Fo (fun _ => False) A B := Fo.fr fB0
  have kB : mK B x = 5 := (fB.2 x (by omega)).1.1.trans kA
  obtain ⟨C0, eC0⟩ : ∃ C, C = wR B 135 x (some (x + 3)) := ⟨_, rfl⟩
  have zC0 : mZ C0 = x + 27 := by rw [eC0]; show mZ B = _; rw [zB]
  obtain ⟨C1, eC1⟩ : ∃ C, C = newO 1 C0 := ⟨_, rfl⟩
  have kC1 : mK C1 (x + 27) = 1 := by have := newO_K (k := 1) (M := C0); rwa [zC0, ← eC1] at this
  have zC1 : mZ C1 = x + 28 := by rw [eC1]; show mZ C0 + 1 = _; rw [zC0]
  obtain ⟨C2, eC2⟩ : ∃ C, C = newA 11 10 C1 := ⟨_, rfl⟩
  have aC2 := newA_K (k := 11) (n := 10) (M := C1)
  rw [zC1, ← eC2] at aC2
  have f2 : Fo (fun _ => False) C1 C2 := by rw [eC2]; exact Fo.newA
  have kC2 : mK C2 (x + 27) = 1 := (f2.2 (x + 27) (by omega)).1.1.trans kC1
  have zC2 : mZ C2 = x + 29 := by rw [eC2]; show mZ C1 + 1 = _; rw [zC1]
  obtain ⟨C3, eC3⟩ : ∃ C, C = wI (wI (wR C2 0 (x + 27) (some (x + 28))) 1 (x + 27) 0) 2 (x + 27) 0 := ⟨_, rfl⟩
  have zC3 : mZ C3 = x + 29 := by rw [eC3]; exact zC2
  have sC : f_X0_init (x + 27) C1 = some C3 := by
    unfold f_X0_init
    rw [bnewa_eq, zC1, ← eC2, sR_ok kC2, Option.bind_some, sI_ok (show mK (wR C2 0 (x + 27) (some (x + 28))) (x + 27) = 1 from kC2), Option.bind_some, sI_ok (show mK (wI (wR C2 0 (x + 27) (some (x + 28))) 1 (x + 27) 0) (x + 27) = 1 from kC2), Option.bind_some, ← eC3]
  have f3 : Fo (fun a => a = x + 27) C2 C3 := by rw [eC3]; exact (foR.tr foI).tr foI
  have f1 : Fo (fun _ => False) C0 C1 := by rw [eC1]; exact Fo.newO
  have fC : Fo (fun a => a = x + 27) C0 C3 := ((fo0 f1).tr (fo0 f2)).tr f3
  have f0 : Fo (fun a => a = x) B C0 := by rw [eC0]; exact foR
  have kC0 : mK C0 x = 5 := by rw [eC0]; exact kB
  have kC3 : mK C3 x = 5 := (fC.2 x (by omega)).1.1.trans kC0
  have hsC : Hs C3 (x + 27) (x + 28) := by
    rw [eC3]
    exact ⟨kC2, by show mR (wR C2 0 (x + 27) (some (x + 28))) 0 (x + 27) = _; rw [mR_wR, if_pos ⟨rfl, rfl⟩], aC2.1, aC2.2.1⟩
  have f4 : Fo (fun a => a = x) C3 (wR C3 136 x (some (x + 27))) := foR
  have fBC : Fo (fun a => a = x) B (wR C3 136 x (some (x + 27))) := fo_lo (n := x + 27) (P := fun a => a = x ∨ a = x + 27) (((f0.mono (fun a h => Or.inl h)).tr (fC.mono (fun a h => Or.inr h))).tr (f4.mono (fun a h => Or.inl h))) (by omega) (fun a h e => by omega)
  refine ⟨wR C3 136 x (some (x + 27)), ?_, (fo0 fB).tr fBC, zC3, wB0.fo fBC (by omega) (fun i hi => by omega), hsC.fo f4 ⟨by omega, by omega⟩ (by omega), ?_, ⟨?_, ?_⟩, fun f => ?_, fun f => ?_⟩
  · rw [bnew_eq, zA, sB, Option.bind_some, sR_ok kB, Option.bind_some, ← eC0, bnew_eq, zC0, ← eC1, sC, Option.bind_some, sR_ok kC3, Option.bind_some]
  · show mB C3 (x + 28) = _
    rw [eC3]; exact aC2.2.2.2.1
  · show mI C3 1 (x + 27) = 0
    rw [eC3, mI_wI, if_neg (by omega), mI_wI, if_pos ⟨rfl, rfl⟩]
  · show mI C3 2 (x + 27) = 0
    rw [eC3, mI_wI, if_pos ⟨rfl, rfl⟩]
  · rw [mR_wR, ((fC.2 x (by omega)).2 (by omega)).1 f, eC0, mR_wR, ((fB.2 x (by omega)).2 id).1 f]
    simp only [and_true]
  · show mI C3 f x = _
    rw [((fC.2 x (by omega)).2 (by omega)).2.1 f, eC0]
    exact ((fB.2 x (by omega)).2 id).2.1 f
theorem in_3 {C : Mem} (zC : mZ C = x + 29) (kC : mK C x = 5) {γ : Type} {K : Mem → Option γ} : ∃ G, (bnewa 11 2 C fun v21 M22 => (sR 5 137 x (some v21) M22).bind fun M23 => bnew 3 M23 fun v24 M25 => (f_X2_init v24 M25).bind fun M27 => (sR 5 138 x (some v24) M27).bind fun M28 => bnew 3 M28 fun v29 M30 => (f_X2_init v29 M30).bind fun M32 => (sR 5 139 x (some v29) M32).bind fun M33 => K M33) = K G ∧ Fo (fun a => a = x) C G ∧ mZ G = x + 34 ∧ (mK G (x + 29) = 11 ∧ mN G (x + 29) = 2 ∧ mB G (x + 29) = (fun _ => none)) ∧ St G (x + 30) (x + 31) ∧ St G (x + 32) (x + 33) ∧ (∀ f, mR G f x = if f = 139 then some (x + 32) else if f = 138 then some (x + 30) else if f = 137 then some (x + 29) else mR C f x) ∧ ∀ f, mI G f x = mI C f x := by
  obtain ⟨D1, eD1⟩ : ∃ D, D = newA 11 2 C := ⟨_, rfl⟩
  have aD := newA_K (k := 11) (n := 2) (M := C)
  rw [zC, ← eD1] at aD
  have fD1 : Fo (fun _ => False) C D1 := by rw [eD1]; exact Fo.newA
  have kD1 : mK D1 x = 5 := (fD1.2 x (by omega)).1.1.trans kC
  have zD1 : mZ D1 = x + 30 := by rw [eD1]; show mZ C + 1 = _; rw [zC]
  obtain ⟨D2, eD2⟩ : ∃ D, D = wR D1 137 x (some (x + 29)) := ⟨_, rfl⟩
  have zD2 : mZ D2 = x + 30 := by rw [eD2]; exact zD1
  have kD2 : mK D2 x = 5 := by rw [eD2]; exact kD1
  have f2 : Fo (fun a => a = x) D1 D2 := by rw [eD2]; exact foR
  obtain ⟨E0, eE0⟩ : ∃ D, D = mkS D2 := ⟨_, rfl⟩
  have sE := mkS_St D2
  rw [zD2, ← eE0] at sE
  have fE : Fo (fun _ => False) D2 E0 := by rw [eE0]; exact Fo.fr (mkS_fr D2)
  have zE0 : mZ E0 = x + 32 := by rw [eE0]; show mZ D2 + 1 + 1 = _; rw [zD2]
  have kE : mK E0 x = 5 := (fE.2 x (by omega)).1.1.trans kD2
  obtain ⟨E1, eE1⟩ : ∃ D, D = wR E0 138 x (some (x + 30)) := ⟨_, rfl⟩
  have zE1 : mZ E1 = x + 32 := by rw [eE1]; exact zE0
  have kE1 : mK E1 x = 5 := by rw [eE1]; exact kE
  have f3 : Fo (fun a => a = x) E0 E1 := by rw [eE1]; exact foR
  obtain ⟨G0, eG0⟩ : ∃ D, D = mkS E1 := ⟨_, rfl⟩
  have sG := mkS_St E1
  rw [zE1, ← eG0] at sG
  have fG : Fo (fun _ => False) E1 G0 := by rw [eG0]; exact Fo.fr (mkS_fr E1)
  have zG0 : mZ G0 = x + 34 := by rw [eG0]; show mZ E1 + 1 + 1 = _; rw [zE1]
  have kG : mK G0 x = 5 := (fG.2 x (by omega)).1.1.trans kE1
  have f4 : Fo (fun a => a = x) G0 (wR G0 139 x (some (x + 32))) := foR
  have t3 : Fo (fun a => a = x) E0 (wR G0 139 x (some (x + 32))) := (f3.tr (fo0 fG)).tr f4
  have t1 : Fo (fun a => a = x) D1 (wR G0 139 x (some (x + 32))) := (f2.tr (fo0 fE)).tr t3
  have b29 := t1.2 (x + 29) (by omega)
  refine ⟨wR G0 139 x (some (x + 32)), ?_, (fo0 fD1).tr t1, zG0, ⟨b29.1.1.trans aD.1, b29.1.2.trans aD.2.1, (b29.2 (by omega)).2.2.2.1.trans aD.2.2.2.1⟩, sE.fo t3 ⟨by omega, by omega⟩ (by omega), sG.fo f4 ⟨by omega, by omega⟩ (by omega), fun f => ?_, fun f => ?_⟩
  · rw [bnewa_eq, zC, ← eD1, sR_ok kD1, Option.bind_some, ← eD2]
    rw [X2_new (M := D2) (K := fun v24 M27 => (sR 5 138 x (some v24) M27).bind fun M28 => bnew 3 M28 fun v29 M30 => (f_X2_init v29 M30).bind fun M32 => (sR 5 139 x (some v29) M32).bind fun M33 => K M33)]
    rw [zD2, ← eE0, sR_ok kE, Option.bind_some, ← eE1]
    rw [X2_new (M := E1) (K := fun v29 M32 => (sR 5 139 x (some v29) M32).bind fun M33 => K M33)]
    rw [zE1, ← eG0, sR_ok kG, Option.bind_some]
  · rw [mR_wR, ((fG.2 x (by omega)).2 id).1 f, eE1, mR_wR, ((fE.2 x (by omega)).2 id).1 f, eD2, mR_wR, ((fD1.2 x (by omega)).2 id).1 f]
    simp only [and_true]
  · show mI G0 f x = _
    rw [((fG.2 x (by omega)).2 id).2.1 f, eE1]
    show mI E0 f x = _
    rw [((fE.2 x (by omega)).2 id).2.1 f, eD2]
    show mI D1 f x = _
    exact ((fD1.2 x (by omega)).2 id).2.1 f
theorem in_4 {G : Mem} (zG : mZ G = x + 34) (kG : mK G x = 5) : ∃ Z, (bnew 4 G fun v34 M35 => (f_X3_init v34 M35).bind fun M37 => bnew 2 M37 fun v38 M39 => bn (jTca 0 M39) fun v40 M41 => (jLen 0).bind fun v42 => (f_X1_init v38 v40 v42 v34 M41).bind fun M44 => (cK 2 v38 M44 (f_X1_parse v38 M44)).bind fun M46 => (sR 5 134 x (some v34) M46).bind fun M47 => some M47) = some Z ∧ Fo (fun a => a = x) G Z ∧ mZ Z = x + 60 ∧ RelP Z (x + 34) id gS11 ∧ (∀ f, mR Z f x = if f = 134 then some (x + 34) else mR G f x) ∧ ∀ f, mI Z f x = mI G f x := by
  obtain ⟨Hm, sH, fH0, wH, zH⟩ := X3_init (M := G) (w := x + 34) zG.symm
  have fH : Fo (fun _ => False) G Hm := Fo.fr fH0
  have kH : mK Hm x = 5 := (fH.2 x (by omega)).1.1.trans kG
  obtain ⟨J0, eJ0⟩ : ∃ D, D = newO 2 Hm := ⟨_, rfl⟩
  have zJ0 : mZ J0 = x + 59 := by rw [eJ0]; show mZ Hm + 1 = _; rw [zH]
  have kJ0 : mK J0 (x + 58) = 2 := by have := newO_K (k := 2) (M := Hm); rwa [zH, ← eJ0] at this
  have fJ0 : Fo (fun _ => False) Hm J0 := by rw [eJ0]; exact Fo.newO
  obtain ⟨J1, eJ1⟩ : ∃ D, D = jTcM J0 := ⟨_, rfl⟩
  have fJ1 : Fo (fun _ => False) J0 J1 := by
    rw [eJ1]
    refine ⟨Nat.le_succ _, fun a ha => ⟨⟨?_, ?_⟩, fun _ => ⟨fun f => rfl, fun f => rfl, ?_, ?_, ?_⟩⟩⟩
    · show va_up (mK J0) (mZ J0) 8 a = _
      unfold va_up; rw [if_neg (by omega)]
    · show va_up (mN J0) (mZ J0) 129 a = _
      unfold va_up; rw [if_neg (by omega)]
    · show va_up (mA J0) (mZ J0) _ a = _
      unfold va_up; rw [if_neg (by omega)]
    · show va_up (mB J0) (mZ J0) _ a = _
      unfold va_up; rw [if_neg (by omega)]
    · show va_up (mL J0) (mZ J0) _ a = _
      unfold va_up; rw [if_neg (by omega)]
  have kJ1 : mK J1 (x + 58) = 2 := (fJ1.2 (x + 58) (by omega)).1.1.trans kJ0
  have aJ : mK J1 (x + 59) = 8 ∧ mN J1 (x + 59) = 129 ∧ mA J1 (x + 59) = cS := by
    rw [eJ1]
    refine ⟨?_, ?_, ?_⟩
    · show va_up (mK J0) (mZ J0) 8 (x + 59) = 8; unfold va_up; rw [if_pos zJ0.symm]
    · show va_up (mN J0) (mZ J0) 129 (x + 59) = 129; unfold va_up; rw [if_pos zJ0.symm]
    · show va_up (mA J0) (mZ J0) _ (x + 59) = _; unfold va_up; rw [if_pos zJ0.symm]; rfl
  have zJ1 : mZ J1 = x + 60 := by rw [eJ1]; show mZ J0 + 1 = _; rw [zJ0]
  obtain ⟨P, eP⟩ : ∃ D, D = wR (wI (wR (wI (wI (wI (wI (wI J1 35 (x + 58) 0) 36 (x + 58) 0) 37 (x + 58) 0) 38 (x + 58) 0) 39 (x + 58) (-1)) 32 (x + 58) (some (x + 59))) 33 (x + 58) (nI 129)) 34 (x + 58) (some (x + 34)) := ⟨_, rfl⟩
  have sP : f_X1_init (x + 58) (x + 59) (nI 129) (x + 34) J1 = some P := by
    rw [eP]
    simp only [f_X1_init, sI_w, sR_w, mK_wI, mK_wR, kJ1, if_true, Option.bind_some]
  have fP : Fo (fun a => a = x + 58) J1 P := by rw [eP]; exact (((foI.tr foI).tr (foI.tr foI)).tr ((foI.tr foR).tr (foI.tr foR)))
  have fHP : Fo (fun _ => False) Hm P := by
    have t : Fo (fun a => a = x + 58) Hm P := ((fo0 fJ0).tr (fo0 fJ1)).tr fP
    exact ⟨t.1, fun a ha => ⟨(t.2 a ha).1, fun _ => (t.2 a ha).2 (by omega)⟩⟩
  have zP : mZ P = x + 60 := by rw [eP]; exact zJ1
  have kP : mK P x = 5 := (fHP.2 x (by omega)).1.1.trans kH
  have kP2 : mK P (x + 58) = 2 := by rw [eP]; exact kJ1
  have wP : WS P (x + 34) id := wH.fo fHP (by omega) (fun _ _ h => h)
  obtain ⟨g0, r0⟩ := RelP.some wP
  have eIP : ∀ f, f = 33 ∨ (35 ≤ f ∧ f ≤ 39) → mI P f (x + 58) = if f = 33 then nI 129 else if f = 39 then -1 else 0 := fun f hf => by
    rw [eP]
    show mI (wI (wI (wI (wI (wI (wI J1 35 (x + 58) 0) 36 (x + 58) 0) 37 (x + 58) 0) 38 (x + 58) 0) 39 (x + 58) (-1)) 33 (x + 58) (nI 129)) f (x + 58) = _
    simp only [mI_wI, and_true]
    rcases (show f = 33 ∨ f = 35 ∨ f = 36 ∨ f = 37 ∨ f = 38 ∨ f = 39 by omega) with rfl | rfl | rfl | rfl | rfl | rfl <;> rfl
  have ps : PS P (x + 58) (x + 59) 129 (x + 34) cS 0 0 0 0 (-1) := by
    refine ⟨⟨kP2, ?_, by rw [eIP 33 (by omega)]; rfl, ?_⟩, ⟨by rw [eP]; exact aJ.1, by rw [eP]; show 129 ≤ mN J1 (x + 59); rw [aJ.2.1]; exact Nat.le_refl _, by omega, fun i _ => by rw [eP]; show mA J1 (x + 59) i = _; rw [aJ.2.2]⟩, by rw [eIP 35 (by omega)]; rfl, by rw [eIP 36 (by omega)]; rfl, by rw [eIP 37 (by omega)]; rfl, by rw [eIP 38 (by omega)]; rfl, by rw [eIP 39 (by omega)]; rfl⟩
    · rw [eP, mR_wR, if_neg (by omega), mR_wI, mR_wR, if_pos ⟨rfl, rfl⟩]
    · rw [eP, mR_wR, if_pos ⟨rfl, rfl⟩]
  have cg : CG (x + 58) (x + 59) 129 (x + 34) cS id P g0 cur0 := ⟨⟨0, ps, Nat.zero_le _, Nat.zero_le _⟩, r0, by omega, by omega, by omega, by omega, by omega, by omega⟩
  obtain ⟨Q, y1, y2, y3⟩ := c_parse (z := fun _ => 0) (fun _ _ => rfl) cg
  obtain ⟨qq, _, relQ, _⟩ := y3.2 gS11 text_S
  have fQ : Fo (fun a => inW (x + 34) a ∨ a = x + 58) P Q := Fo.fr y2.1
  have zQ : mZ Q = x + 60 := y2.2.2.2.trans zP
  have kQ : mK Q x = 5 := (fQ.2 x (by omega)).1.1.trans kP
  have f4 : Fo (fun a => a = x) Q (wR Q 134 x (some (x + 34))) := foR
  have nx : ¬ (inW (x + 34) x ∨ x = x + 58) := by unfold inW; omega
  refine ⟨wR Q 134 x (some (x + 34)), ?_, ?_, zQ, relQ.fo f4 (by omega) (fun i hi => by omega), fun f => ?_, fun f => ?_⟩
  · have tj : jTca 0 J0 = some (x + 59, J1) := by unfold jTca; rw [if_pos rfl, zJ0, eJ1]
    have lj : jLen 0 = some (nI 129) := by decide +kernel
    rw [bnew_eq, zG, sH, Option.bind_some, bnew_eq, zH, ← eJ0, tj, bn_some, lj, Option.bind_some, sP, Option.bind_some, cK_ok kP2, y1, Option.bind_some, sR_ok kQ, Option.bind_some]
  · refine fo_lo (n := x + 34) (P := fun a => a = x ∨ (inW (x + 34) a ∨ a = x + 58)) (((fo0 fH).tr (fo0 fHP)).tr ((fQ.mono (fun a h => Or.inr h)).tr (f4.mono (fun a h => Or.inl h)))) (by omega) (fun a h e => e.elim id (fun e => by unfold inW at e; omega))
  · rw [mR_wR, ((fQ.2 x (by omega)).2 nx).1 f, ((fHP.2 x (by omega)).2 id).1 f, ((fH.2 x (by omega)).2 id).1 f]
    simp only [and_true]
  · show mI Q f x = _
    rw [((fQ.2 x (by omega)).2 nx).2.1 f, ((fHP.2 x (by omega)).2 id).2.1 f]
    exact ((fH.2 x (by omega)).2 id).2.1 f
theorem c_init (hx : x = mZ M) : ∃ M', f_X4_init x (newO 5 M) = some M' ∧ Fo (fun _ => False) M M' ∧ mZ M' = x + 60 ∧ CI x M' := by
  obtain ⟨A, sA, fA, zA, kA, ⟨rA1, rA2⟩, ⟨iA1, iA2, iA3, iA4⟩, hA1, hA2, hA3, hA4⟩ := in_1 hx (K := fun M10 => bnew 4 M10 fun v11 M12 => (f_X3_init v11 M12).bind fun M14 => (sR 5 135 x (some v11) M14).bind fun M15 => bnew 1 M15 fun v16 M17 => (f_X0_init v16 M17).bind fun M19 => (sR 5 136 x (some v16) M19).bind fun M20 => bnewa 11 2 M20 fun v21 M22 => (sR 5 137 x (some v21) M22).bind fun M23 => bnew 3 M23 fun v24 M25 => (f_X2_init v24 M25).bind fun M27 => (sR 5 138 x (some v24) M27).bind fun M28 => bnew 3 M28 fun v29 M30 => (f_X2_init v29 M30).bind fun M32 => (sR 5 139 x (some v29) M32).bind fun M33 => bnew 4 M33 fun v34 M35 => (f_X3_init v34 M35).bind fun M37 => bnew 2 M37 fun v38 M39 => bn (jTca 0 M39) fun v40 M41 => (jLen 0).bind fun v42 => (f_X1_init v38 v40 v42 v34 M41).bind fun M44 => (cK 2 v38 M44 (f_X1_parse v38 M44)).bind fun M46 => (sR 5 134 x (some v34) M46).bind fun M47 => some M47)
  obtain ⟨C, sC, fC, zC, wC, hC, bC, ⟨iC1, iC2⟩, rC, iC⟩ := in_2 zA kA (K := fun M20 => bnewa 11 2 M20 fun v21 M22 => (sR 5 137 x (some v21) M22).bind fun M23 => bnew 3 M23 fun v24 M25 => (f_X2_init v24 M25).bind fun M27 => (sR 5 138 x (some v24) M27).bind fun M28 => bnew 3 M28 fun v29 M30 => (f_X2_init v29 M30).bind fun M32 => (sR 5 139 x (some v29) M32).bind fun M33 => bnew 4 M33 fun v34 M35 => (f_X3_init v34 M35).bind fun M37 => bnew 2 M37 fun v38 M39 => bn (jTca 0 M39) fun v40 M41 => (jLen 0).bind fun v42 => (f_X1_init v38 v40 v42 v34 M41).bind fun M44 => (cK 2 v38 M44 (f_X1_parse v38 M44)).bind fun M46 => (sR 5 134 x (some v34) M46).bind fun M47 => some M47)
  have kC : mK C x = 5 := (fC.2 x (by omega)).1.1.trans kA
  obtain ⟨G, sG, fG, zG, ⟨kG1, kG2, kG3⟩, stG1, stG2, rG, iG⟩ := in_3 zC kC (K := fun M33 => bnew 4 M33 fun v34 M35 => (f_X3_init v34 M35).bind fun M37 => bnew 2 M37 fun v38 M39 => bn (jTca 0 M39) fun v40 M41 => (jLen 0).bind fun v42 => (f_X1_init v38 v40 v42 v34 M41).bind fun M44 => (cK 2 v38 M44 (f_X1_parse v38 M44)).bind fun M46 => (sR 5 134 x (some v34) M46).bind fun M47 => some M47)
  have kG : mK G x = 5 := (fG.2 x (by omega)).1.1.trans kC
  obtain ⟨Z, sZ, fZ, zZ, relZ, rZ, iZ⟩ := in_4 zG kG
  have fCZ : Fo (fun a => a = x) C Z := fG.tr fZ
  have fAZ : Fo (fun a => a = x) A Z := fC.tr fCZ
  have a1 := fAZ.2 (x + 1) (by omega)
  have a2 := fAZ.2 (x + 2) (by omega)
  have c27 := (fCZ.2 (x + 27) (by omega)).2 (by omega)
  have c28 := (fCZ.2 (x + 28) (by omega)).2 (by omega)
  have g29 := fZ.2 (x + 29) (by omega)
  have eR : ∀ f, mR Z f x = if f = 134 then some (x + 34) else if f = 139 then some (x + 32) else if f = 138 then some (x + 30) else if f = 137 then some (x + 29) else if f = 136 then some (x + 27) else if f = 135 then some (x + 3) else mR A f x := fun f => by rw [rZ, rG, rC]
  have eI : ∀ f, mI Z f x = mI A f x := fun f => by rw [iZ, iG, iC]
  refine ⟨Z, ?_, ?_, zZ, ⟨(fAZ.2 x (by omega)).1.1.trans kA, by rw [eR]; exact rA1, by rw [eR]; exact rA2, by rw [eR]; rfl, by rw [eR]; rfl, by rw [eR]; rfl, by rw [eR]; rfl⟩, ⟨a1.1.1.trans hA1, a1.1.2.trans hA2, a2.1.1.trans hA3, a2.1.2.trans hA4⟩, hC.fo fCZ ⟨by omega, by omega⟩ (by omega), ⟨g29.1.1.trans kG1, g29.1.2.trans kG2⟩, stG1.fo fZ ⟨by omega, by omega⟩ (by omega), stG2.fo fZ ⟨by omega, by omega⟩ (by omega), ⟨by rw [eR]; rfl, by rw [eR]; rfl, c28.2.2.2.1.trans bC, (g29.2 (by omega)).2.2.2.1.trans kG3⟩, wC.fo fCZ (by omega) (fun i hi => by omega), relZ, ⟨(c27.2.1 1).trans iC1, (c27.2.1 2).trans iC2⟩, ⟨(eI _).trans iA1, (eI _).trans iA2, (eI _).trans iA3, (eI _).trans iA4⟩⟩
  · unfold f_X4_init
    exact ((sA.trans sC).trans sG).trans sZ
  · have t : Fo (fun a => a = x) M Z := (fo0 fA).tr fAZ
    exact ⟨t.1, fun a ha => ⟨(t.2 a ha).1, fun _ => (t.2 a ha).2 (by omega)⟩⟩
end IN
