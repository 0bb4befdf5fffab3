/-! TEXTS IN THE MAKING: builders and strings -/
def Fz (Z x : Nat) (M M' : Mem) : Prop := mZ M ≤ mZ M' ∧ ∀ a, a < Z → (mK M' a = mK M a ∧ mN M' a = mN M a ∧ ∀ f, mR M' f a = mR M f a) ∧ (a ≠ x + 60 → (∀ f, mI M' f a = mI M f a) ∧ mA M' a = mA M a ∧ mB M' a = mB M a ∧ mL M' a = mL M a)
theorem Fz.refl {Z x : Nat} {M : Mem} : Fz Z x M M := ⟨Nat.le_refl _, fun a _ => ⟨⟨rfl, rfl, fun _ => rfl⟩, fun _ => ⟨fun _ => rfl, rfl, rfl, rfl⟩⟩⟩
theorem Fz.tr {Z x : Nat} {M M' M2 : Mem} (h : Fz Z x M M') (k : Fz Z x M' M2) : Fz Z x M M2 := by
  refine ⟨Nat.le_trans h.1 k.1, fun a ha => ?_⟩
  obtain ⟨⟨a1, a2, a3⟩, a4⟩ := h.2 a ha
  obtain ⟨⟨b1, b2, b3⟩, b4⟩ := k.2 a ha
  refine ⟨⟨b1.trans a1, b2.trans a2, fun f => (b3 f).trans (a3 f)⟩, fun hn => ?_⟩
  obtain ⟨c1, c2, c3, c4⟩ := a4 hn
  obtain ⟨d1, d2, d3, d4⟩ := b4 hn
  exact ⟨fun f => (d1 f).trans (c1 f), d2.trans c2, d3.trans c3, d4.trans c4⟩
theorem Fz.le {Z Y x : Nat} {M M' : Mem} (h : Fz Z x M M') (hy : Y ≤ Z) : Fz Y x M M' := ⟨h.1, fun a ha => h.2 a (Nat.lt_of_lt_of_le ha hy)⟩
theorem Fz.wA {Z x b : Nat} {M : Mem} {g : Nat → Int32} (h : Z ≤ b) : Fz Z x M (Jvm.Pilot.COfflineNotesLaw_law_r8929_57547b.wA M b g) := ⟨Nat.le_refl _, fun a ha => ⟨⟨rfl, rfl, fun _ => rfl⟩, fun _ => ⟨fun _ => rfl, by rw [mA_wA, if_neg (by omega)], rfl, rfl⟩⟩⟩
theorem Fz.wI {Z x b f : Nat} {M : Mem} {v : Int32} (h : Z ≤ b) : Fz Z x M (Jvm.Pilot.COfflineNotesLaw_law_r8929_57547b.wI M f b v) := ⟨Nat.le_refl _, fun a ha => ⟨⟨rfl, rfl, fun _ => rfl⟩, fun _ => ⟨fun f' => by rw [mI_wI, if_neg (by omega)], rfl, rfl, rfl⟩⟩⟩
theorem Fz.wR {Z x b f : Nat} {M : Mem} {v : Option Nat} (h : Z ≤ b) : Fz Z x M (Jvm.Pilot.COfflineNotesLaw_law_r8929_57547b.wR M f b v) := ⟨Nat.le_refl _, fun a ha => ⟨⟨rfl, rfl, fun f' => by rw [mR_wR, if_neg (by omega)]⟩, fun _ => ⟨fun _ => rfl, rfl, rfl, rfl⟩⟩⟩
theorem nO_K (k : Nat) (M : Mem) (a : Nat) : mK (newO k M) a = if a = mZ M then k else mK M a := rfl
theorem nO_I (k : Nat) (M : Mem) (f a : Nat) : mI (newO k M) f a = if a = mZ M then 0 else mI M f a := rfl
theorem nO_R (k : Nat) (M : Mem) (f a : Nat) : mR (newO k M) f a = if a = mZ M then none else mR M f a := rfl
theorem nA_K (k n : Nat) (M : Mem) (a : Nat) : mK (newA k n M) a = if a = mZ M then k else mK M a := rfl
theorem nA_N (k n : Nat) (M : Mem) (a : Nat) : mN (newA k n M) a = if a = mZ M then n else mN M a := rfl
theorem nA_A (k n : Nat) (M : Mem) (a : Nat) : mA (newA k n M) a = if a = mZ M then (fun _ => 0) else mA M a := rfl
theorem nA_B (k n : Nat) (M : Mem) (a : Nat) : mB (newA k n M) a = if a = mZ M then (fun _ => none) else mB M a := rfl
theorem nA_L (k n : Nat) (M : Mem) (a : Nat) : mL (newA k n M) a = if a = mZ M then (fun _ => 0) else mL M a := rfl
theorem Fz.nO {Z x k : Nat} {M : Mem} (h : Z ≤ mZ M) : Fz Z x M (newO k M) := ⟨Nat.le_succ _, fun a ha => ⟨⟨by rw [nO_K, if_neg (by omega)], rfl, fun f => by rw [nO_R, if_neg (by omega)]⟩, fun _ => ⟨fun f => by rw [nO_I, if_neg (by omega)], rfl, rfl, rfl⟩⟩⟩
theorem Fz.nA {Z x k n : Nat} {M : Mem} (h : Z ≤ mZ M) : Fz Z x M (newA k n M) := ⟨Nat.le_succ _, fun a ha => ⟨⟨by rw [nA_K, if_neg (by omega)], by rw [nA_N, if_neg (by omega)], fun _ => rfl⟩, fun _ => ⟨fun _ => rfl, by rw [nA_A, if_neg (by omega)], by rw [nA_B, if_neg (by omega)], by rw [nA_L, if_neg (by omega)]⟩⟩⟩
theorem Fz.fr {x : Nat} {M M' : Mem} (h : Fz (mZ M) x M M') : Fr (kpP x) M M' := ⟨h.1, fun a ha => ⟨(h.2 a ha).1, fun hn => (h.2 a ha).2 (fun e => hn (Or.inl e))⟩⟩
theorem Fz.kp {Z x : Nat} {M M' : Mem} (f : Fr (fun a => a = x + 60) M M') (h : Z ≤ mZ M) : Fz Z x M M' := ⟨f.1, fun a ha => f.2 a (by omega)⟩
theorem Fix.fz {x Z : Nat} {M M' : Mem} (h : Fix x M) (f : Fz Z x M M') (hz : x + 61 ≤ Z) : Fix x M' := h.same (fun i hi => ⟨(f.2 (x + i) (by omega)).1.1, (f.2 (x + i) (by omega)).1.2.1⟩) (fun g i hi _ _ => (f.2 (x + i) (by omega)).1.2.2 g)
/-- a builder at b with the letters T, its bytes at a -/
def SBa (Z : Nat) (M : Mem) (b a : Nat) (T : List Nat) : Prop := (Z ≤ b ∧ Z ≤ a ∧ b < mZ M ∧ a < mZ M) ∧ (mK M b = 12 ∧ mR M 192 b = some a ∧ mI M 193 b = 0 ∧ mI M 195 b = nI T.length) ∧ (mK M a = 7 ∧ T.length ≤ mN M a ∧ mN M a ≤ 450) ∧ (∀ i, i < mN M a → ∃ k, k < 128 ∧ mA M a i = nI k) ∧ (∀ i, i < T.length → T.getD i 0 < 128 ∧ mA M a i = nI (T.getD i 0))
def SB (Z : Nat) (M : Mem) (b : Nat) (T : List Nat) : Prop := ∃ a, SBa Z M b a T
theorem app_getD (T S : List Nat) (i : Nat) : (T ++ S).getD i 0 = if i < T.length then T.getD i 0 else S.getD (i - T.length) 0 := by
  rw [List.getD_eq_getElem?_getD, List.getD_eq_getElem?_getD, List.getD_eq_getElem?_getD, List.getElem?_append]
  by_cases c : i < T.length
  · rw [if_pos c, if_pos c]
  · rw [if_neg c, if_neg c]
theorem SBa.put {Z b a : Nat} {M : Mem} {T S : List Nat} {g : Nat → Int32} (h : SBa Z M b a T) (hl : T.length + S.length ≤ mN M a) (h1 : ∀ i, i < T.length → g i = mA M a i) (h2 : ∀ i, i < S.length → g (T.length + i) = nI (S.getD i 0)) (h3 : ∀ i, i < S.length → S.getD i 0 < 128) (h4 : ∀ i, T.length + S.length ≤ i → g i = mA M a i) : SBa Z (wI (wA M a g) 195 b (nI (T.length + S.length))) b a (T ++ S) := by
  obtain ⟨⟨z1, z2, z3, z4⟩, ⟨b1, b2, b3, b4⟩, ⟨a1, a2, a3⟩, f, t⟩ := h
  have ga : mA (wI (wA M a g) 195 b (nI (T.length + S.length))) a = g := wA_self M a g
  refine ⟨⟨z1, z2, z3, z4⟩, ⟨b1, b2, ?_, ?_⟩, ⟨a1, ?_, a3⟩, fun i hi => ?_, fun i hi => ?_⟩
  · rw [mI_wI, if_neg (by omega)]; exact b3
  · rw [mI_wI, if_pos ⟨rfl, rfl⟩, List.length_append]
  · rw [List.length_append]; exact hl
  · rw [ga]
    by_cases c : i < T.length
    · rw [h1 i c]; exact f i hi
    · by_cases c2 : i < T.length + S.length
      · have := h2 (i - T.length) (by omega)
        rw [show T.length + (i - T.length) = i by omega] at this
        exact ⟨_, h3 (i - T.length) (by omega), this⟩
      · rw [h4 i (by omega)]; exact f i hi
  · rw [app_getD]
    rw [List.length_append] at hi
    by_cases c : i < T.length
    · rw [if_pos c, ga, h1 i c]; exact t i c
    · rw [if_neg c, ga]
      have := h2 (i - T.length) (by omega)
      rw [show T.length + (i - T.length) = i by omega] at this
      exact ⟨h3 (i - T.length) (by omega), this⟩
theorem put_fz {Z x b a : Nat} {M : Mem} {g : Nat → Int32} {v : Int32} (hb : Z ≤ b) (ha : Z ≤ a) : Fz Z x M (wI (wA M a g) 195 b v) := (Fz.wA ha).tr (Fz.wI hb)
/-- a change that leaves the builder alone -/
theorem SBa.fz {Z Y x b a : Nat} {M M' : Mem} {T : List Nat} (h : SBa Z M b a T) (f : Fz Y x M M') (hb : b < Y) (ha : a < Y) (hx : x + 60 < Z) : SBa Z M' b a T := by
  obtain ⟨⟨z1, z2, z3, z4⟩, ⟨b1, b2, b3, b4⟩, ⟨a1, a2, a3⟩, g, t⟩ := h
  obtain ⟨⟨p1, p2, p3⟩, p4⟩ := f.2 b hb
  obtain ⟨⟨q1, q2, q3⟩, q4⟩ := f.2 a ha
  obtain ⟨p5, _⟩ := p4 (by omega)
  obtain ⟨_, q5, _⟩ := q4 (by omega)
  exact ⟨⟨z1, z2, Nat.lt_of_lt_of_le z3 f.1, Nat.lt_of_lt_of_le z4 f.1⟩, ⟨p1.trans b1, (p3 _).trans b2, (p5 _).trans b3, (p5 _).trans b4⟩, ⟨q1.trans a1, by rw [q2]; exact a2, by rw [q2]; exact a3⟩, fun i hi => by rw [q2] at hi; rw [q5]; exact g i hi, fun i hi => by rw [q5]; exact t i hi⟩
theorem SB.fz {Z Y x b : Nat} {M M' : Mem} {T : List Nat} (h : SB Z M b T) (f : Fz Y x M M') (hY : mZ M ≤ Y) (hx : x + 60 < Z) : SB Z M' b T := by
  obtain ⟨a, h⟩ := h
  exact ⟨a, h.fz f (Nat.lt_of_lt_of_le h.1.2.2.1 hY) (Nat.lt_of_lt_of_le h.1.2.2.2 hY) hx⟩
theorem bytes_ok : ∀ k : Fin 128, fits .byte (.int (nI k.val)) = true ∧ nar 7 (nI k.val) = nI k.val ∧ nar 7 ((nI k.val).toInt8.toInt32) = nI k.val ∧ nar 8 (nI k.val) = nI k.val ∧ ((nI k.val &&& 255).toUInt32 % 65536).toInt32 = nI k.val := by decide +kernel
theorem shr0 (v : Int32) : v >>> ((0 : Int32) &&& 31) = v := by
  rw [show ((0 : Int32) &&& 31) = 0 from by decide]
  first | exact Int32.shiftRight_zero | simp
theorem shl0 (v : Int32) : v <<< ((0 : Int32) &&& 31) = v := by
  rw [show ((0 : Int32) &&& 31) = 0 from by decide]
  first | exact Int32.shiftLeft_zero | simp
theorem cpB_w {src dst n : Nat} {M : Mem} {p : Nat} (h1 : mK M src = 7) (h2 : mK M dst = 7) (h3 : n ≤ mN M src) (h4 : p + n ≤ mN M dst) (hn : n < 1000) (hp : p < 1000) (hf : ∀ j, j < n → ∃ k, k < 128 ∧ mA M src j = nI k) : cpB src 0 dst (nI p) (nI n) M = some (wA M dst (va_cpy (mA M src) (mA M dst) 0 p n)) := by
  have c0 : (0 : Int32).toNatClampNeg = 0 := rfl
  have l0 : ¬ ((0 : Int32) < 0) := by decide
  unfold cpB
  rw [nI_cl (show p < 2147483648 by omega), nI_cl (show n < 2147483648 by omega), c0, if_pos ⟨⟨h1, h2⟩, ⟨l0, nI_pos (by omega), nI_pos (by omega)⟩, ⟨by omega, by omega⟩, fun j hj => by
    obtain ⟨k, hk, e⟩ := hf j hj
    rw [Nat.zero_add, e]; exact (bytes_ok ⟨k, hk⟩).1⟩]
  rfl
theorem cpy_lo {f g : Nat → Int32} {p n i : Nat} (h : i < p ∨ p + n ≤ i) : va_cpy f g 0 p n i = g i := by
  unfold va_cpy; rw [if_neg (by omega)]
theorem cpy_in {f g : Nat → Int32} {p n i : Nat} (h : i < n) : va_cpy f g 0 p n (p + i) = f i := by
  unfold va_cpy; rw [if_pos (by omega)]; congr 1; omega
