/-! LEVEL 2: WHAT THE FUNCTIONS COMPUTE. Numbers, loops, ways to write the memory -/
theorem loopM_run {S X : Type} {body : S → Option (S ⊕ X)} {st : Nat → S} {N : Nat} {o : Option X} {fuel : Nat} {s0 : S} (h0 : s0 = st 0) (h : ∀ i, i < N → body (st i) = some (.inl (st (i + 1)))) (he : body (st N) = o.map Sum.inr) (hf : N < fuel) : loopM body fuel s0 = o := by
  subst h0
  have key : ∀ (n i fuel : Nat), i + n = N → n < fuel → loopM body fuel (st i) = o := by
    intro n
    induction n with
    | zero =>
      intro i fuel e hf
      obtain ⟨f, rfl⟩ : ∃ f, fuel = f + 1 := ⟨fuel - 1, by omega⟩
      unfold loopM
      rw [show i = N by omega, he]
      cases o <;> rfl
    | succ n ih =>
      intro i fuel e hf
      obtain ⟨f, rfl⟩ : ∃ f, fuel = f + 1 := ⟨fuel - 1, by omega⟩
      unfold loopM
      rw [h i (by omega)]
      exact ih (i + 1) f (by omega) (by omega)
  exact key N 0 fuel (by omega) hf
/-- the first of n numbers from i on -/
def firstF (p : Nat → Prop) [DecidablePred p] (i : Nat) : Nat → Option Nat
  | 0 => none
  | n + 1 => if p i then some i else firstF p (i + 1) n
theorem loopM_find {S X : Type} {body : S → Option (S ⊕ X)} {st : Nat → S} {k N : Nat} (p : Nat → Prop) [DecidablePred p] {hit : Nat → Option X} {miss : Option X} {fuel : Nat} {s0 : S} (h0 : s0 = st k) (hs : ∀ i, k ≤ i → i < N → ¬ p i → body (st i) = some (.inl (st (i + 1)))) (hh : ∀ i, k ≤ i → i < N → p i → body (st i) = (hit i).map Sum.inr) (hm : body (st N) = miss.map Sum.inr) (hk : k ≤ N) (hf : N < fuel) : loopM body fuel s0 = (firstF p k (N - k)).elim miss hit := by
  subst h0
  have key : ∀ (n i fuel : Nat), i + n = N → k ≤ i → n < fuel → loopM body fuel (st i) = (firstF p i n).elim miss hit := by
    intro n
    induction n with
    | zero =>
      intro i fuel e hk hf
      obtain ⟨f, rfl⟩ : ∃ f, fuel = f + 1 := ⟨fuel - 1, by omega⟩
      unfold loopM
      rw [show i = N by omega, hm]
      cases miss <;> rfl
    | succ n ih =>
      intro i fuel e hk hf
      obtain ⟨f, rfl⟩ : ∃ f, fuel = f + 1 := ⟨fuel - 1, by omega⟩
      unfold loopM firstF
      by_cases q : p i
      · rw [hh i hk (by omega) q, if_pos q]
        cases e : hit i <;> simp [e]
      · rw [hs i hk (by omega) q, if_neg q]
        exact ih (i + 1) f (by omega) (by omega) (by omega)
  exact key (N - k) k fuel (by omega) (Nat.le_refl k) (by omega)
theorem FUn {n : Nat} (h : n < 1000000) : n < FU := h
theorem lit_nI (n : Nat) : (OfNat.ofNat n : Int32) = nI n := rfl
theorem lit_0 : (0 : Int32) = nI 0 := rfl
theorem nI_mul (a b : Nat) : nI a * nI b = nI (a * b) := (Int32.ofNat_mul a b).symm
theorem nI_toI {n : Nat} (h : n < 2147483648) : (nI n).toInt = (n : Int) := nI_toInt h
theorem nI_cl {n : Nat} (h : n < 2147483648) : (nI n).toNatClampNeg = n := nI_clamp h
theorem nI_sub {a b : Nat} (h : b ≤ a) : nI a - nI b = nI (a - b) := by
  obtain ⟨c, rfl⟩ : ∃ c, a = b + c := ⟨a - b, by omega⟩
  rw [← nI_add, show b + c - b = c by omega, Int32.add_comm, Int32.add_sub_cancel]
theorem nI_leT {a b : Nat} (h : a ≤ b) (hb : b < 2147483648) : (nI a ≤ nI b) = True := eq_true (nI_le h hb)
theorem nI_leF {a b : Nat} (h : b < a) (hb : a < 2147483648) : (nI a ≤ nI b) = False := eq_false (nI_ge h hb)
theorem nI_ltT {a b : Nat} (h : a < b) (hb : b < 2147483648) : (nI a < nI b) = True := eq_true (nI_lt h hb)
theorem nI_ltF {a b : Nat} (h : b ≤ a) (hb : a < 2147483648) : (nI a < nI b) = False := eq_false (nI_nlt h hb)
theorem nI_nlt0 {a : Nat} (hb : a < 2147483648) : (nI a < 0) = False := eq_false (nI_pos hb)
theorem nI_eqT {a b : Nat} (h : a = b) : (nI a = nI b) = True := eq_true (by rw [h])
theorem nI_eqF {a b : Nat} (h : a ≠ b) (ha : a < 2147483648) (hb : b < 2147483648) : (nI a = nI b) = False := eq_false (fun e => h ((nI_eq ha hb).mp e))
theorem nI_div {a b : Nat} (ha : a < 2147483648) (hb : b < 2147483648) : nI a / nI b = nI (a / b) := by
  apply Int32.toInt_inj.mp
  have h1 : a / b ≤ a := Nat.div_le_self a b
  rw [nI_toI (by omega), Int32.toInt_div_of_ne_left, nI_toI ha, nI_toI hb]
  · exact (Int.ofNat_tdiv a b).symm
  · intro e
    have := congrArg Int32.toInt e
    rw [nI_toI ha] at this
    have h2 : Int32.minValue.toInt = -2147483648 := by decide
    omega
theorem nI_neg {a : Nat} (h : 0 < a) : nI a + -1 = nI (a - 1) := by
  obtain ⟨c, rfl⟩ : ∃ c, a = c + 1 := ⟨a - 1, by omega⟩
  rw [show c + 1 - 1 = c by omega, ← nI_pred c]; exact (Int32.sub_eq_add_neg ..).symm
theorem inT {i n : Nat} (h : i < n) (hi : i < 2147483648) : (nI i < 0 ∨ n ≤ (nI i).toNatClampNeg) = False := eq_false (by
  rintro (c | c)
  · exact nI_pos hi c
  · rw [nI_clamp hi] at c; omega)
theorem nar9 (v : Int32) : nar 9 v = v := rfl
theorem bn_some {α β γ : Type} (a : α) (b : β) (g : α → β → Option γ) : bn (some (a, b)) g = g a b := rfl
theorem cK_ok {α : Type} {k b : Nat} {M : Mem} {o : Option α} (h : mK M b = k) : cK k b M o = o := if_pos h
/-- writing the memory -/
def wI (M : Mem) (f a : Nat) (v : Int32) : Mem := (mK M, mN M, up2 (mI M) f a v, mR M, mA M, mB M, mL M, mZ M)
def wA (M : Mem) (a : Nat) (g : Nat → Int32) : Mem := (mK M, mN M, mI M, mR M, va_up (mA M) a g, mB M, mL M, mZ M)
def wB (M : Mem) (a : Nat) (g : Nat → Option Nat) : Mem := (mK M, mN M, mI M, mR M, mA M, va_up (mB M) a g, mL M, mZ M)
def wR (M : Mem) (f a : Nat) (v : Option Nat) : Mem := (mK M, mN M, mI M, up2 (mR M) f a v, mA M, mB M, mL M, mZ M)
def wL (M : Mem) (a : Nat) (g : Nat → Int64) : Mem := (mK M, mN M, mI M, mR M, mA M, mB M, va_up (mL M) a g, mZ M)
/-- one place of a row -/
def u1 {α : Type} (f : Nat → α) (i : Nat) (v : α) : Nat → α := fun j => if j = i then v else f j
theorem u1_self {α : Type} (f : Nat → α) (i : Nat) (v : α) : u1 f i v i = v := if_pos rfl
theorem u1_ne {α : Type} (f : Nat → α) {i j : Nat} (v : α) (h : j ≠ i) : u1 f i v j = f j := if_neg h
theorem up2_va {α : Type} (f : Nat → Nat → α) (a k : Nat) (v : α) : up2 f a k v = va_up f a (u1 (f a) k v) := by
  funext b j
  unfold up2 va_up u1
  by_cases h : b = a
  · subst h; by_cases h2 : j = k <;> simp [h2]
  · simp [h]
theorem up2_wA (M : Mem) (a i : Nat) (v : Int32) : ((mK M, mN M, mI M, mR M, up2 (mA M) a i v, mB M, mL M, mZ M) : Mem) = wA M a (u1 (mA M a) i v) := by rw [up2_va]; rfl
theorem up2_wB (M : Mem) (a i : Nat) (v : Option Nat) : ((mK M, mN M, mI M, mR M, mA M, up2 (mB M) a i v, mL M, mZ M) : Mem) = wB M a (u1 (mB M a) i v) := by rw [up2_va]; rfl
theorem up2_wL (M : Mem) (a i : Nat) (v : Int64) : ((mK M, mN M, mI M, mR M, mA M, mB M, up2 (mL M) a i v, mZ M) : Mem) = wL M a (u1 (mL M a) i v) := by rw [up2_va]; rfl
theorem up2_wI (M : Mem) (f a : Nat) (v : Int32) : ((mK M, mN M, up2 (mI M) f a v, mR M, mA M, mB M, mL M, mZ M) : Mem) = wI M f a v := rfl
theorem up2_wR (M : Mem) (f a : Nat) (v : Option Nat) : ((mK M, mN M, mI M, up2 (mR M) f a v, mA M, mB M, mL M, mZ M) : Mem) = wR M f a v := rfl
theorem sI_w (k f a : Nat) (v : Int32) (M : Mem) : sI k f a v M = if mK M a = k then some (wI M f a v) else none := rfl
theorem sR_w (k f a : Nat) (v : Option Nat) (M : Mem) : sR k f a v M = if mK M a = k then some (wR M f a v) else none := rfl
theorem sA_w (k a : Nat) (i v : Int32) (M : Mem) : sA k a i v M = if mK M a = k ∧ ¬ (i < 0 ∨ mN M a ≤ i.toNatClampNeg) then some (wA M a (u1 (mA M a) i.toNatClampNeg (nar k v))) else none := by unfold sA; rw [up2_wA]
theorem sBn_w (k kv a : Nat) (i : Int32) (v : Nat) (M : Mem) : sBn k kv a i v M = if mK M a = k ∧ mK M v = kv ∧ ¬ (i < 0 ∨ mN M a ≤ i.toNatClampNeg) then some (wB M a (u1 (mB M a) i.toNatClampNeg (some v))) else none := by unfold sBn; rw [up2_wB]
theorem sB0_w (k a : Nat) (i : Int32) (M : Mem) : sB0 k a i M = if mK M a = k ∧ ¬ (i < 0 ∨ mN M a ≤ i.toNatClampNeg) then some (wB M a (u1 (mB M a) i.toNatClampNeg none)) else none := by unfold sB0; rw [up2_wB]
theorem sL_w (a : Nat) (i : Int32) (v : Int64) (M : Mem) : sL a i v M = if mK M a = 12 ∧ ¬ (i < 0 ∨ mN M a ≤ i.toNatClampNeg) then some (wL M a (u1 (mL M a) i.toNatClampNeg v)) else none := by unfold sL; rw [up2_wL]
theorem cpA_w (src : Nat) (sp : Int32) (dst : Nat) (dp n : Int32) (M : Mem) : cpA src sp dst dp n M = if (mK M src = 9 ∧ mK M dst = 9) ∧ (¬ sp < 0 ∧ ¬ dp < 0 ∧ ¬ n < 0) ∧ sp.toNatClampNeg + n.toNatClampNeg ≤ mN M src ∧ dp.toNatClampNeg + n.toNatClampNeg ≤ mN M dst then some (wA M dst (va_cpy (mA M src) (mA M dst) sp.toNatClampNeg dp.toNatClampNeg n.toNatClampNeg)) else none := rfl
theorem mK_wI (M : Mem) (f a : Nat) (v : Int32) : mK (wI M f a v) = mK M := rfl
theorem mN_wI (M : Mem) (f a : Nat) (v : Int32) : mN (wI M f a v) = mN M := rfl
theorem mR_wI (M : Mem) (f a : Nat) (v : Int32) : mR (wI M f a v) = mR M := rfl
theorem mA_wI (M : Mem) (f a : Nat) (v : Int32) : mA (wI M f a v) = mA M := rfl
theorem mB_wI (M : Mem) (f a : Nat) (v : Int32) : mB (wI M f a v) = mB M := rfl
theorem mL_wI (M : Mem) (f a : Nat) (v : Int32) : mL (wI M f a v) = mL M := rfl
theorem mZ_wI (M : Mem) (f a : Nat) (v : Int32) : mZ (wI M f a v) = mZ M := rfl
theorem mK_wA (M : Mem) (a : Nat) (g : Nat → Int32) : mK (wA M a g) = mK M := rfl
theorem mN_wA (M : Mem) (a : Nat) (g : Nat → Int32) : mN (wA M a g) = mN M := rfl
theorem mI_wA (M : Mem) (a : Nat) (g : Nat → Int32) : mI (wA M a g) = mI M := rfl
theorem mR_wA (M : Mem) (a : Nat) (g : Nat → Int32) : mR (wA M a g) = mR M := rfl
theorem mB_wA (M : Mem) (a : Nat) (g : Nat → Int32) : mB (wA M a g) = mB M := rfl
theorem mL_wA (M : Mem) (a : Nat) (g : Nat → Int32) : mL (wA M a g) = mL M := rfl
theorem mZ_wA (M : Mem) (a : Nat) (g : Nat → Int32) : mZ (wA M a g) = mZ M := rfl
theorem mK_wB (M : Mem) (a : Nat) (g : Nat → Option Nat) : mK (wB M a g) = mK M := rfl
theorem mN_wB (M : Mem) (a : Nat) (g : Nat → Option Nat) : mN (wB M a g) = mN M := rfl
theorem mI_wB (M : Mem) (a : Nat) (g : Nat → Option Nat) : mI (wB M a g) = mI M := rfl
theorem mR_wB (M : Mem) (a : Nat) (g : Nat → Option Nat) : mR (wB M a g) = mR M := rfl
theorem mA_wB (M : Mem) (a : Nat) (g : Nat → Option Nat) : mA (wB M a g) = mA M := rfl
theorem mL_wB (M : Mem) (a : Nat) (g : Nat → Option Nat) : mL (wB M a g) = mL M := rfl
theorem mZ_wB (M : Mem) (a : Nat) (g : Nat → Option Nat) : mZ (wB M a g) = mZ M := rfl
theorem mK_wR (M : Mem) (f a : Nat) (v : Option Nat) : mK (wR M f a v) = mK M := rfl
theorem mN_wR (M : Mem) (f a : Nat) (v : Option Nat) : mN (wR M f a v) = mN M := rfl
theorem mI_wR (M : Mem) (f a : Nat) (v : Option Nat) : mI (wR M f a v) = mI M := rfl
theorem mA_wR (M : Mem) (f a : Nat) (v : Option Nat) : mA (wR M f a v) = mA M := rfl
theorem mB_wR (M : Mem) (f a : Nat) (v : Option Nat) : mB (wR M f a v) = mB M := rfl
theorem mL_wR (M : Mem) (f a : Nat) (v : Option Nat) : mL (wR M f a v) = mL M := rfl
theorem mZ_wR (M : Mem) (f a : Nat) (v : Option Nat) : mZ (wR M f a v) = mZ M := rfl
theorem mK_wL (M : Mem) (a : Nat) (g : Nat → Int64) : mK (wL M a g) = mK M := rfl
theorem mN_wL (M : Mem) (a : Nat) (g : Nat → Int64) : mN (wL M a g) = mN M := rfl
theorem mI_wL (M : Mem) (a : Nat) (g : Nat → Int64) : mI (wL M a g) = mI M := rfl
theorem mR_wL (M : Mem) (a : Nat) (g : Nat → Int64) : mR (wL M a g) = mR M := rfl
theorem mA_wL (M : Mem) (a : Nat) (g : Nat → Int64) : mA (wL M a g) = mA M := rfl
theorem mB_wL (M : Mem) (a : Nat) (g : Nat → Int64) : mB (wL M a g) = mB M := rfl
theorem mZ_wL (M : Mem) (a : Nat) (g : Nat → Int64) : mZ (wL M a g) = mZ M := rfl
theorem mI_wI (M : Mem) (f a : Nat) (v : Int32) (g b : Nat) : mI (wI M f a v) g b = if g = f ∧ b = a then v else mI M g b := rfl
theorem mR_wR (M : Mem) (f a : Nat) (v : Option Nat) (g b : Nat) : mR (wR M f a v) g b = if g = f ∧ b = a then v else mR M g b := rfl
theorem wI_again (M : Mem) (f a : Nat) (v u : Int32) : wI (wI M f a v) f a u = wI M f a u := by
  have e : up2 (up2 (mI M) f a v) f a u = up2 (mI M) f a u := by funext b j; unfold up2; by_cases e : b = f ∧ j = a <;> simp [e]
  show ((mK M, mN M, up2 (up2 (mI M) f a v) f a u, mR M, mA M, mB M, mL M, mZ M) : Mem) = (mK M, mN M, up2 (mI M) f a u, mR M, mA M, mB M, mL M, mZ M)
  rw [e]
theorem mA_wA (M : Mem) (a : Nat) (g : Nat → Int32) (b : Nat) : mA (wA M a g) b = if b = a then g else mA M b := rfl
theorem wA_self (M : Mem) (a : Nat) (g : Nat → Int32) : mA (wA M a g) a = g := by rw [mA_wA, if_pos rfl]
theorem wA_again (M : Mem) (a : Nat) (g h : Nat → Int32) : wA (wA M a g) a h = wA M a h := by
  have e : va_up (va_up (mA M) a g) a h = va_up (mA M) a h := by funext b; unfold va_up; by_cases e : b = a <;> simp [e]
  show ((mK M, mN M, mI M, mR M, va_up (va_up (mA M) a g) a h, mB M, mL M, mZ M) : Mem) = (mK M, mN M, mI M, mR M, va_up (mA M) a h, mB M, mL M, mZ M)
  rw [e]
theorem wA_id (M : Mem) (a : Nat) : wA M a (mA M a) = M := by
  have e : va_up (mA M) a (mA M a) = mA M := by funext b; unfold va_up; by_cases e : b = a <;> simp [e]
  show ((mK M, mN M, mI M, mR M, va_up (mA M) a (mA M a), mB M, mL M, mZ M) : Mem) = M
  rw [e]
theorem mB_wB (M : Mem) (a : Nat) (g : Nat → Option Nat) (b : Nat) : mB (wB M a g) b = if b = a then g else mB M b := rfl
theorem wB_self (M : Mem) (a : Nat) (g : Nat → Option Nat) : mB (wB M a g) a = g := by rw [mB_wB, if_pos rfl]
theorem wB_again (M : Mem) (a : Nat) (g h : Nat → Option Nat) : wB (wB M a g) a h = wB M a h := by
  have e : va_up (va_up (mB M) a g) a h = va_up (mB M) a h := by funext b; unfold va_up; by_cases e : b = a <;> simp [e]
  show ((mK M, mN M, mI M, mR M, mA M, va_up (va_up (mB M) a g) a h, mL M, mZ M) : Mem) = (mK M, mN M, mI M, mR M, mA M, va_up (mB M) a h, mL M, mZ M)
  rw [e]
theorem wB_id (M : Mem) (a : Nat) : wB M a (mB M a) = M := by
  have e : va_up (mB M) a (mB M a) = mB M := by funext b; unfold va_up; by_cases e : b = a <;> simp [e]
  show ((mK M, mN M, mI M, mR M, mA M, va_up (mB M) a (mB M a), mL M, mZ M) : Mem) = M
  rw [e]
theorem mL_wL (M : Mem) (a : Nat) (g : Nat → Int64) (b : Nat) : mL (wL M a g) b = if b = a then g else mL M b := rfl
theorem wL_self (M : Mem) (a : Nat) (g : Nat → Int64) : mL (wL M a g) a = g := by rw [mL_wL, if_pos rfl]
theorem wL_again (M : Mem) (a : Nat) (g h : Nat → Int64) : wL (wL M a g) a h = wL M a h := by
  have e : va_up (va_up (mL M) a g) a h = va_up (mL M) a h := by funext b; unfold va_up; by_cases e : b = a <;> simp [e]
  show ((mK M, mN M, mI M, mR M, mA M, mB M, va_up (va_up (mL M) a g) a h, mZ M) : Mem) = (mK M, mN M, mI M, mR M, mA M, mB M, va_up (mL M) a h, mZ M)
  rw [e]
theorem wL_id (M : Mem) (a : Nat) : wL M a (mL M a) = M := by
  have e : va_up (mL M) a (mL M a) = mL M := by funext b; unfold va_up; by_cases e : b = a <;> simp [e]
  show ((mK M, mN M, mI M, mR M, mA M, mB M, va_up (mL M) a (mL M a), mZ M) : Mem) = M
  rw [e]
