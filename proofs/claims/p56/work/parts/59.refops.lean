/-! THE REFERENCE'S OTHER HELPERS -/
def Bad (a : Int32) (n : Nat) : Prop := a < 0 ∨ nI n ≤ a
theorem rng (a : Int32) (n : Nat) (hn : n < 2147483648) : (∃ r, r < n ∧ a = nI r) ∨ Bad a n := by
  by_cases h : a < 0
  · exact Or.inr (Or.inl h)
  · obtain ⟨j, hj, rfl⟩ := nI_of h
    by_cases c : j < n
    · exact Or.inl ⟨j, c, rfl⟩
    · exact Or.inr (Or.inr (nI_le (by omega) (by omega)))
theorem nI_m1 {n : Nat} (h : n < 2147483648) : (nI n - 1).toInt = (n : Int) - 1 := by
  rw [Int32.sub_eq_add_neg, i32_add]
  · rw [nI_toI h]; rfl
  · rw [nI_toI h]; have : (-1 : Int32).toInt = -1 := rfl
    omega
section RO
variable {M : Mem} {m w : Nat} {g : Nat → Int32}
theorem wI_wA (M : Mem) (f a b : Nat) (v : Int32) (g : Nat → Int32) : wI (wA M b g) f a v = wA (wI M f a v) b g := rfl
/-- the second row brings nothing new to the first -/
def cov (a b : Nat → Int32) : Prop := eqS (absR a b) a
theorem eqS_congr {a b a' b' : Nat → Int32} (h : ∀ i, i < 132 → a i = a' i) (k : ∀ i, i < 132 → b i = b' i) : eqS a b ↔ eqS a' b' := ⟨fun e i hi => by rw [← h i hi, ← k i hi]; exact e i hi, fun e i hi => by rw [h i hi, k i hi]; exact e i hi⟩
def upR (g : Nat → Int32) : Nat → Nat → Int32
  | 0 => row g 0
  | n + 1 => absR (upR g n) (row g (n + 1))
def dnR (g : Nat → Int32) (n : Nat) : Nat → Nat → Int32
  | 0 => row g (n - 1)
  | k + 1 => absR (dnR g n k) (row g (n - 2 - k))
end RO
