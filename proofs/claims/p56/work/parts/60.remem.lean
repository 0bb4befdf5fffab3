/-! THE REFERENCE REMEMBERS -/
theorem wA_comm {M : Mem} {a b : Nat} {f g : Nat → Int32} (h : a ≠ b) : wA (wA M a f) b g = wA (wA M b g) a f := by
  have e : va_up (va_up (mA M) a f) b g = va_up (va_up (mA M) b g) a f := by
    funext c; unfold va_up
    by_cases q : c = b
    · rw [if_pos q, if_neg (by omega), if_pos q]
    · rw [if_neg q, if_neg q]
  show ((mK M, mN M, mI M, mR M, va_up (va_up (mA M) a f) b g, mB M, mL M, mZ M) : Mem) = (mK M, mN M, mI M, mR M, va_up (va_up (mA M) b g) a f, mB M, mL M, mZ M)
  rw [e]
theorem mA_ne {M : Mem} {a b : Nat} {g : Nat → Int32} (h : b ≠ a) : mA (wA M a g) b = mA M b := by rw [mA_wA, if_neg h]
def cpO (o : Nat → Int32) (k : Nat) (g : Nat → Int32) (n : Nat) : Nat → Int32 := fun q => if 1330 * k ≤ q ∧ q < 1330 * k + n then g (q - 1330 * k) else o q
theorem cpO_0 (o : Nat → Int32) (k : Nat) (g : Nat → Int32) : cpO o k g 0 = o := funext fun q => if_neg (by omega)
theorem cpO_step (o : Nat → Int32) (k : Nat) (g : Nat → Int32) (n : Nat) : u1 (cpO o k g n) (k * 1330 + n) (g n) = cpO o k g (n + 1) := by
  funext q; unfold u1 cpO
  by_cases c : q = k * 1330 + n
  · rw [if_pos c, if_pos (by omega)]; exact congrArg g (by omega)
  · rw [if_neg c]; by_cases c2 : 1330 * k ≤ q ∧ q < 1330 * k + n
    · rw [if_pos c2, if_pos (by omega)]
    · rw [if_neg c2, if_neg (by omega)]
def shO (o : Nat → Int32) (n : Nat) : Nat → Int32 := fun q => if q < n then o (q + 1330) else o q
theorem shO_0 (o : Nat → Int32) : shO o 0 = o := funext fun q => if_neg (by omega)
theorem shO_at (o : Nat → Int32) (n : Nat) : shO o n (n + 1330) = o (n + 1330) := if_neg (by omega)
theorem shO_step (o : Nat → Int32) (n : Nat) : u1 (shO o n) n (o (n + 1330)) = shO o (n + 1) := by
  funext q; unfold u1 shO
  by_cases c : q = n
  · rw [if_pos c, if_pos (by omega), c]
  · rw [if_neg c]; by_cases c2 : q < n
    · rw [if_pos c2, if_pos (by omega)]
    · rw [if_neg c2, if_neg (by omega)]
section RE
variable {M : Mem} {m w ol : Nat} {g : Nat → Int32}
end RE
