/-! THE REFERENCE'S ROWS: each of its helpers, as a function of what lies in 'now' -/
def bs (t : Nat) : Nat := 10 + 132 * t
theorem bs_eq (t : Nat) : bs t = 10 + 132 * t := rfl
def row (g : Nat → Int32) (t : Nat) : Nat → Int32 := fun i => g (bs t + i)
def put (g : Nat → Int32) (t : Nat) (a : Nat → Int32) : Nat → Int32 := fun q => if bs t ≤ q ∧ q < bs t + 132 then a (q - bs t) else g q
theorem put_at {g : Nat → Int32} {t i : Nat} {a : Nat → Int32} (h : i < 132) : put g t a (bs t + i) = a i := by unfold put; rw [if_pos (by omega), show bs t + i - bs t = i by omega]
theorem put_ne {g : Nat → Int32} {t s i : Nat} {a : Nat → Int32} (h : i < 132) (hn : s ≠ t) : put g t a (bs s + i) = g (bs s + i) := by unfold put; rw [if_neg (by simp only [bs_eq]; omega)]
theorem put_lo {g : Nat → Int32} {t q : Nat} {a : Nat → Int32} (h : q < 10) : put g t a q = g q := by unfold put; rw [if_neg (by simp only [bs_eq]; omega)]
theorem u1_put {g : Nat → Int32} {t i : Nat} {a : Nat → Int32} {v : Int32} (h : i < 132) : u1 (put g t a) (bs t + i) v = put g t (u1 a i v) := by
  funext q; unfold u1 put
  by_cases e : q = bs t + i
  · rw [if_pos e, if_pos (by omega)]; dsimp only; rw [if_pos (by omega)]
  · rw [if_neg e]
    by_cases e2 : bs t ≤ q ∧ q < bs t + 132
    · rw [if_pos e2, if_pos e2]; dsimp only; rw [if_neg (by omega)]
    · rw [if_neg e2, if_neg e2]
theorem put_row (g : Nat → Int32) (t : Nat) : put g t (row g t) = g := by
  funext q; unfold put row
  by_cases e2 : bs t ≤ q ∧ q < bs t + 132
  · rw [if_pos e2, show bs t + (q - bs t) = q by omega]
  · rw [if_neg e2]
theorem put_put (g : Nat → Int32) (t : Nat) (a b : Nat → Int32) : put (put g t a) t b = put g t b := by
  funext q; unfold put
  by_cases e2 : bs t ≤ q ∧ q < bs t + 132
  · rw [if_pos e2, if_pos e2]
  · rw [if_neg e2, if_neg e2, if_neg e2]
theorem put_congr {g : Nat → Int32} {t : Nat} {a b : Nat → Int32} (h : ∀ i, i < 132 → a i = b i) : put g t a = put g t b := by
  funext q; unfold put
  by_cases e2 : bs t ≤ q ∧ q < bs t + 132
  · rw [if_pos e2, if_pos e2, h _ (by omega)]
  · rw [if_neg e2, if_neg e2]
theorem row_put {g : Nat → Int32} {t i : Nat} {a : Nat → Int32} (h : i < 132) : row (put g t a) t i = a i := put_at h
theorem row_put_ne {g : Nat → Int32} {t s i : Nat} {a : Nat → Int32} (h : i < 132) (hn : s ≠ t) : row (put g t a) s i = row g s i := put_ne h hn
theorem bs_le {t : Nat} (h : t < 12) : bs t ≤ 1462 := by rw [bs_eq]; omega
section RN
variable {M : Mem} {m w : Nat} {g : Nat → Int32} {t : Nat}
abbrev lve (a : Nat → Int32) (f : Nat) : Nat := cnt (fun j => 0 < a (f + j)) 4
theorem lve_lt (a : Nat → Int32) (f : Nat) : lve a f < 2147483648 := Nat.lt_of_le_of_lt (cnt_le _ 4) (by decide)
theorem adds_row {x : Nat → Int32} {f r : Nat} (hf : 36 ≤ f ∧ f + 4 ≤ 100) (hr : r < 4) : u1 (u1 (zap x f 4) r (zap x f 4 r + 1)) (f + r) (zap x f 4 r + 1) = newN x f r 0 4 := by
  have e0 : zap x f 4 r = x r := if_neg (by omega)
  rw [e0]
  funext p; unfold u1 newN zap
  by_cases e : p = f + r
  · rw [if_pos e, if_neg (by omega), if_pos (by omega), if_pos e]
  · rw [if_neg e]
    by_cases e2 : p = r
    · rw [if_pos e2, if_pos e2]
    · rw [if_neg e2, if_neg e2]
      by_cases e3 : f ≤ p ∧ p < f + 4
      · rw [if_pos e3, if_pos e3, if_neg e]
      · rw [if_neg e3, if_neg e3, if_neg (by omega)]
theorem writes_row {x : Nat → Int32} {f r : Nat} {v : Int32} (hf : 100 ≤ f ∧ f + 4 ≤ 116) (hr : r < 4) : u1 (u1 (u1 (zap (zap x f 4) (f + 16) 4) r (x r + 1)) (f + r) (x r + 1)) (f + 16 + r) v = newN x f r v 4 := by
  funext p; unfold u1 newN zap
  by_cases e : p = f + 16 + r
  · rw [if_pos e, if_neg (by omega), if_neg (by omega), if_pos (by omega), if_pos e]
  · rw [if_neg e]
    by_cases e1 : p = f + r
    · rw [if_pos e1, if_neg (by omega), if_pos (by omega), if_pos e1]
    · rw [if_neg e1]
      by_cases e2 : p = r
      · rw [if_pos e2, if_pos e2]
      · rw [if_neg e2, if_neg e2]
        by_cases e3 : f ≤ p ∧ p < f + 4
        · rw [if_neg (by omega), if_pos e3, if_pos e3, if_neg e1]
        · rw [if_neg e3, if_neg e3]
          by_cases e4 : f + 16 ≤ p ∧ p < f + 16 + 4
          · rw [if_pos e4, if_pos (by omega), if_neg e]
          · rw [if_neg e4, if_neg (by omega)]
theorem zap2_step {x : Nat → Int32} {f k : Nat} (hk : k < 4) : u1 (u1 (zap (zap x f k) (f + 16) k) (f + k) (nI 0)) (f + 16 + k) (nI 0) = zap (zap x f (k + 1)) (f + 16) (k + 1) := by
  funext p; unfold u1 zap
  by_cases e : p = f + 16 + k
  · rw [if_pos e, if_pos (by omega)]; rfl
  · rw [if_neg e]
    by_cases e1 : p = f + k
    · rw [if_pos e1, if_neg (by omega), if_pos (by omega)]; rfl
    · rw [if_neg e1]
      by_cases e4 : f + 16 ≤ p ∧ p < f + 16 + k
      · rw [if_pos e4, if_pos (by omega)]
      · rw [if_neg e4]
        by_cases e3 : f ≤ p ∧ p < f + k
        · rw [if_pos e3, if_neg (by omega), if_pos (by omega)]
        · rw [if_neg e3, if_neg (by omega), if_neg (by omega)]
abbrev tagE (a : Nat → Int32) (i : Nat) : Prop := 0 < lve a (36 + 4 * i)
abbrev confE (a : Nat → Int32) (i : Nat) : Prop := 1 < lve a (100 + 4 * i)
end RN
