/-! THE REFERENCE'S MERGE -/
def surv (a b : Nat → Int32) (i : Nat) : Int32 := if a (i % 4) < b i then b i else if a i = b i ∨ b (i % 4) < a i then a i else 0
/-- a row that has taken in another, as the reference has it -/
def absR (a b : Nat → Int32) : Nat → Int32 := fun i => if i < 36 then (if b i ≤ a i then a i else b i) else if i < 116 then surv a b i else if surv a b (i - 16) = 0 then 0 else if surv a b (i - 16) = a (i - 16) then a i else b i
def mg (g : Nat → Int32) (t u : Nat) (P : Nat → Prop) [DecidablePred P] : Nat → Int32 := put g t (fun p => if P p then absR (row g t) (row g u) p else row g t p)
theorem mg_rd {g : Nat → Int32} {t u s i : Nat} {P : Nat → Prop} [DecidablePred P] (hi : i < 132) (h : ¬ P i) : mg g t u P (bs s + i) = row g s i := by
  unfold mg
  by_cases q : s = t
  · subst q; rw [put_at hi, if_neg h]
  · rw [put_ne hi q]; rfl
theorem mg_congr {g : Nat → Int32} {t u : Nat} {P Q : Nat → Prop} [DecidablePred P] [DecidablePred Q] (h : ∀ i, i < 132 → (P i ↔ Q i)) : mg g t u P = mg g t u Q := by
  unfold mg
  refine put_congr (fun i hi => ?_)
  by_cases q : P i
  · rw [if_pos q, if_pos ((h i hi).mp q)]
  · rw [if_neg q, if_neg (fun e => q ((h i hi).mpr e))]
theorem mg_wr {g : Nat → Int32} {t u i : Nat} {P : Nat → Prop} [DecidablePred P] {v : Int32} (hi : i < 132) (h : v = absR (row g t) (row g u) i) : u1 (mg g t u P) (bs t + i) v = mg g t u (fun p => P p ∨ p = i) := by
  unfold mg
  rw [u1_put hi]
  refine put_congr (fun j hj => ?_)
  unfold u1; dsimp only
  by_cases q : j = i
  · subst q; rw [if_pos rfl, if_pos (Or.inr rfl), h]
  · rw [if_neg q]
    by_cases q2 : P j
    · rw [if_pos q2, if_pos (Or.inl q2)]
    · rw [if_neg q2, if_neg (fun e => e.elim q2 q)]
theorem mg_sk {g : Nat → Int32} {t u i : Nat} {P : Nat → Prop} [DecidablePred P] (hi : i < 132) (h : row g t i = absR (row g t) (row g u) i) : mg g t u P = mg g t u (fun p => P p ∨ p = i) := by
  unfold mg
  refine put_congr (fun j hj => ?_)
  by_cases q2 : P j
  · rw [if_pos q2, if_pos (Or.inl q2)]
  · rw [if_neg q2]
    by_cases q : j = i
    · subst q; rw [if_pos (Or.inr rfl), h]
    · rw [if_neg (fun e => e.elim q2 q)]
theorem mg_no {g : Nat → Int32} {t u : Nat} {P : Nat → Prop} [DecidablePred P] (h : ∀ i, i < 132 → ¬ P i) : mg g t u P = g := by
  unfold mg
  rw [put_congr (b := row g t) (fun i hi => if_neg (h i hi)), put_row]
theorem mg_all {g : Nat → Int32} {t u : Nat} {P : Nat → Prop} [DecidablePred P] (h : ∀ i, i < 132 → P i) : mg g t u P = put g t (absR (row g t) (row g u)) := put_congr (fun i hi => if_pos (h i hi))
section RM
variable {M : Mem} {m w : Nat} {g : Nat → Int32} {t u : Nat}
abbrev mP0 (k : Nat) (p : Nat) : Prop := 4 ≤ p ∧ p % 4 < k
abbrev mP1 (k c : Nat) (p : Nat) : Prop := mP0 k p ∨ (p % 4 = k ∧ (4 ≤ p ∧ p < 4 + 4 * c ∨ 20 ≤ p ∧ p < 20 + 4 * c))
abbrev mP2 (k c : Nat) (p : Nat) : Prop := mP0 k p ∨ (p % 4 = k ∧ 4 ≤ p ∧ p < 36 + 4 * c)
abbrev mP3 (k c : Nat) (p : Nat) : Prop := mP0 k p ∨ (p % 4 = k ∧ (4 ≤ p ∧ p < 100 + 4 * c ∨ 116 ≤ p ∧ p < 116 + 4 * c))
abbrev mP4 (c : Nat) (p : Nat) : Prop := 4 ≤ p ∨ p < c
end RM
