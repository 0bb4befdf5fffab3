/-! WHAT HOLDS BETWEEN THE CALLS, ALL OF IT; THE LAW'S CASES BY THEIR SHAPES -/
def Cnt (g : Nat → Int32) (R C Q m : Nat) : Prop := g 0 = nI R ∧ g 1 = nI C ∧ g 2 = nI Q ∧ g 3 = nI m ∧ 1 ≤ R ∧ R ≤ 4 ∧ C ≤ 4 ∧ Q ≤ 4 ∧ m ≤ 6
theorem Cnt.m {g : Nat → Int32} {R C Q m : Nat} (h : Cnt g R C Q m) : mcn g = m := by unfold mcn; rw [h.2.2.2.1, nI_cl (by have := h.2.2.2.2.2.2.2.2; omega)]
def Wf (k : Nat) (g : Nat → Int32) : Prop := (∃ R C Q m, Cnt g R C Q m) ∧ ∀ t, t < 10 → t < 4 + mcn g → WFr k (row g t)
theorem Wf.congr {k : Nat} {g g' : Nat → Int32} (h : Wf k g) (e : ∀ q, q < 1330 → g' q = g q) : Wf k g' := by
  obtain ⟨⟨R, C, Q, m, c⟩, h2⟩ := h
  have em : mcn g' = mcn g := by unfold mcn; rw [e 3 (by omega)]
  refine ⟨⟨R, C, Q, m, by rw [e 0 (by omega)]; exact c.1, by rw [e 1 (by omega)]; exact c.2.1, by rw [e 2 (by omega)]; exact c.2.2.1, by rw [e 3 (by omega)]; exact c.2.2.2.1, c.2.2.2.2⟩, fun t ht hv => ?_⟩
  rw [em] at hv
  exact (h2 t ht hv).congr (fun i hi => e _ (by rw [bs_eq]; omega))
theorem Wf.mono {k l : Nat} {g : Nat → Int32} (h : Wf k g) (hl : k ≤ l) : Wf l g := ⟨h.1, fun t ht hv => (h.2 t ht hv).mono hl⟩
/-- the class has only tried something -/
def CSim (x : Nat) (M M' : Mem) : Prop := ∃ f1 f2, M' = wA (wA M (x + 31) f1) (x + 33) f2
theorem CSim.refl {x : Nat} {M : Mem} : CSim x M M := ⟨mA M (x + 31), mA M (x + 33), by rw [wA_id, wA_id]⟩
theorem CSim.one {x : Nat} {M : Mem} {f : Nat → Int32} : CSim x M (wA M (x + 31) f) := ⟨f, mA M (x + 33), by
  have : mA (wA M (x + 31) f) (x + 33) = mA M (x + 33) := mA_ne (by omega)
  rw [← this, wA_id]⟩
theorem CSim.trans {x : Nat} {M M' M2 : Mem} (h : CSim x M M') (k : CSim x M' M2) : CSim x M M2 := by
  obtain ⟨a, b, rfl⟩ := h
  obtain ⟨c, d, rfl⟩ := k
  refine ⟨c, d, ?_⟩
  rw [wA_comm (a := x + 33) (b := x + 31) (by omega), wA_again, wA_again]
theorem CSim.keep {x : Nat} {M M' : Mem} (h : CSim x M M') : Keep x M M' := by
  obtain ⟨a, b, rfl⟩ := h
  exact ⟨rfl, rfl, rfl, rfl, fun a h1 h2 _ _ _ => by rw [mA_ne h2, mA_ne h1], fun f a _ _ => rfl⟩
theorem Fix.kp {x : Nat} {M M' : Mem} (h : Fix x M) (k : Keep x M M') : Fix x M' := h.same (fun i _ => ⟨by rw [k.1], by rw [k.2.1]⟩) (fun f i _ _ _ => by rw [k.2.2.1])
theorem lg_cmp0 (v : Int64) : lg_cmp v v = 0 := (lg_cmp_eq v v).mpr rfl
section LW
variable {n x : Nat} {M : Mem}
end LW
