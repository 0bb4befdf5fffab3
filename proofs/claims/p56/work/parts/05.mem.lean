/-! THE FUNCTIONAL MEMORY: kinds, array lengths, int fields (by field and address), reference fields, int arrays, reference arrays, long arrays, the next address -/
abbrev Mem : Type := (Nat → Nat) × (Nat → Nat) × (Nat → Nat → Int32) × (Nat → Nat → Option Nat) × (Nat → Nat → Int32) × (Nat → Nat → Option Nat) × (Nat → Nat → Int64) × Nat
abbrev mK (M : Mem) : Nat → Nat := M.1
abbrev mN (M : Mem) : Nat → Nat := M.2.1
abbrev mI (M : Mem) : Nat → Nat → Int32 := M.2.2.1
abbrev mR (M : Mem) : Nat → Nat → Option Nat := M.2.2.2.1
abbrev mA (M : Mem) : Nat → Nat → Int32 := M.2.2.2.2.1
abbrev mB (M : Mem) : Nat → Nat → Option Nat := M.2.2.2.2.2.1
abbrev mL (M : Mem) : Nat → Nat → Int64 := M.2.2.2.2.2.2.1
abbrev mZ (M : Mem) : Nat := M.2.2.2.2.2.2.2
def up2 {α : Type} (f : Nat → Nat → α) (a k : Nat) (v : α) : Nat → Nat → α := fun b j => if b = a ∧ j = k then v else f b j
def setZ (M : Mem) (z : Nat) : Mem := (mK M, mN M, mI M, mR M, mA M, mB M, mL M, z)
def gI (k f a : Nat) (M : Mem) : Option Int32 := if mK M a = k then some (mI M f a) else none
def gR (k f a : Nat) (M : Mem) : Option (Option Nat) := if mK M a = k then some (mR M f a) else none
def gRn (k f a : Nat) (M : Mem) : Option Nat := if mK M a = k then mR M f a else none
def sI (k f a : Nat) (v : Int32) (M : Mem) : Option Mem := if mK M a = k then some (mK M, mN M, up2 (mI M) f a v, mR M, mA M, mB M, mL M, mZ M) else none
def sR (k f a : Nat) (v : Option Nat) (M : Mem) : Option Mem := if mK M a = k then some (mK M, mN M, mI M, up2 (mR M) f a v, mA M, mB M, mL M, mZ M) else none
def nar (k : Nat) (v : Int32) : Int32 := if k = 7 then vp_nar .byte v else if k = 8 then vp_nar .char v else v
def gA (k a : Nat) (i : Int32) (M : Mem) : Option Int32 := if mK M a = k ∧ ¬ (i < 0 ∨ mN M a ≤ i.toNatClampNeg) then some (mA M a i.toNatClampNeg) else none
def sA (k a : Nat) (i v : Int32) (M : Mem) : Option Mem := if mK M a = k ∧ ¬ (i < 0 ∨ mN M a ≤ i.toNatClampNeg) then some (mK M, mN M, mI M, mR M, up2 (mA M) a i.toNatClampNeg (nar k v), mB M, mL M, mZ M) else none
def gB (k a : Nat) (i : Int32) (M : Mem) : Option (Option Nat) := if mK M a = k ∧ ¬ (i < 0 ∨ mN M a ≤ i.toNatClampNeg) then some (mB M a i.toNatClampNeg) else none
def gBn (k a : Nat) (i : Int32) (M : Mem) : Option Nat := if mK M a = k ∧ ¬ (i < 0 ∨ mN M a ≤ i.toNatClampNeg) then mB M a i.toNatClampNeg else none
def sBn (k kv a : Nat) (i : Int32) (v : Nat) (M : Mem) : Option Mem := if mK M a = k ∧ mK M v = kv ∧ ¬ (i < 0 ∨ mN M a ≤ i.toNatClampNeg) then some (mK M, mN M, mI M, mR M, mA M, up2 (mB M) a i.toNatClampNeg (some v), mL M, mZ M) else none
def sB0 (k a : Nat) (i : Int32) (M : Mem) : Option Mem := if mK M a = k ∧ ¬ (i < 0 ∨ mN M a ≤ i.toNatClampNeg) then some (mK M, mN M, mI M, mR M, mA M, up2 (mB M) a i.toNatClampNeg none, mL M, mZ M) else none
def gL (a : Nat) (i : Int32) (M : Mem) : Option Int64 := if mK M a = 12 ∧ ¬ (i < 0 ∨ mN M a ≤ i.toNatClampNeg) then some (mL M a i.toNatClampNeg) else none
def sL (a : Nat) (i : Int32) (v : Int64) (M : Mem) : Option Mem := if mK M a = 12 ∧ ¬ (i < 0 ∨ mN M a ≤ i.toNatClampNeg) then some (mK M, mN M, mI M, mR M, mA M, mB M, up2 (mL M) a i.toNatClampNeg v, mZ M) else none
def newO (k : Nat) (M : Mem) : Mem := (va_up (mK M) (mZ M) k, mN M, (fun f b => if b = mZ M then 0 else mI M f b), (fun f b => if b = mZ M then none else mR M f b), mA M, mB M, mL M, mZ M + 1)
def newA (k n : Nat) (M : Mem) : Mem := (va_up (mK M) (mZ M) k, va_up (mN M) (mZ M) n, mI M, mR M, va_up (mA M) (mZ M) (fun _ => 0), va_up (mB M) (mZ M) (fun _ => none), va_up (mL M) (mZ M) (fun _ => 0), mZ M + 1)
/-- System.arraycopy over int arrays -/
def cpA (src : Nat) (sp : Int32) (dst : Nat) (dp n : Int32) (M : Mem) : Option Mem := if (mK M src = 9 ∧ mK M dst = 9) ∧ (¬ sp < 0 ∧ ¬ dp < 0 ∧ ¬ n < 0) ∧ sp.toNatClampNeg + n.toNatClampNeg ≤ mN M src ∧ dp.toNatClampNeg + n.toNatClampNeg ≤ mN M dst then some (mK M, mN M, mI M, mR M, va_up (mA M) dst (va_cpy (mA M src) (mA M dst) sp.toNatClampNeg dp.toNatClampNeg n.toNatClampNeg), mB M, mL M, mZ M) else none
/-- System.arraycopy over byte arrays -/
def cpB (src : Nat) (sp : Int32) (dst : Nat) (dp n : Int32) (M : Mem) : Option Mem := if (mK M src = 7 ∧ mK M dst = 7) ∧ (¬ sp < 0 ∧ ¬ dp < 0 ∧ ¬ n < 0) ∧ (sp.toNatClampNeg + n.toNatClampNeg ≤ mN M src ∧ dp.toNatClampNeg + n.toNatClampNeg ≤ mN M dst) ∧ (∀ j, j < n.toNatClampNeg → fits .byte (.int (mA M src (sp.toNatClampNeg + j))) = true) then some (mK M, mN M, mI M, mR M, va_up (mA M) dst (va_cpy (mA M src) (mA M dst) sp.toNatClampNeg dp.toNatClampNeg n.toNatClampNeg), mB M, mL M, mZ M) else none
/-- a loop: its body goes on with a new state, or ends -/
def loopM {S X : Type} (body : S → Option (S ⊕ X)) : Nat → S → Option X
  | 0, _ => none
  | n + 1, s => match body s with
    | none => none
    | some (.inl s') => loopM body n s'
    | some (.inr x) => some x
theorem loopM_ind {S X : Type} {body : S → Option (S ⊕ X)} {x0 : X} {Wd : S → Prop} (hb : ∀ (s : S) (y : S ⊕ X), body s = some y → ((∀ s', y = .inl s' → Wd s') ∧ ∀ x, y = .inr x → x = x0) → Wd s) : ∀ (n : Nat) (s : S), loopM body n s = some x0 → Wd s := by
  intro n
  induction n with
  | zero => intro s h; cases h
  | succ n ih =>
    intro s h
    unfold loopM at h
    cases hs : body s with
    | none => rw [hs] at h; cases h
    | some y =>
      rw [hs] at h
      refine hb s y hs ⟨fun s' e => ?_, fun x e => ?_⟩
      · subst e; exact ih s' h
      · subst e; exact Option.some.inj h
def bn {α β γ : Type} (o : Option (α × β)) (g : α → β → Option γ) : Option γ := match o with
  | none => none
  | some q => g q.1 q.2
/-- a call that may throw: k is what the caller does with the exception -/
def bx {α β γ : Type} (o : Option ((α ⊕ Nat) × β)) (k : Nat → β → Option γ) (g : α → β → Option γ) : Option γ := match o with
  | none => none
  | some (.inl v, M) => g v M
  | some (.inr e, M) => k e M
theorem ob {α γ : Type} {o : Option α} {g : α → Option γ} {y : γ} (h : o.bind g = some y) : ∃ a, o = some a ∧ g a = some y := by
  cases o with
  | none => cases h
  | some a => exact ⟨a, rfl, h⟩
theorem ob2 {α β γ : Type} {o : Option (α × β)} {g : α → β → Option γ} {y : γ} (h : bn o g = some y) : ∃ a b, o = some (a, b) ∧ g a b = some y := by
  cases o with
  | none => cases h
  | some q => exact ⟨q.1, q.2, rfl, h⟩
theorem obx {α β γ : Type} {o : Option ((α ⊕ Nat) × β)} {k : Nat → β → Option γ} {g : α → β → Option γ} {y : γ} (h : bx o k g = some y) : (∃ v M, o = some (.inl v, M) ∧ g v M = some y) ∨ ∃ e M, o = some (.inr e, M) ∧ k e M = some y := by
  cases o with
  | none => cases h
  | some q =>
    obtain ⟨r, M⟩ := q
    cases r with
    | inl v => exact Or.inl ⟨v, M, rfl, h⟩
    | inr e => exact Or.inr ⟨e, M, rfl, h⟩
theorem ifp {α : Type} {c : Prop} {i : Decidable c} {a b : Option α} {y : α} (hc : c) (h : (@ite _ c i a b) = some y) : a = some y := by rwa [if_pos hc] at h
theorem ifn {α : Type} {c : Prop} {i : Decidable c} {a b : Option α} {y : α} (hc : ¬ c) (h : (@ite _ c i a b) = some y) : b = some y := by rwa [if_neg hc] at h
theorem ifg {α : Type} {c : Prop} {i : Decidable c} {a : Option α} {y : α} (h : (@ite _ c i a none) = some y) : c ∧ a = some y := by
  by_cases hc : c
  · rw [if_pos hc] at h; exact ⟨hc, h⟩
  · rw [if_neg hc] at h; cases h
theorem ifs {α : Type} {c : Prop} {i : Decidable c} {a : α} {y : α} (h : (@ite _ c i (some a) none) = some y) : c ∧ y = a := by
  by_cases hc : c
  · rw [if_pos hc] at h; exact ⟨hc, (Option.some.inj h).symm⟩
  · rw [if_neg hc] at h; cases h

/-- the cell at an address, by its kind -/
def mm_e (cy : Nat → ClassId) (M : Mem) (a : Nat) : va_E := match mK M a with
  | 1 => .inr (0, [va_rf (mR M 0 a), .int (mI M 1 a), .int (mI M 2 a)])
  | 2 => .inr (1, [va_rf (mR M 32 a), .int (mI M 33 a), va_rf (mR M 34 a), .int (mI M 35 a), .int (mI M 36 a), .int (mI M 37 a), .int (mI M 38 a), .int (mI M 39 a)])
  | 3 => .inr (2, [va_rf (mR M 64 a)])
  | 4 => .inr (3, [.int (mI M 96 a), .int (mI M 97 a), .int (mI M 98 a), .int (mI M 99 a), va_rf (mR M 100 a), va_rf (mR M 101 a), va_rf (mR M 102 a)])
  | 5 => .inr (4, [va_rf (mR M 128 a), .int (mI M 129 a), .int (mI M 130 a), .int (mI M 131 a), va_rf (mR M 132 a), .int (mI M 133 a), va_rf (mR M 134 a), va_rf (mR M 135 a), va_rf (mR M 136 a), va_rf (mR M 137 a), va_rf (mR M 138 a), va_rf (mR M 139 a)])
  | 6 => .inr (5, [va_rf (mR M 160 a), .int (mI M 161 a), .int (mI M 162 a), .int (mI M 163 a)])
  | 12 => .inr (6, [va_rf (mR M 192 a), .int (mI M 193 a), .int (mI M 194 a), .int (mI M 195 a)])
  | 8 => .inl (cy 8, mN M a, .inl (mA M a))
  | 9 => .inl (cy 9, mN M a, .inl (mA M a))
  | 10 => .inl (cy 10, mN M a, .inr (.inr (.inr (.inr (mB M a)))))
  | 11 => .inl (cy 11, mN M a, .inr (.inr (.inr (.inr (mB M a)))))
  | _ => .inl (cy 7, mN M a, .inl (mA M a))
theorem mm_e1 {cy : Nat → ClassId} {M : Mem} {a : Nat} (h : mK M a = 1) : mm_e cy M a = .inr (0, [va_rf (mR M 0 a), .int (mI M 1 a), .int (mI M 2 a)]) := by unfold mm_e; rw [h]; rfl
theorem mm_e2 {cy : Nat → ClassId} {M : Mem} {a : Nat} (h : mK M a = 2) : mm_e cy M a = .inr (1, [va_rf (mR M 32 a), .int (mI M 33 a), va_rf (mR M 34 a), .int (mI M 35 a), .int (mI M 36 a), .int (mI M 37 a), .int (mI M 38 a), .int (mI M 39 a)]) := by unfold mm_e; rw [h]; rfl
theorem mm_e3 {cy : Nat → ClassId} {M : Mem} {a : Nat} (h : mK M a = 3) : mm_e cy M a = .inr (2, [va_rf (mR M 64 a)]) := by unfold mm_e; rw [h]; rfl
theorem mm_e4 {cy : Nat → ClassId} {M : Mem} {a : Nat} (h : mK M a = 4) : mm_e cy M a = .inr (3, [.int (mI M 96 a), .int (mI M 97 a), .int (mI M 98 a), .int (mI M 99 a), va_rf (mR M 100 a), va_rf (mR M 101 a), va_rf (mR M 102 a)]) := by unfold mm_e; rw [h]; rfl
theorem mm_e5 {cy : Nat → ClassId} {M : Mem} {a : Nat} (h : mK M a = 5) : mm_e cy M a = .inr (4, [va_rf (mR M 128 a), .int (mI M 129 a), .int (mI M 130 a), .int (mI M 131 a), va_rf (mR M 132 a), .int (mI M 133 a), va_rf (mR M 134 a), va_rf (mR M 135 a), va_rf (mR M 136 a), va_rf (mR M 137 a), va_rf (mR M 138 a), va_rf (mR M 139 a)]) := by unfold mm_e; rw [h]; rfl
theorem mm_e6 {cy : Nat → ClassId} {M : Mem} {a : Nat} (h : mK M a = 6) : mm_e cy M a = .inr (5, [va_rf (mR M 160 a), .int (mI M 161 a), .int (mI M 162 a), .int (mI M 163 a)]) := by unfold mm_e; rw [h]; rfl
theorem mm_e12 {cy : Nat → ClassId} {M : Mem} {a : Nat} (h : mK M a = 12) : mm_e cy M a = .inr (6, [va_rf (mR M 192 a), .int (mI M 193 a), .int (mI M 194 a), .int (mI M 195 a)]) := by unfold mm_e; rw [h]; rfl
theorem mm_e7 {cy : Nat → ClassId} {M : Mem} {a : Nat} (h : mK M a = 7) : mm_e cy M a = .inl (cy 7, mN M a, .inl (mA M a)) := by unfold mm_e; rw [h]; rfl
theorem mm_e8 {cy : Nat → ClassId} {M : Mem} {a : Nat} (h : mK M a = 8) : mm_e cy M a = .inl (cy 8, mN M a, .inl (mA M a)) := by unfold mm_e; rw [h]; rfl
theorem mm_e9 {cy : Nat → ClassId} {M : Mem} {a : Nat} (h : mK M a = 9) : mm_e cy M a = .inl (cy 9, mN M a, .inl (mA M a)) := by unfold mm_e; rw [h]; rfl
theorem mm_e10 {cy : Nat → ClassId} {M : Mem} {a : Nat} (h : mK M a = 10) : mm_e cy M a = .inl (cy 10, mN M a, .inr (.inr (.inr (.inr (mB M a))))) := by unfold mm_e; rw [h]; rfl
theorem mm_e11 {cy : Nat → ClassId} {M : Mem} {a : Nat} (h : mK M a = 11) : mm_e cy M a = .inl (cy 11, mN M a, .inr (.inr (.inr (.inr (mB M a))))) := by unfold mm_e; rw [h]; rfl
/-- two memories that agree at b say the same of it -/
theorem mm_eq {cy : Nat → ClassId} {M M' : Mem} {b : Nat} (h0 : mK M' b = mK M b) (h1 : mN M' b = mN M b) (h2 : ∀ f, mI M' f b = mI M f b) (h3 : ∀ f, mR M' f b = mR M f b) (h4 : mA M' b = mA M b) (h5 : mB M' b = mB M b) (h6 : mL M' b = mL M b) : mm_e cy M' b = mm_e cy M b := by
  unfold mm_e
  rw [h0, h1, h4, h5]
  simp only [h2, h3]
abbrev vtys (cy : Nat → ClassId) : List (ClassId × FieldType) := [(cy 7, .byte), (cy 8, .char), (cy 9, .int), (cy 10, .object "OfflineNotes$State"), (cy 11, .object "OfflineNotes$World")]
def Mok (D : va_G) (cy : Nat → ClassId) (b0 : Nat) (M : Mem) (H : Heap) : Prop := H.size = mZ M ∧ ∀ a, mK M a ≠ 0 → b0 ≤ a ∧ va_at D vwCl (a, mm_e cy M a) H
section MOK
variable {D : va_G} {cy : Nat → ClassId} {b0 : Nat} {M M' : Mem} {H H1 : Heap} {a k : Nat}
theorem Mok.at (h : Mok D cy b0 M H) (hk : mK M a = k) (h0 : k ≠ 0) : va_at D vwCl (a, mm_e cy M a) H := (h.2 a (by rw [hk]; exact h0)).2
theorem Mok.P (h : Mok D cy b0 M H) (hk : mK M a = k) (h0 : k ≠ 0) {e : va_E} (he : mm_e cy M a = e) : va_P D vwCl [(a, e)] H := by
  intro j q hj
  have hz : j < 1 := (List.getElem?_eq_some_iff.mp hj).1
  rw [show j = 0 by omega] at hj
  cases hj
  rw [← he]
  exact h.at hk h0
theorem Mok.lo (h : Mok D cy b0 M H) (hk : mK M a = k) (h0 : k ≠ 0) : b0 ≤ a := (h.2 a (by rw [hk]; exact h0)).1
theorem Mok.lt (h : Mok D cy b0 M H) (hk : mK M a = k) (h0 : k ≠ 0) : a < mZ M := by
  rw [← h.1]
  exact (h.at hk h0).lt
theorem Mok.set (h : Mok D cy b0 M H) (hk : mK M a = k) (h0 : k ≠ 0) (z : H1.size = H.size) (oq : ∀ q, q ≠ a → H1[q]? = H[q]?) (hK : mK M' = mK M) (hZ : mZ M' = mZ M) (he : ∀ b, b ≠ a → mm_e cy M' b = mm_e cy M b) (hn : va_at D vwCl (a, mm_e cy M' a) H1) : Mok D cy b0 M' H1 := by
  refine ⟨by rw [z, h.1, hZ], fun b hb => ?_⟩
  rw [hK] at hb
  refine ⟨(h.2 b hb).1, ?_⟩
  by_cases e : b = a
  · rw [e]; exact hn
  · rw [he b e]
    exact (h.2 b hb).2.kept (oq b e)
theorem Mok.new (h : Mok D cy b0 M H) (hb : b0 ≤ mZ M) (z : H1.size = H.size + 1) (oq : ∀ q, q < H.size → H1[q]? = H[q]?) (hK : ∀ b, b ≠ mZ M → mK M' b = mK M b) (hZ : mZ M' = mZ M + 1) (he : ∀ b, b ≠ mZ M → mm_e cy M' b = mm_e cy M b) (hn : va_at D vwCl (mZ M, mm_e cy M' (mZ M)) H1) : Mok D cy b0 M' H1 := by
  refine ⟨by rw [z, h.1, hZ], fun b hb2 => ?_⟩
  by_cases e : b = mZ M
  · rw [e]; exact ⟨hb, hn⟩
  · rw [hK b e] at hb2
    rw [he b e]
    exact ⟨(h.2 b hb2).1, (h.2 b hb2).2.kept (oq b ((h.2 b hb2).2.lt))⟩
/-- the heap grew behind the memory: the next address moves -/
theorem Mok.grow (h : Mok D cy b0 M H) (z : H.size ≤ H1.size) (oq : ∀ q, q < H.size → H1[q]? = H[q]?) : Mok D cy b0 (setZ M H1.size) H1 := by
  refine ⟨rfl, fun b hb => ⟨(h.2 b hb).1, ?_⟩⟩
  have : mm_e cy (setZ M H1.size) b = mm_e cy M b := mm_eq rfl rfl (fun _ => rfl) (fun _ => rfl) rfl rfl rfl
  rw [this]
  exact (h.2 b hb).2.kept (oq b ((h.2 b hb).2.lt))
end MOK
theorem up2_ne1 {α : Type} {f : Nat → Nat → α} {a k b j : Nat} {v : α} (h : b ≠ a) : up2 f a k v b j = f b j := by unfold up2; rw [if_neg (fun q => h q.1)]
theorem up2_ne2 {α : Type} {f : Nat → Nat → α} {a k b j : Nat} {v : α} (h : j ≠ k) : up2 f a k v b j = f b j := by unfold up2; rw [if_neg (fun q => h q.2)]
theorem up2_eq {α : Type} {f : Nat → Nat → α} {a k : Nat} {v : α} : up2 f a k v a k = v := by unfold up2; rw [if_pos ⟨rfl, rfl⟩]

theorem inG0 : ∀ w ∈ u_ws RX0 TX0 3, w ∈ lw_G := by decide +kernel
theorem inG1 : ∀ w ∈ u_ws RX1 TX1 8, w ∈ lw_G := by decide +kernel
theorem inG2 : ∀ w ∈ u_ws RX2 TX2 1, w ∈ lw_G := by decide +kernel
theorem inG3 : ∀ w ∈ u_ws RX3 TX3 7, w ∈ lw_G := by decide +kernel
theorem inG4 : ∀ w ∈ u_ws RX4 TX4 12, w ∈ lw_G := by decide +kernel
theorem inG5 : ∀ w ∈ u_ws RJ0 TJ0 4, w ∈ lw_G := by decide +kernel
theorem inG6 : ∀ w ∈ u_ws RJ4 TJ4 4, w ∈ lw_G := by decide +kernel
theorem loopM_indF {S X : Type} {body : S → Option (S ⊕ X)} {x0 : X} {Wd : Nat → S → Prop} (hb : ∀ (n : Nat) (s : S) (y : S ⊕ X), body s = some y → ((∀ s', y = .inl s' → Wd n s') ∧ ∀ x, y = .inr x → x = x0) → Wd (n + 1) s) : ∀ (n : Nat) (s : S), loopM body n s = some x0 → Wd n s := by
  intro n
  induction n with
  | zero => intro s h; cases h
  | succ n ih =>
    intro s h
    unfold loopM at h
    cases hs : body s with
    | none => rw [hs] at h; cases h
    | some y =>
      rw [hs] at h
      refine hb n s y hs ⟨fun s' e => ?_, fun x e => ?_⟩
      · subst e; exact ih s' h
      · subst e; exact Option.some.inj h
