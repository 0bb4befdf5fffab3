/-! WHAT A TEXT SAYS: an error and its place, or what the reference holds in the end; a cursor is the last token's type and end -/
abbrev ER : Type := Int32 × Nat
abbrev Cur : Type := Int32 × Nat
abbrev GF : Type := Nat → Int32
def sb {α β : Type} (o : ER ⊕ α) (f : α → ER ⊕ β) : ER ⊕ β := match o with
  | .inl e => .inl e
  | .inr v => f v
theorem sb_inr {α β : Type} {o : ER ⊕ α} {f : α → ER ⊕ β} {y : β} (h : sb o f = .inr y) : ∃ v, o = .inr v ∧ f v = .inr y := by
  cases o with
  | inl e => cases h
  | inr v => exact ⟨v, rfl, h⟩
noncomputable def cif {α : Type} (P : Prop) (a b : α) : α := @ite α P (Classical.propDecidable P) a b
theorem cif_t {α : Type} {P : Prop} {a b : α} (h : P) : cif P a b = a := if_pos h
theorem cif_f {α : Type} {P : Prop} {a b : α} (h : ¬ P) : cif P a b = b := if_neg h
def nuV (c : GF) (s : Nat) : Nat → Int32
  | 0 => 0
  | n + 1 => (nuV c s n * 10 + c (s + n)) - 48
noncomputable def uT (c : GF) (L : Nat) (q : Cur) : Int32 := nT c L q.1 q.2
noncomputable def uS (c : GF) (L : Nat) (q : Cur) : Nat := nS c L q.2
noncomputable def uE (c : GF) (L : Nat) (q : Cur) : Nat := nE c L q.2
noncomputable def uN (c : GF) (L : Nat) (q : Cur) : Cur := (uT c L q, uE c L q)
noncomputable def uV (c : GF) (L : Nat) (q : Cur) : Int32 := nuV c (uS c L q) (uE c L q - uS c L q)
noncomputable def numR (c : GF) (L : Nat) (q : Cur) (lo hi : Int32) : ER ⊕ Int32 := cif (uT c L q = 2) (cif (lo ≤ uV c L q ∧ uV c L q ≤ hi) (.inr (uV c L q)) (.inl (2, uS c L q))) (.inl (1, uS c L q))
noncomputable def tagR (c : GF) (L : Nat) (q : Cur) : ER ⊕ Int32 := cif (uT c L q = 1 ∧ uE c L q - uS c L q = 1 ∧ c (uS c L q) < 113) (.inr (c (uS c L q) - 97)) (.inl (1, uS c L q))
def isW (c : GF) (L : Nat) (w : Nat) (q : Cur) : Prop := uT c L q = 1 ∧ uE c L q - uS c L q = sLEN.getD w 0 ∧ ∀ i, i < sLEN.getD w 0 → c (uS c L q + i) = jByt w i
abbrev tn (v : Int32) : Nat := v.toNatClampNeg
def cntG (g : GF) (part r k : Nat) (a : Int32) : GF := put g r (u1 (row g r) (part + (4 * k + r)) (row g r (part + (4 * k + r)) + a))
noncomputable def lCnt (c : GF) (L : Nat) (part : Nat) (g : GF) (q : Cur) : ER ⊕ (GF × Cur) := sb (numR c L q 0 (g 0 - 1)) fun r => sb (numR c L (uN c L q) 0 (g 1 - 1)) fun k => sb (numR c L (uN c L (uN c L q)) 1 99) fun a => .inr (cntG g part (tn r) (tn k) a, uN c L (uN c L (uN c L q)))
noncomputable def lAdd (c : GF) (L : Nat) (g : GF) (q : Cur) : ER ⊕ (GF × Cur) := sb (numR c L q 0 (g 0 - 1)) fun r => sb (tagR c L (uN c L q)) fun t => .inr (put g (tn r) (newN (row g (tn r)) (36 + 4 * tn t) (tn r) 0 4), uN c L (uN c L q))
noncomputable def lRem (c : GF) (L : Nat) (g : GF) (q : Cur) : ER ⊕ (GF × Cur) := sb (numR c L q 0 (g 0 - 1)) fun r => sb (tagR c L (uN c L q)) fun t => if lve (row g (tn r)) (36 + 4 * tn t) = 0 then .inl (3, uS c L (uN c L q)) else .inr (put g (tn r) (zap (row g (tn r)) (36 + 4 * tn t) 4), uN c L (uN c L q))
noncomputable def lWri (c : GF) (L : Nat) (g : GF) (q : Cur) : ER ⊕ (GF × Cur) := sb (numR c L q 0 (g 0 - 1)) fun r => sb (numR c L (uN c L q) 0 (g 2 - 1)) fun k => sb (numR c L (uN c L (uN c L q)) 0 99) fun a => .inr (put g (tn r) (newN (row g (tn r)) (100 + 4 * tn k) (tn r) a 4), uN c L (uN c L (uN c L q)))
noncomputable def lMer (c : GF) (L : Nat) (g : GF) (q : Cur) : ER ⊕ (GF × Cur) := sb (numR c L q 0 (g 0 - 1)) fun r => sb (numR c L (uN c L q) 0 (g 0 - 1)) fun s => .inr (put g (tn r) (absR (row g (tn r)) (row g (tn s))), uN c L (uN c L q))
noncomputable def lSen (c : GF) (L : Nat) (g : GF) (q : Cur) : ER ⊕ (GF × Cur) := if g 3 = 6 then .inl (4, uS c L q) else sb (numR c L (uN c L q) 0 (g 0 - 1)) fun r => .inr (sendG g (tn r), uN c L (uN c L q))
noncomputable def lDel (c : GF) (L : Nat) (g : GF) (q : Cur) : ER ⊕ (GF × Cur) := sb (numR c L q 0 (g 3 - 1)) fun s => sb (numR c L (uN c L q) 0 (g 0 - 1)) fun r => .inr (put g (tn r) (absR (row g (tn r)) (row g (4 + tn s))), uN c L (uN c L q))
/-- a line, from its word on -/
noncomputable def lineR (c : GF) (L : Nat) (g : GF) (q : Cur) : ER ⊕ (GF × Cur) :=
  cif (isW c L 2 q) (lCnt c L 4 g (uN c L q)) (cif (isW c L 3 q) (lCnt c L 20 g (uN c L q)) (cif (isW c L 4 q) (lAdd c L g (uN c L q)) (cif (isW c L 5 q) (lRem c L g (uN c L q)) (cif (isW c L 6 q) (lWri c L g (uN c L q)) (cif (isW c L 7 q) (lMer c L g (uN c L q)) (cif (isW c L 8 q) (lSen c L g q) (cif (isW c L 9 q) (lDel c L g (uN c L q)) (.inl (1, uS c L q)))))))))
/-- the lines behind the first: at most n of them -/
noncomputable def linesR (c : GF) (L : Nat) : Nat → GF → Cur → ER ⊕ GF
  | 0, g, _ => .inr g
  | n + 1, g, q => cif (uT c L q = 0) (.inr g) (cif (uT c L q = 3) (sb (lineR c L g (uN c L q)) fun y => linesR c L n y.1 y.2) (.inl (1, uS c L q)))
def hdG (z : GF) (a b d : Int32) : GF := fun q => if q = 0 then a else if q = 1 then b else if q = 2 then d else z q
def cur0 : Cur := (0, 0)
noncomputable def headR (c : GF) (L : Nat) (z : GF) : ER ⊕ (GF × Cur) := cif (isW c L 1 cur0) (sb (numR c L (uN c L cur0) 1 4) fun a => sb (numR c L (uN c L (uN c L cur0)) 0 4) fun b => sb (numR c L (uN c L (uN c L (uN c L cur0))) 0 4) fun d => .inr (hdG z a b d, uN c L (uN c L (uN c L (uN c L cur0))))) (.inl (1, uS c L cur0))
noncomputable def textR (c : GF) (L : Nat) (z : GF) : ER ⊕ GF := sb (headR c L z) fun y => linesR c L (L + 1) y.1 y.2
section SP
variable {c : GF} {L : Nat} {q : Cur}
theorem uN_le (h : q.2 ≤ L) : q.2 ≤ uS c L q ∧ uS c L q ≤ (uN c L q).2 ∧ (uN c L q).2 ≤ L := by
  have h1 := nS_le (c := c) h
  have h2 := nE_le (c := c) h
  exact ⟨h1.1, h2.1, h2.2⟩
theorem uT_0 (h : q.2 ≤ L) (hk : uT c L q ≠ 0) : uS c L q < L ∧ uS c L q < (uN c L q).2 := by
  have h1 := nS_le (c := c) h
  have : ¬ L ≤ nS c L q.2 := fun e => hk (by unfold uT nT; rw [if_pos e])
  exact ⟨by show nS c L q.2 < L; omega, (tE_le (c := c) h1.2).2.2 (by omega)⟩
theorem uT_w (hk : uT c L q = 1 ∨ uT c L q = 2) : uS c L q < L ∧ typ (c (uS c L q)) = uT c L q := by
  unfold uT nT at hk ⊢
  by_cases h1 : L ≤ nS c L q.2
  · rw [if_pos h1] at hk; rcases hk with e | e <;> exact absurd e (by decide)
  · rw [if_neg h1] at hk ⊢
    by_cases h2 : ((typ (c (nS c L q.2)) = 1 ∨ typ (c (nS c L q.2)) = 2) ∧ (q.1 = 1 ∨ q.1 = 2) ∧ nS c L q.2 = q.2) ∨ (typ (c (nS c L q.2)) = 2 ∧ 2 < nE c L q.2 - nS c L q.2)
    · rw [if_pos h2] at hk; rcases hk with e | e <;> exact absurd e (by decide)
    · rw [if_neg h2]; exact ⟨by show nS c L q.2 < L; omega, rfl⟩
theorem uT_2 (hk : uT c L q = 2) : uE c L q - uS c L q ≤ 2 := by
  have h0 := (uT_w (Or.inr hk)).2
  rw [hk] at h0
  refine Nat.le_of_not_lt fun h => ?_
  unfold uT nT at hk
  have h1 : ¬ L ≤ nS c L q.2 := fun e => by rw [if_pos e] at hk; exact absurd hk (by decide)
  rw [if_neg h1, if_pos (Or.inr ⟨h0, h⟩)] at hk
  exact absurd hk (by decide)
theorem ext_all (c : GF) (t : Int32) (n : Nat) : ∀ i j, i ≤ j → j < ext c t i n → typ (c j) = t := by
  induction n with
  | zero => intro i j h1 h2; unfold ext at h2; omega
  | succ n ih =>
    intro i j h1 h2
    unfold ext at h2
    by_cases h : typ (c i) = t
    · rw [if_pos h] at h2
      by_cases e : j = i
      · rw [e]; exact h
      · exact ih (i + 1) j (by omega) h2
    · rw [if_neg h] at h2; omega
/-- every letter of a word is one -/
theorem uT_all (hk : uT c L q = 1 ∨ uT c L q = 2) {j : Nat} (h1 : uS c L q ≤ j) (h2 : j < uE c L q) : typ (c j) = uT c L q := by
  obtain ⟨h3, h4⟩ := uT_w hk
  have h5 : ¬ L ≤ nS c L q.2 := by show ¬ L ≤ uS c L q; omega
  have h6 : typ (c (nS c L q.2)) = 1 ∨ typ (c (nS c L q.2)) = 2 := by rw [show typ (c (nS c L q.2)) = uT c L q from h4]; exact hk
  by_cases e : j = uS c L q
  · rw [e]; exact h4
  · unfold uE nE tE at h2
    rw [if_neg h5, if_pos h6] at h2
    rw [← h4]
    exact ext_all c _ _ _ j (by show nS c L q.2 + 1 ≤ j; unfold uS at h1 e; omega) h2
theorem numR_inr {lo hi v : Int32} (h : numR c L q lo hi = .inr v) : uT c L q = 2 ∧ lo ≤ v ∧ v ≤ hi ∧ v = uV c L q := by
  unfold numR at h
  by_cases h1 : uT c L q = 2
  · rw [cif_t h1] at h
    by_cases h2 : lo ≤ uV c L q ∧ uV c L q ≤ hi
    · rw [cif_t h2] at h; cases h; exact ⟨h1, h2.1, h2.2, rfl⟩
    · rw [cif_f h2] at h; cases h
  · rw [cif_f h1] at h; cases h
theorem num_ix {n : Nat} {v : Int32} (hn : n < 2147483648) (h : numR c L q 0 (nI n - 1) = .inr v) : ∃ k, k < n ∧ v = nI k := by
  obtain ⟨_, h1, h2, _⟩ := numR_inr h
  obtain ⟨j, hj, rfl⟩ := nI_of (x := v) (Int32.not_lt.mpr h1)
  refine ⟨j, ?_, rfl⟩
  rw [i32_le, nI_m1 hn, nI_toI (by omega)] at h2
  omega
theorem num_4 {lo n : Nat} {v : Int32} (hn : n < 1000) (hlo : lo < 1000) (h : numR c L q (nI lo) (nI n) = .inr v) : ∃ k, lo ≤ k ∧ k ≤ n ∧ v = nI k := by
  obtain ⟨_, h1, h2, _⟩ := numR_inr h
  have h0 : ¬ v < 0 := by rw [i32_lt, i32_0]; rw [i32_le, nI_toI (by omega)] at h1; omega
  obtain ⟨j, hj, rfl⟩ := nI_of (x := v) h0
  rw [i32_le, nI_toI (by omega), nI_toI (by omega)] at h1 h2
  exact ⟨j, by omega, by omega, rfl⟩
theorem tagR_inr {v : Int32} (h : tagR c L q = .inr v) : (uT c L q = 1 ∧ uE c L q - uS c L q = 1 ∧ c (uS c L q) < 113) ∧ v = c (uS c L q) - 97 := by
  unfold tagR at h
  by_cases h1 : uT c L q = 1 ∧ uE c L q - uS c L q = 1 ∧ c (uS c L q) < 113
  · rw [cif_t h1] at h; cases h; exact ⟨h1, rfl⟩
  · rw [cif_f h1] at h; cases h
theorem typ_1 {v : Int32} (h : typ v = 1) : 97 ≤ v ∧ v ≤ 122 := by
  unfold typ at h
  by_cases h1 : 97 ≤ v ∧ v ≤ 122
  · exact h1
  · rw [if_neg h1] at h
    by_cases h2 : 48 ≤ v ∧ v ≤ 57
    · rw [if_pos h2] at h; exact absurd h (by decide)
    · rw [if_neg h2] at h
      by_cases h3 : v = 59
      · rw [if_pos h3] at h; exact absurd h (by decide)
      · rw [if_neg h3] at h; exact absurd h (by decide)
theorem tag_ix {v : Int32} (h : tagR c L q = .inr v) : ∃ t, t < 16 ∧ v = nI t := by
  obtain ⟨⟨h1, _, h2⟩, rfl⟩ := tagR_inr h
  have h3 := (uT_w (Or.inl h1)).2
  rw [h1] at h3
  have h4 := (typ_1 h3).1
  have e97 : (97 : Int32).toInt = 97 := rfl
  have e113 : (113 : Int32).toInt = 113 := rfl
  rw [i32_le, e97] at h4
  rw [i32_lt, e113] at h2
  obtain ⟨j, hj, e⟩ := nI_of (x := c (uS c L q)) (by rw [i32_lt, i32_0]; omega)
  rw [e, nI_toI (by omega)] at h4 h2
  exact ⟨j - 97, by omega, by rw [e]; exact nI_sub (b := 97) (by omega)⟩
theorem WFr.vals {k r i : Nat} {x : GF} {v : Int32} (h : WFr k x) (hk : k < 100000) (hi : i < 4) (hr : r < 4) (hv : 0 ≤ v.toInt ∧ v.toInt ≤ 99) : WFr (k + 1) (Jvm.Pilot.COfflineNotesLaw_law_r8908_f384f3.newN x (100 + 4 * i) r v 4) := h.newN hk (by omega) (by omega) hr hv
theorem tn_nI {k : Nat} (h : k < 1000) : tn (nI k) = k := nI_cl (by omega)
theorem i99 {lo : Nat} {v : Int32} (hlo : lo < 1000) (h : numR c L q (nI lo) 99 = .inr v) : (lo : Int) ≤ v.toInt ∧ v.toInt ≤ 99 := by
  obtain ⟨k, h1, h2, rfl⟩ := num_4 (n := 99) (by omega) hlo h
  rw [nI_toI (by omega)]; omega
/-- a line that is taken: the counts and rows stay in their bounds, the cursor goes on -/
theorem lineR_wf {k : Nat} {g g' : GF} {q' : Cur} (hw : Wf k g) (hk : k < 100000) (hq : q.2 ≤ L) (h : lineR c L g q = .inr (g', q')) : Wf (k + 1) g' ∧ q.2 ≤ q'.2 ∧ q'.2 ≤ L := by
  have b1 := uN_le (c := c) hq
  have b2 := uN_le (c := c) b1.2.2
  have b3 := uN_le (c := c) b2.2.2
  have b4 := uN_le (c := c) b3.2.2
  obtain ⟨⟨R, C, Q, m, d1, d2, d3, d4, e1, e2, e3, e4, e5⟩, hr⟩ := id hw
  have hm : mcn g = m := by unfold mcn; rw [d4, nI_cl (by omega)]
  rw [hm] at hr
  have cntC : ∀ part, (part = 4 ∨ part = 20) → ∀ {g' q'}, lCnt c L part g (uN c L q) = .inr (g', q') → Wf (k + 1) g' ∧ q.2 ≤ q'.2 ∧ q'.2 ≤ L := fun part hp g' q' h => by
    unfold lCnt at h
    obtain ⟨r, h1, h⟩ := sb_inr h
    obtain ⟨s, h2, h⟩ := sb_inr h
    obtain ⟨a, h3, h⟩ := sb_inr h
    cases h
    rw [d1] at h1; rw [d2] at h2
    obtain ⟨r, hr1, rfl⟩ := num_ix (by omega) h1
    obtain ⟨s, hs1, rfl⟩ := num_ix (by omega) h2
    have ha := i99 (lo := 1) (by omega) h3
    rw [tn_nI (by omega), tn_nI (by omega)]
    refine ⟨hw.put ((hr r (by omega) (by omega)).sum hk (by omega) ha), ?_, b4.2.2⟩
    show q.2 ≤ (uN c L (uN c L (uN c L (uN c L q)))).2
    omega
  unfold lineR at h
  by_cases w2 : isW c L 2 q
  · rw [cif_t w2] at h; exact cntC 4 (Or.inl rfl) h
  rw [cif_f w2] at h
  by_cases w3 : isW c L 3 q
  · rw [cif_t w3] at h; exact cntC 20 (Or.inr rfl) h
  rw [cif_f w3] at h
  by_cases w4 : isW c L 4 q
  · rw [cif_t w4] at h
    unfold lAdd at h
    obtain ⟨r, h1, h⟩ := sb_inr h
    obtain ⟨t, h2, h⟩ := sb_inr h
    cases h
    rw [d1] at h1
    obtain ⟨r, hr1, rfl⟩ := num_ix (by omega) h1
    obtain ⟨t, ht1, rfl⟩ := tag_ix h2
    rw [tn_nI (by omega), tn_nI (by omega)]
    refine ⟨hw.put ((hr r (by omega) (by omega)).newN hk (by omega) (by omega) (by omega) ⟨by decide, by decide⟩), ?_, b3.2.2⟩
    show q.2 ≤ (uN c L (uN c L (uN c L q))).2
    omega
  rw [cif_f w4] at h
  by_cases w5 : isW c L 5 q
  · rw [cif_t w5] at h
    unfold lRem at h
    obtain ⟨r, h1, h⟩ := sb_inr h
    obtain ⟨t, h2, h⟩ := sb_inr h
    rw [d1] at h1
    obtain ⟨r, hr1, rfl⟩ := num_ix (by omega) h1
    obtain ⟨t, ht1, rfl⟩ := tag_ix h2
    rw [tn_nI (by omega), tn_nI (by omega)] at h
    by_cases z : lve (row g r) (36 + 4 * t) = 0
    · rw [if_pos z] at h; cases h
    · rw [if_neg z] at h; cases h
      refine ⟨hw.put (((hr r (by omega) (by omega)).zap (by omega)).mono (by omega)), ?_, b3.2.2⟩
      show q.2 ≤ (uN c L (uN c L (uN c L q))).2
      omega
  rw [cif_f w5] at h
  by_cases w6 : isW c L 6 q
  · rw [cif_t w6] at h
    unfold lWri at h
    obtain ⟨r, h1, h⟩ := sb_inr h
    obtain ⟨s, h2, h⟩ := sb_inr h
    obtain ⟨a, h3, h⟩ := sb_inr h
    cases h
    rw [d1] at h1; rw [d3] at h2
    obtain ⟨r, hr1, rfl⟩ := num_ix (by omega) h1
    obtain ⟨s, hs1, rfl⟩ := num_ix (by omega) h2
    have ha := i99 (lo := 0) (by omega) h3
    rw [tn_nI (by omega), tn_nI (by omega)]
    refine ⟨hw.put ((hr r (by omega) (by omega)).newN hk (by omega) (by omega) (by omega) ha), ?_, b4.2.2⟩
    show q.2 ≤ (uN c L (uN c L (uN c L (uN c L q)))).2
    omega
  rw [cif_f w6] at h
  by_cases w7 : isW c L 7 q
  · rw [cif_t w7] at h
    unfold lMer at h
    obtain ⟨r, h1, h⟩ := sb_inr h
    obtain ⟨s, h2, h⟩ := sb_inr h
    cases h
    rw [d1] at h1 h2
    obtain ⟨r, hr1, rfl⟩ := num_ix (by omega) h1
    obtain ⟨s, hs1, rfl⟩ := num_ix (by omega) h2
    rw [tn_nI (by omega), tn_nI (by omega)]
    refine ⟨hw.put (((hr r (by omega) (by omega)).absR (hr s (by omega) (by omega))).mono (by omega)), ?_, b3.2.2⟩
    show q.2 ≤ (uN c L (uN c L (uN c L q))).2
    omega
  rw [cif_f w7] at h
  by_cases w8 : isW c L 8 q
  · rw [cif_t w8] at h
    unfold lSen at h
    by_cases c6 : g 3 = 6
    · rw [if_pos c6] at h; cases h
    · rw [if_neg c6] at h
      obtain ⟨r, h1, h⟩ := sb_inr h
      cases h
      rw [d1] at h1
      obtain ⟨r, hr1, rfl⟩ := num_ix (by omega) h1
      rw [tn_nI (by omega)]
      have hm6 : m ≠ 6 := fun e => c6 (by rw [d4, e]; rfl)
      refine ⟨hw.send (by omega) (by omega), ?_, b2.2.2⟩
      show q.2 ≤ (uN c L (uN c L q)).2
      omega
  rw [cif_f w8] at h
  by_cases w9 : isW c L 9 q
  · rw [cif_t w9] at h
    unfold lDel at h
    obtain ⟨s, h1, h⟩ := sb_inr h
    obtain ⟨r, h2, h⟩ := sb_inr h
    cases h
    rw [d4] at h1; rw [d1] at h2
    obtain ⟨s, hs1, rfl⟩ := num_ix (by omega) h1
    obtain ⟨r, hr1, rfl⟩ := num_ix (by omega) h2
    rw [tn_nI (by omega), tn_nI (by omega)]
    refine ⟨hw.put (((hr r (by omega) (by omega)).absR (hr (4 + s) (by omega) (by omega))).mono (by omega)), ?_, b3.2.2⟩
    show q.2 ≤ (uN c L (uN c L (uN c L q))).2
    omega
  rw [cif_f w9] at h
  cases h
theorem headR_wf {z g : GF} {q' : Cur} (hz : ∀ q, q < 1330 → z q = 0) (h : headR c L z = .inr (g, q')) : Wf 0 g ∧ q'.2 ≤ L := by
  have b0 : cur0.2 ≤ L := Nat.zero_le _
  have b1 := uN_le (c := c) b0
  have b2 := uN_le (c := c) b1.2.2
  have b3 := uN_le (c := c) b2.2.2
  have b4 := uN_le (c := c) b3.2.2
  unfold headR at h
  by_cases w : isW c L 1 cur0
  · rw [cif_t w] at h
    obtain ⟨a, h1, h⟩ := sb_inr h
    obtain ⟨b, h2, h⟩ := sb_inr h
    obtain ⟨d, h3, h⟩ := sb_inr h
    cases h
    obtain ⟨a, a1, a2, rfl⟩ := num_4 (lo := 1) (n := 4) (by omega) (by omega) h1
    obtain ⟨b, b1', b2', rfl⟩ := num_4 (lo := 0) (n := 4) (by omega) (by omega) h2
    obtain ⟨d, d1, d2, rfl⟩ := num_4 (lo := 0) (n := 4) (by omega) (by omega) h3
    refine ⟨⟨⟨a, b, d, 0, rfl, rfl, rfl, hz 3 (by omega), a1, a2, b2', d2, by omega⟩, fun t ht _ => ?_⟩, b4.2.2⟩
    refine WFr.zero.congr (fun i hi => ?_)
    show hdG z (nI a) (nI b) (nI d) (bs t + i) = 0
    unfold hdG
    rw [bs_eq, if_neg (by omega), if_neg (by omega), if_neg (by omega), hz _ (by omega)]
  · rw [cif_f w] at h; cases h
theorem linesR_wf (n : Nat) : ∀ {k : Nat} {g g' : GF} {q : Cur}, Wf k g → k + n ≤ 100000 → q.2 ≤ L → linesR c L n g q = .inr g' → Wf (k + n) g' := by
  induction n with
  | zero => intro k g g' q hw hk hq h; unfold linesR at h; cases h; exact hw
  | succ n ih =>
    intro k g g' q hw hk hq h
    unfold linesR at h
    by_cases h0 : uT c L q = 0
    · rw [cif_t h0] at h; cases h; exact hw.mono (by omega)
    · rw [cif_f h0] at h
      by_cases h3 : uT c L q = 3
      · rw [cif_t h3] at h
        obtain ⟨⟨g1, q1⟩, h1, h⟩ := sb_inr h
        obtain ⟨w1, _, w2⟩ := lineR_wf hw (by omega) (uN_le (c := c) hq).2.2 h1
        rw [show k + (n + 1) = k + 1 + n by omega]
        exact ih w1 (by omega) w2 h
      · rw [cif_f h3] at h; cases h
theorem textR_wf {z g : GF} (hL : L ≤ 1000) (hz : ∀ q, q < 1330 → z q = 0) (h : textR c L z = .inr g) : Wf (L + 1) g := by
  unfold textR at h
  obtain ⟨⟨g0, q0⟩, h1, h⟩ := sb_inr h
  obtain ⟨w1, w2⟩ := headR_wf hz h1
  have := linesR_wf (L + 1) w1 (by omega) w2 h
  rwa [Nat.zero_add] at this
end SP
