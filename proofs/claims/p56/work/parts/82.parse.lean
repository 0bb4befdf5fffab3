/-! THE LAW'S TEXTS ARE READ -/
def At (c : GF) (p : Nat) (S : List Nat) : Prop := ∀ i, i < S.length → c (p + i) = nI (S.getD i 0)
theorem At.app {c : GF} {p : Nat} {A B : List Nat} (h : At c p (A ++ B)) : At c p A ∧ At c (p + A.length) B := by
  refine ⟨fun i hi => ?_, fun i hi => ?_⟩
  · have := h i (by rw [List.length_append]; omega)
    rwa [app_getD, if_pos hi] at this
  · have := h (A.length + i) (by rw [List.length_append]; omega)
    rw [app_getD, if_neg (by omega), show A.length + i - A.length = i by omega] at this
    rwa [show p + A.length + i = p + (A.length + i) by omega]
theorem At.cons {c : GF} {p v : Nat} {S : List Nat} (h : c p = nI v) (k : At c (p + 1) S) : At c p (v :: S) := fun i hi => by
  cases i with
  | zero => exact h
  | succ i =>
    have := k i (by have : i + 1 < S.length + 1 := hi; omega)
    rw [show p + (i + 1) = p + 1 + i by omega]; exact this
theorem At.one {c : GF} {p v : Nat} (h : At c p [v]) : c p = nI v := h 0 Nat.one_pos
theorem typ_nat : ∀ k : Fin 128, typ (nI k.val) = if 97 ≤ k.val ∧ k.val ≤ 122 then 1 else if 48 ≤ k.val ∧ k.val ≤ 57 then 2 else if k.val = 59 then 3 else 4 := by decide +kernel
theorem typ_blk {v : Int32} (h : blk v) : typ v = 4 := by
  rcases h with rfl | rfl <;> decide
theorem skp_run {c : GF} : ∀ d e m, (∀ i, i < d → blk (c (e + i))) → ¬ blk (c (e + d)) → d < m → skp c e m = e + d := by
  intro d
  induction d with
  | zero =>
    intro e m _ h2 h3
    obtain ⟨m, rfl⟩ : ∃ k, m = k + 1 := ⟨m - 1, by omega⟩
    rw [Nat.add_zero] at h2
    unfold skp; rw [if_neg h2]; rfl
  | succ d ih =>
    intro e m h1 h2 h3
    obtain ⟨m, rfl⟩ : ∃ k, m = k + 1 := ⟨m - 1, by omega⟩
    unfold skp
    have h0 := h1 0 (by omega)
    rw [Nat.add_zero] at h0
    rw [if_pos h0, ih (e + 1) m (fun i hi => by rw [show e + 1 + i = e + (i + 1) by omega]; exact h1 (i + 1) (by omega)) (by rw [show e + 1 + d = e + (d + 1) by omega]; exact h2) (by omega)]
    omega
theorem ext_run {c : GF} {t : Int32} : ∀ n s m, (∀ i, i < n → typ (c (s + i)) = t) → (n = m ∨ (n < m ∧ typ (c (s + n)) ≠ t)) → ext c t s m = s + n := by
  intro n
  induction n with
  | zero =>
    intro s m _ h
    cases m with
    | zero => rfl
    | succ m =>
      unfold ext
      rcases h with h | ⟨_, h⟩
      · omega
      · rw [Nat.add_zero] at h
        rw [if_neg h]; rfl
  | succ n ih =>
    intro s m h1 h2
    obtain ⟨m, rfl⟩ : ∃ k, m = k + 1 := ⟨m - 1, by omega⟩
    unfold ext
    have h0 := h1 0 (by omega)
    rw [Nat.add_zero] at h0
    rw [if_pos h0, ih (s + 1) m (fun i hi => by rw [show s + 1 + i = s + (i + 1) by omega]; exact h1 (i + 1) (by omega)) (by
      rcases h2 with h | ⟨h, h'⟩
      · exact Or.inl (by omega)
      · exact Or.inr ⟨by omega, by rw [show s + 1 + n = s + (n + 1) by omega]; exact h'⟩)]
    omega
section PA
variable {c : GF} {L : Nat} {ty : Int32} {e : Nat}
theorem tok {d n : Nat} {t : Int32} (he : e + d + n ≤ L) (hd : ∀ i, i < d → blk (c (e + i))) (hn : 1 ≤ n) (ht : t = 1 ∨ t = 2) (hrun : ∀ i, i < n → typ (c (e + d + i)) = t) (hend : e + d + n = L ∨ (e + d + n < L ∧ typ (c (e + d + n)) ≠ t)) (hg : d ≠ 0 ∨ (ty ≠ 1 ∧ ty ≠ 2)) (h2 : t = 2 → n ≤ 2) : uT c L (ty, e) = t ∧ uS c L (ty, e) = e + d ∧ uE c L (ty, e) = e + d + n := by
  have t0 : typ (c (e + d)) = t := hrun 0 (by omega)
  have nb : ¬ blk (c (e + d)) := fun h => by
    rw [typ_blk h] at t0
    rcases ht with h | h <;> rw [h] at t0 <;> exact absurd t0 (by decide)
  have s1 : nS c L e = e + d := skp_run d e (L - e) hd nb (by omega)
  have tt : typ (c (e + d)) = 1 ∨ typ (c (e + d)) = 2 := by rw [t0]; exact ht
  have e1 : nE c L e = e + d + n := by
    unfold nE tE
    rw [s1, if_neg (by omega), if_pos tt, t0, ext_run (n - 1) (e + d + 1) (L - (e + d + 1)) (fun i hi => by rw [show e + d + 1 + i = e + d + (i + 1) by omega]; exact hrun (i + 1) (by omega)) (by
      rcases hend with h | ⟨h, h'⟩
      · exact Or.inl (by omega)
      · exact Or.inr ⟨by omega, by rw [show e + d + 1 + (n - 1) = e + d + n by omega]; exact h'⟩)]
    omega
  refine ⟨?_, s1, e1⟩
  show nT c L ty e = t
  unfold nT
  rw [e1, s1, if_neg (by omega), if_neg (fun h => ?_), t0]
  rcases h with ⟨_, h3, h4⟩ | ⟨h3, h4⟩
  · rcases hg with h | ⟨g1, g2⟩
    · omega
    · rcases h3 with h | h
      · exact g1 h
      · exact g2 h
  · rw [t0] at h3
    have := h2 h3
    omega
theorem tok3 (he : e < L) (h : c e = nI 59) : uT c L (ty, e) = 3 ∧ uN c L (ty, e) = (3, e + 1) := by
  have t3 : typ (c e) = 3 := by rw [h]; decide
  have nb : ¬ blk (c e) := fun hb => by rw [typ_blk hb] at t3; exact absurd t3 (by decide)
  have n12 : ¬ (typ (c e) = 1 ∨ typ (c e) = 2) := by rw [t3]; decide
  have n2 : ¬ (typ (c e) = 2) := fun h => n12 (Or.inr h)
  have s1 : nS c L e = e := skp_run 0 e (L - e) (fun i hi => by omega) nb (by omega)
  have e1 : nE c L e = e + 1 := by unfold nE tE; rw [s1, if_neg (by omega), if_neg n12]
  have u : uT c L (ty, e) = 3 := by
    show nT c L ty e = 3
    unfold nT
    rw [s1, if_neg (by omega), if_neg (fun h => h.elim (fun h => n12 h.1) (fun h => n2 h.1)), t3]
  refine ⟨u, ?_⟩
  unfold uN
  rw [u]; exact congrArg (Prod.mk 3) e1
theorem tok0 : uT c L (ty, L) = 0 := by
  have s1 : nS c L L = L := by unfold nS; rw [Nat.sub_self]; rfl
  show nT c L ty L = 0
  unfold nT
  rw [s1, if_pos (Nat.le_refl _)]
/-- behind a token: the end, a semicolon or a blank -/
def Nx (c : GF) (L e : Nat) : Prop := e = L ∨ (e < L ∧ (c e = nI 59 ∨ c e = nI 32))
theorem Nx.typ {t : Int32} (h : Nx c L e) (ht : t = 1 ∨ t = 2) : e = L ∨ (e < L ∧ Jvm.Pilot.COfflineNotesLaw_law_r8929_57547b.typ (c e) ≠ t) := by
  rcases h with h | ⟨h, h'⟩
  · exact Or.inl h
  · refine Or.inr ⟨h, ?_⟩
    rcases h' with h' | h' <;> rw [h'] <;> rcases ht with rfl | rfl <;> decide
theorem dig_typ {v : Nat} (hv : v < 100) : ∀ i, i < (dig v).length → (dig v).getD i 0 < 128 ∧ typ (nI ((dig v).getD i 0)) = 2 := fun i hi => by
  have k : ∀ w, 48 ≤ w → w ≤ 57 → w < 128 ∧ typ (nI w) = 2 := fun w h1 h2 => ⟨by omega, by
    have := typ_nat ⟨w, by omega⟩
    dsimp only at this
    rw [this, if_neg (by omega), if_pos ⟨h1, h2⟩]⟩
  unfold dig at hi ⊢
  by_cases q : v < 10
  · rw [if_pos q] at hi ⊢
    have : i = 0 := by have : i < 1 := hi; omega
    subst this; exact k (48 + v) (by omega) (by omega)
  · rw [if_neg q] at hi ⊢
    have : i = 0 ∨ i = 1 := by have : i < 2 := hi; omega
    rcases this with rfl | rfl
    · exact k (48 + v / 10) (by omega) (by omega)
    · exact k (48 + v % 10) (by omega) (by omega)
theorem num_ok {v : Nat} (hv : v < 100) (hA : At c e (32 :: dig v)) (hL : e + 1 + (dig v).length ≤ L) (hN : Nx c L (e + 1 + (dig v).length)) {lo hi : Int32} (h1 : lo ≤ nI v) (h2 : nI v ≤ hi) : numR c L (ty, e) lo hi = .inr (nI v) ∧ uN c L (ty, e) = (2, e + 1 + (dig v).length) := by
  have dl : (dig v).length = if v < 10 then 1 else 2 := dig_len v
  have dl2 : 1 ≤ (dig v).length ∧ (dig v).length ≤ 2 := by rw [dl]; split <;> omega
  have hb : blk (c e) := Or.inl (hA 0 (Nat.succ_pos _))
  have hD : At c (e + 1) (dig v) := fun i hi => by
    have := hA (i + 1) (by show i + 1 < (dig v).length + 1; omega)
    rw [show e + 1 + i = e + (i + 1) by omega]; exact this
  obtain ⟨k1, k2, k3⟩ := tok (ty := ty) (t := 2) (d := 1) (n := (dig v).length) hL (fun i hi => by have e0 : i = 0 := (by omega); rw [e0]; exact hb) dl2.1 (Or.inr rfl) (fun i hi => by rw [hD i hi]; exact (dig_typ hv i hi).2) (hN.typ (Or.inr rfl)) (Or.inl (by omega)) (fun _ => dl2.2)
  have eV : uV c L (ty, e) = nI v := by
    unfold uV
    rw [k2, k3, show e + 1 + (dig v).length - (e + 1) = (dig v).length by omega]
    have z : ∀ a : Int32, (0 : Int32) * 10 + a = a := fun a => by rw [Int32.zero_mul, Int32.zero_add]
    by_cases q : v < 10
    · have ed : dig v = [48 + v] := if_pos q
      have h0 := hD 0 (by omega)
      rw [ed] at h0 ⊢
      show ((0 : Int32) * 10 + c (e + 1 + 0)) - 48 = nI v
      rw [z, h0]
      show nI (48 + v) - nI 48 = nI v
      rw [nI_sub (by omega)]; congr 1; omega
    · have ed : dig v = [48 + v / 10, 48 + v % 10] := if_neg q
      have h0 := hD 0 (by omega)
      have h1 := hD 1 (by rw [dl, if_neg q]; omega)
      rw [ed] at h0 h1 ⊢
      show ((((0 : Int32) * 10 + c (e + 1 + 0)) - 48) * 10 + c (e + 1 + 1)) - 48 = nI v
      rw [z, h0, h1]
      show ((nI (48 + v / 10) - nI 48) * nI 10 + nI (48 + v % 10)) - nI 48 = nI v
      rw [nI_sub (by omega), nI_mul, nI_add, nI_sub (by omega)]; congr 1; omega
  refine ⟨?_, ?_⟩
  · unfold numR
    rw [cif_t k1, eV, cif_t ⟨h1, h2⟩]
  · unfold uN; rw [k1, k3]
theorem tag_ok {u : Nat} (hu : u < 5) (hA : At c e [32, 97 + u]) (hL : e + 2 ≤ L) (hN : Nx c L (e + 2)) : tagR c L (ty, e) = .inr (nI u) ∧ uN c L (ty, e) = (1, e + 2) := by
  have hb : blk (c e) := Or.inl (hA 0 (Nat.succ_pos _))
  have h1 : c (e + 1) = nI (97 + u) := hA 1 (by show 1 < 2; decide)
  have t1 : typ (nI (97 + u)) = 1 := by
    have := typ_nat ⟨97 + u, by omega⟩
    dsimp only at this
    rw [this, if_pos (by omega)]
  obtain ⟨k1, k2, k3⟩ := tok (ty := ty) (t := 1) (d := 1) (n := 1) hL (fun i hi => by have e0 : i = 0 := (by omega); rw [e0]; exact hb) (Nat.le_refl _) (Or.inl rfl) (fun i hi => by have e0 : i = 0 := (by omega); rw [e0, Nat.add_zero, h1]; exact t1) (hN.typ (Or.inl rfl)) (Or.inl (by omega)) (fun h => absurd h (by decide))
  have lt : nI (97 + u) < 113 := nI_lt (b := 113) (by omega) (by omega)
  refine ⟨?_, ?_⟩
  · unfold tagR
    rw [k1, k2, k3, cif_t ⟨rfl, by omega, by rw [h1]; exact lt⟩, h1]
    show Sum.inr (nI (97 + u) - nI 97) = _
    rw [nI_sub (by omega), show 97 + u - 97 = u by omega]
  · unfold uN; rw [k1, k3]
/-- a word -/
def Wd (W : List Nat) : Prop := 1 ≤ W.length ∧ ∀ i, i < W.length → typ (nI (W.getD i 0)) = 1
theorem word_ok {W : List Nat} (hW : Wd W) (hA : At c e W) (hL : e + W.length < L) (hb : c (e + W.length) = nI 32) (hg : ty ≠ 1 ∧ ty ≠ 2) : uT c L (ty, e) = 1 ∧ uS c L (ty, e) = e ∧ uE c L (ty, e) = e + W.length ∧ uN c L (ty, e) = (1, e + W.length) := by
  obtain ⟨k1, k2, k3⟩ := tok (c := c) (L := L) (ty := ty) (e := e) (t := 1) (d := 0) (n := W.length) (by omega) (fun i hi => by omega) hW.1 (Or.inl rfl) (fun i hi => by rw [Nat.add_zero, hA i hi]; exact hW.2 i hi) (Or.inr ⟨by omega, by rw [Nat.add_zero, hb]; decide⟩) (Or.inr hg) (fun h => absurd h (by decide))
  exact ⟨k1, k2, k3, by unfold uN; rw [k1, k3]; rfl⟩
theorem is_t {W : List Nat} {w : Nat} (k : uT c L (ty, e) = 1 ∧ uS c L (ty, e) = e ∧ uE c L (ty, e) = e + W.length ∧ uN c L (ty, e) = (1, e + W.length)) (hA : At c e W) (h1 : sLEN.getD w 0 = W.length) (h2 : ∀ i, i < W.length → jByt w i = nI (W.getD i 0)) : isW c L w (ty, e) := by
  refine ⟨k.1, by rw [k.2.1, k.2.2.1, h1]; omega, fun i hi => ?_⟩
  rw [h1] at hi
  rw [k.2.1, hA i hi, h2 i hi]
theorem is_f {W : List Nat} {w : Nat} (k : uT c L (ty, e) = 1 ∧ uS c L (ty, e) = e ∧ uE c L (ty, e) = e + W.length ∧ uN c L (ty, e) = (1, e + W.length)) (hA : At c e W) (hW : 1 ≤ W.length) (h : sLEN.getD w 0 ≠ W.length ∨ jByt w 0 ≠ nI (W.getD 0 0)) : ¬ isW c L w (ty, e) := fun ⟨_, q2, q3⟩ => by
  rw [k.2.1, k.2.2.1] at q2
  rcases h with h | h
  · omega
  · have := q3 0 (by omega)
    rw [k.2.1] at this
    exact h (this.symm.trans (hA 0 (by omega)))
/-- a line's letters, what it does, and that it may -/
def lnT (k r a b : Nat) : List Nat := if k = 0 then [59, 105, 110, 99, 32] ++ (dig r ++ ([32] ++ (dig a ++ ([32] ++ dig b)))) else if k = 1 then [59, 119, 114, 105, 116, 101, 32] ++ (dig r ++ ([32] ++ (dig a ++ ([32] ++ dig b)))) else if k = 2 then [59, 109, 101, 114, 103, 101, 32] ++ (dig r ++ ([32] ++ dig a)) else [59, 97, 100, 100, 32] ++ (dig r ++ ([32] ++ [97 + a]))
def lnG (k r a b : Nat) (g : GF) : GF := if k = 0 then cntG g 4 r a (nI b) else if k = 1 then put g r (newN (row g r) (100 + 4 * a) r (nI b) 4) else if k = 2 then put g r (absR (row g r) (row g a)) else put g r (newN (row g r) (36 + 4 * a) r 0 4)
def lnO (R C Q k r a b : Nat) : Prop := r < R ∧ ((k = 0 ∧ a < C ∧ 1 ≤ b ∧ b ≤ 9) ∨ (k = 1 ∧ a < Q ∧ b < 100) ∨ (k = 2 ∧ a < R) ∨ (k = 3 ∧ a < 5))
theorem hi_ok {R v : Nat} {z : Int32} (hz : z = nI R) (hv : v < R) (hR : R ≤ 4) : (0 : Int32) ≤ nI v ∧ nI v ≤ z - 1 := by
  refine ⟨nI_le (a := 0) (by omega) (by omega), ?_⟩
  rw [hz, show (1 : Int32) = nI 1 from rfl, nI_sub (by omega)]
  exact nI_le (by omega) (by omega)
theorem ln_ok {R C Q k r a b p n : Nat} {g : GF} (hR : R ≤ 4) (hC : C ≤ 4) (hQ : Q ≤ 4) (hO : lnO R C Q k r a b) (g0 : g 0 = nI R) (g1 : g 1 = nI C) (g2 : g 2 = nI Q) (hA : At c p (lnT k r a b)) (hL : p + (lnT k r a b).length ≤ L) (hN : Nx c L (p + (lnT k r a b).length)) : ∃ ty', linesR c L (n + 1) g (ty, p) = linesR c L n (lnG k r a b g) (ty', p + (lnT k r a b).length) := by
  obtain ⟨hr, hk⟩ := hO
  have r1 : (dig r).length = 1 := by rw [dig_len, if_pos (by omega)]
  have rok := hi_ok g0 hr hR
  have start : ∀ {W : List Nat} {S : List Nat}, Wd W → At c p ([59] ++ (W ++ ([32] ++ S))) → p + 1 + W.length < L → uT c L (ty, p) = 3 ∧ uN c L (ty, p) = (3, p + 1) ∧ (uT c L (3, p + 1) = 1 ∧ uS c L (3, p + 1) = p + 1 ∧ uE c L (3, p + 1) = p + 1 + W.length ∧ uN c L (3, p + 1) = (1, p + 1 + W.length)) ∧ At c (p + 1) W ∧ c (p + 1 + W.length) = nI 32 ∧ At c (p + 1 + W.length + 1) S := fun {W S} hW h hl => by
    obtain ⟨h1, h2⟩ := h.app
    obtain ⟨h3, h4⟩ := h2.app
    obtain ⟨h5, h6⟩ := h4.app
    have s3 := tok3 (L := L) (ty := ty) (e := p) (by omega) h1.one
    exact ⟨s3.1, s3.2, word_ok hW h3 hl h5.one ⟨by decide, by decide⟩, h3, h5.one, h6⟩
  have line : ∀ {g' : GF} {q' : Cur}, uT c L (ty, p) = 3 → uN c L (ty, p) = (3, p + 1) → lineR c L g (3, p + 1) = .inr (g', q') → linesR c L (n + 1) g (ty, p) = linesR c L n g' q' := fun {g' q'} u1 u2 h => by
    show cif (uT c L (ty, p) = 0) _ (cif (uT c L (ty, p) = 3) (sb (lineR c L g (uN c L (ty, p))) fun y => linesR c L n y.1 y.2) _) = _
    rw [cif_f (by rw [u1]; decide), cif_t u1, u2, h]; rfl
  rcases hk with ⟨rfl, ha, hb, hb9⟩ | ⟨rfl, ha, hb⟩ | ⟨rfl, ha⟩ | ⟨rfl, ha⟩
  · have eT : lnT 0 r a b = [59] ++ ([105, 110, 99] ++ ([32] ++ (dig r ++ ([32] ++ (dig a ++ ([32] ++ dig b)))))) := rfl
    have a1 : (dig a).length = 1 := by rw [dig_len, if_pos (by omega)]
    have b1 : (dig b).length = 1 := by rw [dig_len, if_pos (by omega)]
    have len : (lnT 0 r a b).length = 10 := by rw [eT]; simp [r1, a1, b1]
    rw [len] at hL hN ⊢
    rw [eT] at hA
    obtain ⟨u1, u2, k1, w1, e4, A5⟩ := start (W := [105, 110, 99]) ⟨by decide, by decide⟩ hA (by show p + 1 + 3 < L; omega)
    have e4 : c (p + 4) = nI 32 := e4
    have A5 : At c (p + 5) _ := A5
    obtain ⟨A5a, A6⟩ := A5.app
    rw [r1] at A6
    obtain ⟨A6a, A7⟩ := A6.app
    obtain ⟨A7a, A8⟩ := A7.app
    rw [a1] at A8
    obtain ⟨A8a, A9⟩ := A8.app
    have A6a : c (p + 6) = nI 32 := A6a.one
    have A8a : c (p + 8) = nI 32 := A8a.one
    obtain ⟨n1, q1⟩ := num_ok (ty := 1) (L := L) (e := p + 4) (by omega) (At.cons e4 A5a) (by rw [r1]; omega) (by rw [r1]; exact Or.inr ⟨by omega, Or.inr A6a⟩) rok.1 rok.2
    obtain ⟨n2, q2⟩ := num_ok (ty := 2) (L := L) (e := p + 6) (by omega) (At.cons A6a A7a) (by rw [a1]; omega) (by rw [a1]; exact Or.inr ⟨by omega, Or.inr A8a⟩) (hi_ok g1 ha hC).1 (hi_ok g1 ha hC).2
    obtain ⟨n3, q3⟩ := num_ok (ty := 2) (L := L) (e := p + 8) (lo := 1) (hi := 99) (by omega) (At.cons A8a A9) (by rw [b1]; omega) (by rw [b1]; exact hN) (nI_le (a := 1) hb (by omega)) (nI_le (b := 99) (by omega) (by omega))
    rw [r1] at q1
    rw [a1] at q2
    rw [b1] at q3
    have w2 := is_t (w := 2) k1 w1 (by decide +kernel) (by decide +kernel)
    refine ⟨2, line u1 u2 ?_⟩
    unfold lineR
    rw [cif_t w2, k1.2.2.2]
    show lCnt c L 4 g (1, p + 4) = _
    unfold lCnt
    rw [n1, q1]
    show sb (numR c L (2, p + 6) 0 (g 1 - 1)) _ = _
    rw [n2, q2]
    show sb (numR c L (2, p + 8) 1 99) _ = _
    rw [n3, q3]
    show Sum.inr (cntG g 4 (tn (nI r)) (tn (nI a)) (nI b), (2, p + 8 + 1 + 1)) = _
    rw [tn_nI (by omega), tn_nI (by omega)]; rfl
  · have eT : lnT 1 r a b = [59] ++ ([119, 114, 105, 116, 101] ++ ([32] ++ (dig r ++ ([32] ++ (dig a ++ ([32] ++ dig b)))))) := rfl
    have a1 : (dig a).length = 1 := by rw [dig_len, if_pos (by omega)]
    have b1 : 1 ≤ (dig b).length ∧ (dig b).length ≤ 2 := by rw [dig_len]; split <;> omega
    have len : (lnT 1 r a b).length = 11 + (dig b).length := by rw [eT]; simp [r1, a1]; omega
    rw [len] at hL hN ⊢
    rw [eT] at hA
    obtain ⟨u1, u2, k1, w1, e4, A5⟩ := start (W := [119, 114, 105, 116, 101]) ⟨by decide, by decide⟩ hA (by show p + 1 + 5 < L; omega)
    have e4 : c (p + 6) = nI 32 := e4
    have A5 : At c (p + 7) _ := A5
    obtain ⟨A5a, A6⟩ := A5.app
    rw [r1] at A6
    obtain ⟨A6a, A7⟩ := A6.app
    obtain ⟨A7a, A8⟩ := A7.app
    rw [a1] at A8
    obtain ⟨A8a, A9⟩ := A8.app
    have A6a : c (p + 8) = nI 32 := A6a.one
    have A8a : c (p + 10) = nI 32 := A8a.one
    obtain ⟨n1, q1⟩ := num_ok (ty := 1) (L := L) (e := p + 6) (by omega) (At.cons e4 A5a) (by rw [r1]; omega) (by rw [r1]; exact Or.inr ⟨by omega, Or.inr A6a⟩) rok.1 rok.2
    obtain ⟨n2, q2⟩ := num_ok (ty := 2) (L := L) (e := p + 8) (by omega) (At.cons A6a A7a) (by rw [a1]; omega) (by rw [a1]; exact Or.inr ⟨by omega, Or.inr A8a⟩) (hi_ok g2 ha hQ).1 (hi_ok g2 ha hQ).2
    obtain ⟨n3, q3⟩ := num_ok (ty := 2) (L := L) (e := p + 10) (lo := 0) (hi := 99) hb (At.cons A8a A9) (by omega) (by rw [show p + 10 + 1 + (dig b).length = p + (11 + (dig b).length) by omega]; exact hN) (nI_le (a := 0) (by omega) (by omega)) (nI_le (b := 99) (by omega) (by omega))
    rw [r1] at q1
    rw [a1] at q2
    have f2 := is_f (w := 2) k1 w1 (by decide) (by decide +kernel)
    have f3 := is_f (w := 3) k1 w1 (by decide) (by decide +kernel)
    have f4 := is_f (w := 4) k1 w1 (by decide) (by decide +kernel)
    have f5 := is_f (w := 5) k1 w1 (by decide) (by decide +kernel)
    have w6 := is_t (w := 6) k1 w1 (by decide +kernel) (by decide +kernel)
    refine ⟨2, line u1 u2 ?_⟩
    unfold lineR
    rw [cif_f f2, cif_f f3, cif_f f4, cif_f f5, cif_t w6, k1.2.2.2]
    show lWri c L g (1, p + 6) = _
    unfold lWri
    rw [n1, q1]
    show sb (numR c L (2, p + 8) 0 (g 2 - 1)) _ = _
    rw [n2, q2]
    show sb (numR c L (2, p + 10) 0 99) _ = _
    rw [n3, q3]
    show Sum.inr (put g (tn (nI r)) (newN (row g (tn (nI r))) (100 + 4 * tn (nI a)) (tn (nI r)) (nI b) 4), (2, p + 10 + 1 + (dig b).length)) = _
    rw [tn_nI (by omega), tn_nI (by omega), show p + 10 + 1 + (dig b).length = p + (11 + (dig b).length) by omega]; rfl
  · have eT : lnT 2 r a b = [59] ++ ([109, 101, 114, 103, 101] ++ ([32] ++ (dig r ++ ([32] ++ dig a)))) := rfl
    have a1 : (dig a).length = 1 := by rw [dig_len, if_pos (by omega)]
    have len : (lnT 2 r a b).length = 10 := by rw [eT]; simp [r1, a1]
    rw [len] at hL hN ⊢
    rw [eT] at hA
    obtain ⟨u1, u2, k1, w1, e4, A5⟩ := start (W := [109, 101, 114, 103, 101]) ⟨by decide, by decide⟩ hA (by show p + 1 + 5 < L; omega)
    have e4 : c (p + 6) = nI 32 := e4
    have A5 : At c (p + 7) _ := A5
    obtain ⟨A5a, A6⟩ := A5.app
    rw [r1] at A6
    obtain ⟨A6a, A7⟩ := A6.app
    have A6a : c (p + 8) = nI 32 := A6a.one
    obtain ⟨n1, q1⟩ := num_ok (ty := 1) (L := L) (e := p + 6) (by omega) (At.cons e4 A5a) (by rw [r1]; omega) (by rw [r1]; exact Or.inr ⟨by omega, Or.inr A6a⟩) rok.1 rok.2
    obtain ⟨n2, q2⟩ := num_ok (ty := 2) (L := L) (e := p + 8) (by omega) (At.cons A6a A7) (by rw [a1]; omega) (by rw [a1]; exact hN) (hi_ok g0 ha hR).1 (hi_ok g0 ha hR).2
    rw [r1] at q1
    rw [a1] at q2
    have f2 := is_f (w := 2) k1 w1 (by decide) (by decide +kernel)
    have f3 := is_f (w := 3) k1 w1 (by decide) (by decide +kernel)
    have f4 := is_f (w := 4) k1 w1 (by decide) (by decide +kernel)
    have f5 := is_f (w := 5) k1 w1 (by decide) (by decide +kernel)
    have f6 := is_f (w := 6) k1 w1 (by decide) (by decide +kernel)
    have w7 := is_t (w := 7) k1 w1 (by decide +kernel) (by decide +kernel)
    refine ⟨2, line u1 u2 ?_⟩
    unfold lineR
    rw [cif_f f2, cif_f f3, cif_f f4, cif_f f5, cif_f f6, cif_t w7, k1.2.2.2]
    show lMer c L g (1, p + 6) = _
    unfold lMer
    rw [n1, q1]
    show sb (numR c L (2, p + 8) 0 (g 0 - 1)) _ = _
    rw [n2, q2]
    show Sum.inr (put g (tn (nI r)) (absR (row g (tn (nI r))) (row g (tn (nI a)))), (2, p + 8 + 1 + 1)) = _
    rw [tn_nI (by omega), tn_nI (by omega)]; rfl
  · have eT : lnT 3 r a b = [59] ++ ([97, 100, 100] ++ ([32] ++ (dig r ++ ([32] ++ [97 + a])))) := rfl
    have len : (lnT 3 r a b).length = 8 := by rw [eT]; simp [r1]
    rw [len] at hL hN ⊢
    rw [eT] at hA
    obtain ⟨u1, u2, k1, w1, e4, A5⟩ := start (W := [97, 100, 100]) ⟨by decide, by decide⟩ hA (by show p + 1 + 3 < L; omega)
    have e4 : c (p + 4) = nI 32 := e4
    have A5 : At c (p + 5) _ := A5
    obtain ⟨A5a, A6⟩ := A5.app
    rw [r1] at A6
    obtain ⟨A6a, A7⟩ := A6.app
    have A6a : c (p + 6) = nI 32 := A6a.one
    obtain ⟨n1, q1⟩ := num_ok (ty := 1) (L := L) (e := p + 4) (by omega) (At.cons e4 A5a) (by rw [r1]; omega) (by rw [r1]; exact Or.inr ⟨by omega, Or.inr A6a⟩) rok.1 rok.2
    obtain ⟨n2, q2⟩ := tag_ok (ty := 2) (L := L) (e := p + 6) ha (At.cons A6a A7) (by omega) hN
    rw [r1] at q1
    have f2 := is_f (w := 2) k1 w1 (by decide) (by decide +kernel)
    have f3 := is_f (w := 3) k1 w1 (by decide) (by decide +kernel)
    have w4 := is_t (w := 4) k1 w1 (by decide +kernel) (by decide +kernel)
    refine ⟨1, line u1 u2 ?_⟩
    unfold lineR
    rw [cif_f f2, cif_f f3, cif_t w4, k1.2.2.2]
    show lAdd c L g (1, p + 4) = _
    unfold lAdd
    rw [n1, q1]
    show sb (tagR c L (2, p + 6)) _ = _
    rw [n2, q2]
    show Sum.inr (put g (tn (nI r)) (newN (row g (tn (nI r))) (36 + 4 * tn (nI a)) (tn (nI r)) 0 4), (1, p + 6 + 2)) = _
    rw [tn_nI (by omega), tn_nI (by omega)]; rfl
end PA
