/-! TOKENS: what the next one is; the class's reader -/
def blk (v : Int32) : Prop := v = 32 ∨ v = 10
theorem blk_dec (v : Int32) : blk v ∨ ¬ blk v := Classical.em _
def typ (v : Int32) : Int32 := if 97 ≤ v ∧ v ≤ 122 then 1 else if 48 ≤ v ∧ v ≤ 57 then 2 else if v = 59 then 3 else 4
noncomputable def skp (c : Nat → Int32) : Nat → Nat → Nat
  | i, 0 => i
  | i, n + 1 => @ite Nat (blk (c i)) (Classical.propDecidable _) (skp c (i + 1) n) i
def ext (c : Nat → Int32) (t : Int32) : Nat → Nat → Nat
  | i, 0 => i
  | i, n + 1 => if typ (c i) = t then ext c t (i + 1) n else i
theorem skp_le (c : Nat → Int32) (n : Nat) : ∀ i, i ≤ skp c i n ∧ skp c i n ≤ i + n := by
  induction n with
  | zero => intro i; exact ⟨Nat.le_refl i, Nat.le_refl i⟩
  | succ n ih =>
    intro i; unfold skp
    by_cases h : blk (c i)
    · rw [if_pos h]; have := ih (i + 1); omega
    · rw [if_neg h]; omega
theorem ext_le (c : Nat → Int32) (t : Int32) (n : Nat) : ∀ i, i ≤ ext c t i n ∧ ext c t i n ≤ i + n := by
  induction n with
  | zero => intro i; exact ⟨Nat.le_refl i, Nat.le_refl i⟩
  | succ n ih =>
    intro i; unfold ext
    by_cases h : typ (c i) = t
    · rw [if_pos h]; have := ih (i + 1); omega
    · rw [if_neg h]; omega
/-- the next token's first place, its end, its type -/
noncomputable def nS (c : Nat → Int32) (L e : Nat) : Nat := skp c e (L - e)
def tE (c : Nat → Int32) (L s : Nat) : Nat := if L ≤ s then s else if typ (c s) = 1 ∨ typ (c s) = 2 then ext c (typ (c s)) (s + 1) (L - (s + 1)) else s + 1
noncomputable def nE (c : Nat → Int32) (L e : Nat) : Nat := tE c L (nS c L e)
noncomputable def nT (c : Nat → Int32) (L : Nat) (ty : Int32) (e : Nat) : Int32 := if L ≤ nS c L e then 0 else if ((typ (c (nS c L e)) = 1 ∨ typ (c (nS c L e)) = 2) ∧ (ty = 1 ∨ ty = 2) ∧ nS c L e = e) ∨ (typ (c (nS c L e)) = 2 ∧ 2 < nE c L e - nS c L e) then 4 else typ (c (nS c L e))
theorem nS_le {c : Nat → Int32} {L e : Nat} (h : e ≤ L) : e ≤ nS c L e ∧ nS c L e ≤ L := by
  have := skp_le c (L - e) e; unfold nS; omega
theorem tE_le {c : Nat → Int32} {L s : Nat} (h : s ≤ L) : s ≤ tE c L s ∧ tE c L s ≤ L ∧ (s < L → s < tE c L s) := by
  unfold tE
  by_cases h1 : L ≤ s
  · rw [if_pos h1]; omega
  · rw [if_neg h1]
    by_cases h2 : typ (c s) = 1 ∨ typ (c s) = 2
    · rw [if_pos h2]; have := ext_le c (typ (c s)) (L - (s + 1)) (s + 1); omega
    · rw [if_neg h2]; omega
theorem nE_le {c : Nat → Int32} {L e : Nat} (h : e ≤ L) : nS c L e ≤ nE c L e ∧ nE c L e ≤ L := by
  have h1 := nS_le (c := c) h
  have h2 := tE_le (c := c) h1.2
  exact ⟨h2.1, h2.2.1⟩
theorem typ_r (v : Int32) : typ v = 1 ∨ typ v = 2 ∨ typ v = 3 ∨ typ v = 4 := by
  unfold typ
  by_cases h1 : 97 ≤ v ∧ v ≤ 122
  · rw [if_pos h1]; exact Or.inl rfl
  · rw [if_neg h1]; by_cases h2 : 48 ≤ v ∧ v ≤ 57
    · rw [if_pos h2]; exact Or.inr (Or.inl rfl)
    · rw [if_neg h2]; by_cases h3 : v = 59
      · rw [if_pos h3]; exact Or.inr (Or.inr (Or.inl rfl))
      · rw [if_neg h3]; exact Or.inr (Or.inr (Or.inr rfl))
/-- the class's parser: object pa, text ta, world w; type, start, end, error -/
def PS (N : Mem) (pa ta L w : Nat) (c : Nat → Int32) (ty : Int32) (st en : Nat) (ek eo : Int32) : Prop := (mK N pa = 2 ∧ mR N 32 pa = some ta ∧ mI N 33 pa = nI L ∧ mR N 34 pa = some w) ∧ (mK N ta = 8 ∧ L ≤ mN N ta ∧ L ≤ 1000 ∧ ∀ i, i < L → mA N ta i = c i) ∧ mI N 35 pa = ty ∧ mI N 36 pa = nI st ∧ mI N 37 pa = nI en ∧ mI N 38 pa = ek ∧ mI N 39 pa = eo
/-- int fields of one object changed alone -/
def FI (pa : Nat) (N N' : Mem) : Prop := mK N' = mK N ∧ mN N' = mN N ∧ mR N' = mR N ∧ mA N' = mA N ∧ mB N' = mB N ∧ mL N' = mL N ∧ mZ N' = mZ N ∧ ∀ f a, a ≠ pa → mI N' f a = mI N f a
theorem FI.refl {pa : Nat} {N : Mem} : FI pa N N := ⟨rfl, rfl, rfl, rfl, rfl, rfl, rfl, fun _ _ _ => rfl⟩
theorem FI.wI {pa : Nat} {N : Mem} {f : Nat} {v : Int32} : FI pa N (wI N f pa v) := ⟨rfl, rfl, rfl, rfl, rfl, rfl, rfl, fun g a h => by rw [mI_wI, if_neg (fun e => h e.2)]⟩
theorem FI.trans {pa : Nat} {N N' N2 : Mem} (h : FI pa N N') (k : FI pa N' N2) : FI pa N N2 := by
  obtain ⟨a1, a2, a3, a4, a5, a6, a7, a8⟩ := h
  obtain ⟨b1, b2, b3, b4, b5, b6, b7, b8⟩ := k
  exact ⟨b1.trans a1, b2.trans a2, b3.trans a3, b4.trans a4, b5.trans a5, b6.trans a6, b7.trans a7, fun f a h => (b8 f a h).trans (a8 f a h)⟩
section TK
variable {N : Mem} {pa ta L w : Nat} {c : Nat → Int32} {ty : Int32} {st en : Nat} {ek eo : Int32}
theorem PS.gI (h : PS N pa ta L w c ty st en ek eo) {f : Nat} : gI 2 f pa N = some (mI N f pa) := by unfold Jvm.Pilot.COfflineNotesLaw_law_r8908_f384f3.gI; rw [if_pos h.1.1]
theorem PS.sI (h : PS N pa ta L w c ty st en ek eo) {f : Nat} {v : Int32} : sI 2 f pa v N = some (wI N f pa v) := by rw [sI_w, if_pos h.1.1]
theorem PS.txt (h : PS N pa ta L w c ty st en ek eo) : gRn 2 32 pa N = some ta := gRn_ok h.1.1 h.1.2.1
theorem PS.chr (h : PS N pa ta L w c ty st en ek eo) {i : Nat} (hi : i < L) : gA 8 ta (nI i) N = some (c i) := by
  unfold gA
  rw [if_pos ⟨h.2.1.1, by rw [inT (show i < mN N ta by have := h.2.1.2.1; omega) (by have := h.2.1.2.2.1; omega)]; exact not_false⟩, nI_cl (by have := h.2.1.2.2.1; omega), h.2.1.2.2.2 i hi]
theorem PS.set (h : PS N pa ta L w c ty st en ek eo) {ty' : Int32} {st' en' : Nat} {ek' eo' : Int32} : PS (wI (wI (wI (wI (wI N 35 pa ty') 36 pa (nI st')) 37 pa (nI en')) 38 pa ek') 39 pa eo') pa ta L w c ty' st' en' ek' eo' := by
  obtain ⟨⟨a1, a2, a3, a4⟩, ⟨b1, b2, b3, b4⟩, _⟩ := h
  refine ⟨⟨a1, a2, ?_, a4⟩, ⟨b1, b2, b3, b4⟩, ?_, ?_, ?_, ?_, ?_⟩ <;> simp [mI_wI, a3]
theorem PS.wI35 (h : PS N pa ta L w c ty st en ek eo) {v : Int32} : PS (wI N 35 pa v) pa ta L w c v st en ek eo := by
  obtain ⟨⟨a1, a2, a3, a4⟩, ⟨b1, b2, b3, b4⟩, c1, c2, c3, c4, c5⟩ := h
  refine ⟨⟨a1, a2, ?_, a4⟩, ⟨b1, b2, b3, b4⟩, ?_, ?_, ?_, ?_, ?_⟩ <;> simp [mI_wI, a3, c2, c3, c4, c5]
theorem PS.wI36 (h : PS N pa ta L w c ty st en ek eo) {v : Nat} : PS (wI N 36 pa (nI v)) pa ta L w c ty v en ek eo := by
  obtain ⟨⟨a1, a2, a3, a4⟩, ⟨b1, b2, b3, b4⟩, c1, c2, c3, c4, c5⟩ := h
  refine ⟨⟨a1, a2, ?_, a4⟩, ⟨b1, b2, b3, b4⟩, ?_, ?_, ?_, ?_, ?_⟩ <;> simp [mI_wI, a3, c1, c3, c4, c5]
theorem PS.wI37 (h : PS N pa ta L w c ty st en ek eo) {v : Nat} : PS (wI N 37 pa (nI v)) pa ta L w c ty st v ek eo := by
  obtain ⟨⟨a1, a2, a3, a4⟩, ⟨b1, b2, b3, b4⟩, c1, c2, c3, c4, c5⟩ := h
  refine ⟨⟨a1, a2, ?_, a4⟩, ⟨b1, b2, b3, b4⟩, ?_, ?_, ?_, ?_, ?_⟩ <;> simp [mI_wI, a3, c1, c2, c4, c5]
theorem PS.wI38 (h : PS N pa ta L w c ty st en ek eo) {v : Int32} : PS (wI N 38 pa v) pa ta L w c ty st en v eo := by
  obtain ⟨⟨a1, a2, a3, a4⟩, ⟨b1, b2, b3, b4⟩, c1, c2, c3, c4, c5⟩ := h
  refine ⟨⟨a1, a2, ?_, a4⟩, ⟨b1, b2, b3, b4⟩, ?_, ?_, ?_, ?_, ?_⟩ <;> simp [mI_wI, a3, c1, c2, c3, c5]
theorem PS.wI39 (h : PS N pa ta L w c ty st en ek eo) {v : Int32} : PS (wI N 39 pa v) pa ta L w c ty st en ek v := by
  obtain ⟨⟨a1, a2, a3, a4⟩, ⟨b1, b2, b3, b4⟩, c1, c2, c3, c4, c5⟩ := h
  refine ⟨⟨a1, a2, ?_, a4⟩, ⟨b1, b2, b3, b4⟩, ?_, ?_, ?_, ?_, ?_⟩ <;> simp [mI_wI, a3, c1, c2, c3, c4]
theorem PS.i35 (h : PS N pa ta L w c ty st en ek eo) : Jvm.Pilot.COfflineNotesLaw_law_r8908_f384f3.gI 2 35 pa N = some ty := by rw [h.gI, h.2.2.1]
theorem PS.i36 (h : PS N pa ta L w c ty st en ek eo) : Jvm.Pilot.COfflineNotesLaw_law_r8908_f384f3.gI 2 36 pa N = some (nI st) := by rw [h.gI, h.2.2.2.1]
theorem PS.i37 (h : PS N pa ta L w c ty st en ek eo) : Jvm.Pilot.COfflineNotesLaw_law_r8908_f384f3.gI 2 37 pa N = some (nI en) := by rw [h.gI, h.2.2.2.2.1]
theorem PS.i38 (h : PS N pa ta L w c ty st en ek eo) : Jvm.Pilot.COfflineNotesLaw_law_r8908_f384f3.gI 2 38 pa N = some ek := by rw [h.gI, h.2.2.2.2.2.1]
theorem PS.i33 (h : PS N pa ta L w c ty st en ek eo) : Jvm.Pilot.COfflineNotesLaw_law_r8908_f384f3.gI 2 33 pa N = some (nI L) := by rw [h.gI, h.1.2.2.1]
theorem PS.k2 (h : PS N pa ta L w c ty st en ek eo) : (mK N pa = 2) = True := eq_true h.1.1
theorem PS.L1 (h : PS N pa ta L w c ty st en ek eo) : L ≤ 1000 := h.2.1.2.2.1
theorem x1_blank (v : Int32) (N : Mem) : f_X1_isBlank v N = some (b01 (blk v), N) := by
  by_cases h1 : v = 32
  · rw [b01_t (show blk v from Or.inl h1)]; simp only [f_X1_isBlank, fj_X1_isBlank_12, fj_X1_isBlank_17, h1, if_true, or_true]
  · by_cases h2 : v = 10
    · rw [b01_t (show blk v from Or.inr h2)]; simp only [f_X1_isBlank, fj_X1_isBlank_12, fj_X1_isBlank_17, h1, h2, if_true, if_false, or_true]
      rfl
    · rw [b01_f (show ¬ blk v from fun h => h.elim h1 h2)]; simp only [f_X1_isBlank, fj_X1_isBlank_17, h1, h2, if_true, if_false, true_or]
theorem x1_typ (v : Int32) (N : Mem) : f_X1_typeOf v N = some (typ v, N) := by
  unfold typ
  have l14 : fj_X1_typeOf_14 v N = some (if 48 ≤ v ∧ v ≤ 57 then 2 else if v = 59 then 3 else 4, N) := by
    have l28 : fj_X1_typeOf_28 v N = some (if v = 59 then 3 else 4, N) := by
      by_cases h : v = 59
      · simp only [fj_X1_typeOf_28, fj_X1_typeOf_39, h, if_true]
      · simp only [fj_X1_typeOf_28, fj_X1_typeOf_39, h, if_false]
    by_cases h1 : v < 48
    · rw [if_neg (fun e => Int32.not_lt.mpr e.1 h1), ← l28]; simp only [fj_X1_typeOf_14, h1, if_true]
    · by_cases h2 : 57 < v
      · rw [if_neg (fun e => Int32.not_lt.mpr e.2 h2), ← l28]; simp only [fj_X1_typeOf_14, h1, h2, if_true, if_false]
      · rw [if_pos ⟨Int32.not_lt.mp h1, Int32.not_lt.mp h2⟩]; simp only [fj_X1_typeOf_14, h1, h2, if_false]
  by_cases h1 : v < 97
  · rw [if_neg (fun e => Int32.not_lt.mpr e.1 h1), ← l14]; simp only [f_X1_typeOf, h1, if_true]
  · by_cases h2 : 122 < v
    · rw [if_neg (fun e => Int32.not_lt.mpr e.2 h2), ← l14]; simp only [f_X1_typeOf, h1, h2, if_true, if_false]
    · rw [if_pos ⟨Int32.not_lt.mp h1, Int32.not_lt.mp h2⟩]; simp only [f_X1_typeOf, h1, h2, if_false]
theorem x1_failed (h : PS N pa ta L w c ty st en ek eo) : f_X1_failed pa N = some (b01 (ek ≠ 0), N) := by
  by_cases e : ek = 0
  · rw [b01_f (fun q => q e)]; simp only [f_X1_failed, fj_X1_failed_12, h.i38, Option.bind_some, e, if_true, true_or]
  · rw [b01_t e]; simp only [f_X1_failed, fj_X1_failed_12, h.i38, Option.bind_some, e, if_false, or_true, if_true]
theorem x1_fail0 (h : PS N pa ta L w c ty st en 0 eo) {k : Int32} : ∃ N', f_X1_fail pa k N = some N' ∧ FI pa N N' ∧ PS N' pa ta L w c ty st en k (nI st) := by
  refine ⟨wI (wI N 38 pa k) 39 pa (nI st), ?_, FI.wI.trans FI.wI, h.wI38.wI39⟩
  have e := x1_failed h
  rw [b01_f (fun q => q rfl)] at e
  simp only [f_X1_fail, fj_X1_fail_20, cK, h.k2, if_true, e, bn, h.sI, Option.bind_some, (h.wI38 (v := k)).i36, (h.wI38 (v := k)).sI]
theorem x1_fail1 (h : PS N pa ta L w c ty st en ek eo) (he : ek ≠ 0) {k : Int32} : f_X1_fail pa k N = some N := by
  have e := x1_failed h
  rw [b01_t he] at e
  simp only [f_X1_fail, fj_X1_fail_20, cK, h.k2, if_true, e, bn, e10, if_false]
end TK
theorem skp_first (c : Nat → Int32) {α : Type} (f : Nat → α) [DecidablePred (fun i => ¬ blk (c i))] (n : Nat) : ∀ i, (firstF (fun i => ¬ blk (c i)) i n).elim (f (i + n)) f = f (skp c i n) := by
  induction n with
  | zero => intro i; rfl
  | succ n ih =>
    intro i; unfold firstF skp
    by_cases h : blk (c i)
    · rw [if_neg (fun e => e h), if_pos h, ← ih (i + 1), show i + (n + 1) = i + 1 + n by omega]
    · rw [if_pos h, if_neg h]; rfl
theorem ext_first (c : Nat → Int32) (t : Int32) {α : Type} (f : Nat → α) (n : Nat) : ∀ i, (firstF (fun i => ¬ typ (c i) = t) i n).elim (f (i + n)) f = f (ext c t i n) := by
  induction n with
  | zero => intro i; rfl
  | succ n ih =>
    intro i; unfold firstF ext
    by_cases h : typ (c i) = t
    · rw [if_neg (fun e => e h), if_pos h, ← ih (i + 1), show i + (n + 1) = i + 1 + n by omega]
    · rw [if_pos h, if_neg h]; rfl
section TN
variable {N : Mem} {pa ta L w : Nat} {c : Nat → Int32} {ty : Int32} {st en : Nat} {ek eo : Int32}
theorem x1_201 (h : PS N pa ta L w c ty st en ek eo) (hs : st ≤ en) (he : en ≤ L) {x1 : Int32} {e0 : Nat} {run : Prop} (hL : e0 ≤ L) {x3 : Int32} (h3 : x3 = b01 run) {g : Prop} (h1 : x1 = b01 g) : ∃ N', fj_X1_nextToken_201 pa x1 (nI e0) x3 N = some N' ∧ FI pa N N' ∧ PS N' pa ta L w c (@ite Int32 ((run ∧ g ∧ st = e0) ∨ (ty = 2 ∧ 2 < en - st)) (Classical.propDecidable _) 4 ty) st en ek eo := by
  have L1 := h.L1
  subst h3 h1
  have t222 : ∀ s0 : Int32, (s0 = 0 ∨ s0 = 1) → ∃ N', fj_X1_nextToken_222 pa s0 N = some N' ∧ FI pa N N' ∧ PS N' pa ta L w c (@ite Int32 (s0 = 1 ∨ (ty = 2 ∧ 2 < en - st)) (Classical.propDecidable _) 4 ty) st en ek eo := by
    intro s0 hs0
    have i4 : fj_X1_nextToken_250 pa N = some (wI N 35 pa 4) := by simp only [fj_X1_nextToken_250, fj_X1_nextToken_255, h.sI, Option.bind_some]
    rcases hs0 with rfl | rfl
    · by_cases c2 : ty = 2
      · subst c2
        have sub : nI en - nI st = nI (en - st) := nI_sub hs
        by_cases c3 : 2 < en - st
        · rw [if_pos (Or.inr ⟨rfl, c3⟩)]
          have l2 : ¬ (nI (en - st) ≤ 2) := nI_ge (a := 2) c3 (by omega)
          refine ⟨wI N 35 pa 4, ?_, FI.wI, h.wI35⟩
          simp only [fj_X1_nextToken_222, if_true, h.i35, h.i36, h.i37, Option.bind_some, sub, l2, if_false, i4]
        · rw [if_neg (fun e => e.elim (fun e => absurd e (by decide)) (fun e => c3 e.2))]
          have l2 : nI (en - st) ≤ 2 := nI_le (b := 2) (by omega) (by omega)
          refine ⟨N, ?_, FI.refl, h⟩
          simp only [fj_X1_nextToken_222, fj_X1_nextToken_255, if_true, h.i35, h.i36, h.i37, Option.bind_some, sub, l2]
      · rw [if_neg (fun e => e.elim (fun e => absurd e (by decide)) (fun e => c2 e.1))]
        refine ⟨N, ?_, FI.refl, h⟩
        simp only [fj_X1_nextToken_222, fj_X1_nextToken_255, if_true, h.i35, Option.bind_some, c2, if_false]
    · rw [if_pos (Or.inl rfl)]
      refine ⟨wI N 35 pa 4, ?_, FI.wI, h.wI35⟩
      simp only [fj_X1_nextToken_222, e10, if_false, i4]
  have t221 : ∃ N', fj_X1_nextToken_221 pa N = some N' ∧ FI pa N N' ∧ PS N' pa ta L w c (@ite Int32 (ty = 2 ∧ 2 < en - st) (Classical.propDecidable _) 4 ty) st en ek eo := by
    obtain ⟨N', a1, a2, a3⟩ := t222 0 (Or.inl rfl)
    refine ⟨N', a1, a2, ?_⟩
    by_cases q : ty = 2 ∧ 2 < en - st
    · rw [if_pos (Or.inr q)] at a3; rw [if_pos q]; exact a3
    · rw [if_neg (fun e => e.elim (fun e => absurd e (by decide)) q)] at a3; rw [if_neg q]; exact a3
  have no : ¬ (run ∧ g ∧ st = e0) → (∃ N', fj_X1_nextToken_221 pa N = some N' ∧ FI pa N N' ∧ PS N' pa ta L w c (@ite Int32 ((run ∧ g ∧ st = e0) ∨ (ty = 2 ∧ 2 < en - st)) (Classical.propDecidable _) 4 ty) st en ek eo) := by
    intro hn
    obtain ⟨N', a1, a2, a3⟩ := t221
    refine ⟨N', a1, a2, ?_⟩
    by_cases q : ty = 2 ∧ 2 < en - st
    · rw [if_pos q] at a3; rw [if_pos (Or.inr q)]; exact a3
    · rw [if_neg q] at a3; rw [if_neg (fun e => e.elim hn q)]; exact a3
  by_cases r : run
  · by_cases gg : g
    · by_cases e : st = e0
      · obtain ⟨N', a1, a2, a3⟩ := t222 1 (Or.inr rfl)
        rw [if_pos (Or.inl rfl)] at a3
        refine ⟨N', ?_, a2, by rw [if_pos (Or.inl ⟨r, gg, e⟩)]; exact a3⟩
        rw [← a1, e.symm]
        simp only [fj_X1_nextToken_201, b01_t r, b01_t gg, e10, if_false, h.i36, Option.bind_some, if_true]
      · obtain ⟨N', a1, a2, a3⟩ := no (fun q => e q.2.2)
        refine ⟨N', ?_, a2, a3⟩
        have ne : (nI st = nI e0) = False := nI_eqF e (by omega) (by omega)
        rw [← a1]
        simp only [fj_X1_nextToken_201, b01_t r, b01_t gg, e10, if_false, h.i36, Option.bind_some, ne]
    · obtain ⟨N', a1, a2, a3⟩ := no (fun q => gg q.2.1)
      refine ⟨N', ?_, a2, a3⟩
      rw [← a1]
      simp only [fj_X1_nextToken_201, b01_t r, b01_f gg, e10, if_false, if_true]
  · obtain ⟨N', a1, a2, a3⟩ := no (fun q => r q.1)
    refine ⟨N', ?_, a2, a3⟩
    rw [← a1]
    simp only [fj_X1_nextToken_201, b01_f r, if_true]
theorem wI_again' (M : Mem) (f a : Nat) (v u : Int32) : wI (wI M f a v) f a u = wI M f a u := wI_again M f a v u
theorem x1_132 (h : PS N pa ta L w c ty st en ek eo) (hs : st ≤ en) (he : en ≤ L) {e0 : Nat} (hL : e0 ≤ L) {g : Prop} {x1 : Int32} (h1 : x1 = b01 g) : ∃ N', fj_X1_nextToken_132 pa x1 (nI e0) N = some N' ∧ FI pa N N' ∧ PS N' pa ta L w c (@ite Int32 (((ty = 1 ∨ ty = 2) ∧ g ∧ st = e0) ∨ (ty = 2 ∧ 2 < (if ty = 1 ∨ ty = 2 then ext c ty en (L - en) else en) - st)) (Classical.propDecidable _) 4 ty) st (if ty = 1 ∨ ty = 2 then ext c ty en (L - en) else en) ek eo := by
  have L1 := h.L1
  have h132 : fj_X1_nextToken_132 pa x1 (nI e0) N = fj_X1_nextToken_154 pa x1 (nI e0) (b01 (ty = 1 ∨ ty = 2)) N := by
    by_cases c1 : ty = 1
    · rw [b01_t (Or.inl c1)]; simp only [fj_X1_nextToken_132, fj_X1_nextToken_148, fj_X1_nextToken_153, h.i35, Option.bind_some, c1, if_true]
    · by_cases c2 : ty = 2
      · rw [b01_t (Or.inr c2)]; simp only [fj_X1_nextToken_132, fj_X1_nextToken_148, fj_X1_nextToken_153, h.i35, Option.bind_some, c1, c2, if_true, if_false]
        rfl
      · rw [b01_f (fun e => e.elim c1 c2)]; simp only [fj_X1_nextToken_132, fj_X1_nextToken_153, h.i35, Option.bind_some, c1, c2, if_false]
  rw [h132]
  by_cases r : ty = 1 ∨ ty = 2
  · rw [if_pos r, b01_t r]
    have key : fj_X1_nextToken_154 pa x1 (nI e0) 1 N = fj_X1_nextToken_201 pa x1 (nI e0) 1 (wI N 37 pa (nI (ext c ty en (L - en)))) := by
      unfold fj_X1_nextToken_154
      have eN : N = wI N 37 pa (nI en) := by
        have := h.2.2.2.2.1
        show N = (mK N, mN N, up2 (mI N) 37 pa (nI en), mR N, mA N, mB N, mL N, mZ N)
        rw [show up2 (mI N) 37 pa (nI en) = mI N from by funext f a; unfold up2; by_cases q : f = 37 ∧ a = pa; rw [if_pos q, q.1, q.2, this]; rw [if_neg q]]
      refine Eq.trans (loopM_find (st := fun i => wI N 37 pa (nI i)) (k := en) (N := L) (fun i => ¬ typ (c i) = ty) (hit := fun i => fj_X1_nextToken_201 pa x1 (nI e0) 1 (wI N 37 pa (nI i))) (miss := fj_X1_nextToken_201 pa x1 (nI e0) 1 (wI N 37 pa (nI (en + (L - en))))) eN (fun i hi hl q => ?_) (fun i hi hl q => ?_) ?_ he (FUn (by omega))) (ext_first c ty (fun i => fj_X1_nextToken_201 pa x1 (nI e0) 1 (wI N 37 pa (nI i))) (L - en) en)
      · have h2 := h.wI37 (v := i)
        have hl' : ¬ (nI L ≤ nI i) := nI_ge hl (by omega)
        have q' : typ (c i) = ty := Classical.not_not.mp q
        have ei : nI i + 1 = nI (i + 1) := nI_add i 1
        simp only [fc_X1_nextToken_154, e10, if_false, h2.i37, h2.i33, Option.bind_some, hl', h2.txt, h2.chr hl, x1_typ, bn, h2.i35, q', if_true, h2.sI, ei, wI_again]
      · have h2 := h.wI37 (v := i)
        have hl' : ¬ (nI L ≤ nI i) := nI_ge hl (by omega)
        simp only [fc_X1_nextToken_154, e10, if_false, h2.i37, h2.i33, Option.bind_some, hl', h2.txt, h2.chr hl, x1_typ, bn, h2.i35, q]
      · have h2 := h.wI37 (v := L)
        have hl' : nI L ≤ nI L := Int32.le_refl _
        rw [show en + (L - en) = L by omega]
        simp only [fc_X1_nextToken_154, e10, if_false, h2.i37, h2.i33, Option.bind_some, hl', if_true]
    have hx := ext_le c ty (L - en) en
    obtain ⟨N', a1, a2, a3⟩ := x1_201 (h.wI37 (v := ext c ty en (L - en))) (by omega) (by omega) (run := True) hL (b01_t trivial).symm h1
    refine ⟨N', by rw [key]; exact a1, FI.wI.trans a2, ?_⟩
    by_cases q : ((ty = 1 ∨ ty = 2) ∧ g ∧ st = e0) ∨ (ty = 2 ∧ 2 < ext c ty en (L - en) - st)
    · rw [if_pos (q.elim (fun q => Or.inl ⟨trivial, q.2⟩) Or.inr)] at a3; rw [if_pos q]; exact a3
    · rw [if_neg (fun e => q (e.elim (fun e => Or.inl ⟨r, e.2⟩) Or.inr))] at a3; rw [if_neg q]; exact a3
  · rw [if_neg r, b01_f r]
    have key : fj_X1_nextToken_154 pa x1 (nI e0) 0 N = fj_X1_nextToken_201 pa x1 (nI e0) 0 N := by
      unfold fj_X1_nextToken_154
      refine loopM_run (st := fun _ => N) (N := 0) rfl (fun i hi => by omega) ?_ (FUn (by decide))
      simp only [fc_X1_nextToken_154, if_true]
    obtain ⟨N', a1, a2, a3⟩ := x1_201 h hs he (run := False) hL (b01_f id).symm h1
    refine ⟨N', by rw [key]; exact a1, a2, ?_⟩
    by_cases q : ((ty = 1 ∨ ty = 2) ∧ g ∧ st = e0) ∨ (ty = 2 ∧ 2 < en - st)
    · exact absurd (q.elim (fun q => q.1) (fun q => Or.inr q.1)) r
    · rw [if_neg (fun e => e.elim (fun e => e.1) (fun e => r (Or.inr e.1)))] at a3; rw [if_neg q]; exact a3
theorem x1_82 (h : PS N pa ta L w c ty st en 0 eo) (hs : st ≤ L) {e0 : Nat} (hL : e0 ≤ L) {g : Prop} {x1 : Int32} (h1 : x1 = b01 g) : ∃ N', fj_X1_nextToken_82 pa x1 (nI e0) N = some N' ∧ FI pa N N' ∧ PS N' pa ta L w c (@ite Int32 (L ≤ st) (Classical.propDecidable _) 0 (@ite Int32 (((typ (c st) = 1 ∨ typ (c st) = 2) ∧ g ∧ st = e0) ∨ (typ (c st) = 2 ∧ 2 < tE c L st - st)) (Classical.propDecidable _) 4 (typ (c st)))) st (tE c L st) 0 eo := by
  have L1 := h.L1
  by_cases q : L ≤ st
  · obtain rfl : st = L := by omega
    have hh := (h.wI37 (v := st)).wI35 (v := 0)
    obtain ⟨N', a1, a2, a3⟩ := x1_132 hh (Nat.le_refl _) (Nat.le_refl _) hL h1
    have r0 : ¬ ((0 : Int32) = 1 ∨ (0 : Int32) = 2) := by decide
    rw [if_neg r0, if_neg (by rintro (⟨a, _⟩ | ⟨a, _⟩); exact r0 a; exact absurd a (by decide))] at a3
    refine ⟨N', ?_, (FI.wI.trans FI.wI).trans a2, ?_⟩
    · rw [← a1]
      have hl : nI st ≤ nI st := Int32.le_refl _
      have h2 := h.wI37 (v := st)
      simp only [fj_X1_nextToken_82, h.i36, Option.bind_some, h.sI, h2.sI, hh.i36, hh.i33, hl, if_true]
    · have te : tE c st st = st := by unfold tE; rw [if_pos (Nat.le_refl st)]
      rw [if_pos (Nat.le_refl st), te]; exact a3
  · have hlt : st < L := by omega
    have h2 := h.wI37 (v := st)
    have h3 := h2.wI35 (v := 0)
    have h4 := h3.wI35 (v := typ (c st))
    have h5 := h4.wI37 (v := st + 1)
    obtain ⟨N', a1, a2, a3⟩ := x1_132 h5 (by omega) (by omega) hL h1
    have te : tE c L st = if typ (c st) = 1 ∨ typ (c st) = 2 then ext c (typ (c st)) (st + 1) (L - (st + 1)) else st + 1 := by unfold tE; rw [if_neg q]
    refine ⟨N', ?_, (((FI.wI.trans FI.wI).trans FI.wI).trans FI.wI).trans a2, ?_⟩
    · rw [← a1]
      have hl : ¬ (nI L ≤ nI st) := nI_ge hlt (by omega)
      have es : nI st + 1 = nI (st + 1) := nI_add st 1
      simp only [fj_X1_nextToken_82, h.i36, Option.bind_some, h.sI, h2.sI, h3.i36, h3.i33, hl, if_false, h3.txt, h3.chr hlt, x1_typ, bn, h3.sI, h4.i37, es, h4.sI]
    · rw [if_neg q, te]; exact a3
theorem x1_next (h : PS N pa ta L w c ty st en 0 eo) (he : en ≤ L) : ∃ N', f_X1_nextToken pa N = some N' ∧ FI pa N N' ∧ PS N' pa ta L w c (nT c L ty en) (nS c L en) (nE c L en) 0 eo := by
  have L1 := h.L1
  have hf := x1_failed h
  rw [b01_f (fun q => q rfl)] at hf
  have h29 : f_X1_nextToken pa N = fj_X1_nextToken_29 pa (b01 (ty = 1 ∨ ty = 2)) N := by
    by_cases c1 : ty = 1
    · rw [b01_t (Or.inl c1)]; simp only [f_X1_nextToken, fj_X1_nextToken_24, cK, h.k2, if_true, hf, bn, h.i35, Option.bind_some, c1]
    · by_cases c2 : ty = 2
      · rw [b01_t (Or.inr c2)]; simp only [f_X1_nextToken, fj_X1_nextToken_24, cK, h.k2, if_true, hf, bn, h.i35, Option.bind_some, c1, c2, if_false]
        rfl
      · rw [b01_f (fun e => e.elim c1 c2)]; simp only [f_X1_nextToken, cK, h.k2, if_true, hf, bn, h.i35, Option.bind_some, c1, c2, if_false]
  have hS := nS_le (c := c) he
  have key : fj_X1_nextToken_29 pa (b01 (ty = 1 ∨ ty = 2)) N = fj_X1_nextToken_82 pa (b01 (ty = 1 ∨ ty = 2)) (nI en) (wI N 36 pa (nI (nS c L en))) := by
    have e1 : fj_X1_nextToken_29 pa (b01 (ty = 1 ∨ ty = 2)) N = fj_X1_nextToken_43 pa (b01 (ty = 1 ∨ ty = 2)) (nI en) (wI N 36 pa (nI en)) := by
      simp only [fj_X1_nextToken_29, h.i37, Option.bind_some, h.sI]
    rw [e1]
    unfold fj_X1_nextToken_43 nS
    haveI : DecidablePred (fun i => ¬ blk (c i)) := fun _ => Classical.propDecidable _
    refine Eq.trans (loopM_find (st := fun i => wI N 36 pa (nI i)) (k := en) (N := L) (fun i => ¬ blk (c i)) (hit := fun i => fj_X1_nextToken_82 pa (b01 (ty = 1 ∨ ty = 2)) (nI en) (wI N 36 pa (nI i))) (miss := fj_X1_nextToken_82 pa (b01 (ty = 1 ∨ ty = 2)) (nI en) (wI N 36 pa (nI (en + (L - en))))) rfl (fun i hi hl q => ?_) (fun i hi hl q => ?_) ?_ he (FUn (by omega))) (skp_first c (fun i => fj_X1_nextToken_82 pa (b01 (ty = 1 ∨ ty = 2)) (nI en) (wI N 36 pa (nI i))) (L - en) en)
    · have h2 := h.wI36 (v := i)
      have hl' : ¬ (nI L ≤ nI i) := nI_ge hl (by omega)
      have q' : blk (c i) := Classical.not_not.mp q
      have ei : nI i + 1 = nI (i + 1) := nI_add i 1
      simp only [fc_X1_nextToken_43, h2.i36, h2.i33, Option.bind_some, hl', if_false, h2.txt, h2.chr hl, x1_blank, b01_t q', bn, e10, h2.sI, ei, wI_again]
    · have h2 := h.wI36 (v := i)
      have hl' : ¬ (nI L ≤ nI i) := nI_ge hl (by omega)
      simp only [fc_X1_nextToken_43, h2.i36, h2.i33, Option.bind_some, hl', if_false, h2.txt, h2.chr hl, x1_blank, b01_f q, bn, if_true]
    · have h2 := h.wI36 (v := L)
      have hl' : nI L ≤ nI L := Int32.le_refl _
      rw [show en + (L - en) = L by omega]
      simp only [fc_X1_nextToken_43, h2.i36, h2.i33, Option.bind_some, hl', if_true]
  obtain ⟨N', a1, a2, a3⟩ := x1_82 (h.wI36 (v := nS c L en)) hS.2 he (g := ty = 1 ∨ ty = 2) rfl
  refine ⟨N', by rw [h29, key]; exact a1, FI.wI.trans a2, ?_⟩
  unfold nT nE
  by_cases q : L ≤ nS c L en
  · rw [if_pos q] at a3 ⊢; exact a3
  · rw [if_neg q] at a3 ⊢
    by_cases q2 : ((typ (c (nS c L en)) = 1 ∨ typ (c (nS c L en)) = 2) ∧ (ty = 1 ∨ ty = 2) ∧ nS c L en = en) ∨ (typ (c (nS c L en)) = 2 ∧ 2 < tE c L (nS c L en) - nS c L en)
    · rw [if_pos q2] at a3; rw [if_pos q2]; exact a3
    · rw [if_neg q2] at a3; rw [if_neg q2]; exact a3
theorem x1_nextF (h : PS N pa ta L w c ty st en ek eo) (he : ek ≠ 0) : f_X1_nextToken pa N = some N := by
  have hf := x1_failed h
  rw [b01_t he] at hf
  simp only [f_X1_nextToken, cK, h.k2, if_true, hf, bn, e10, if_false]
end TN
