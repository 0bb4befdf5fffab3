/-! THE CLASS'S PARSER, in the words of what a text says -/
def FP (w pa : Nat) (N N' : Mem) : Prop := Fr (fun a => inW w a ∨ a = pa) N N' ∧ mB N' (w + 1) = mB N (w + 1) ∧ mB N' (w + 2) = mB N (w + 2) ∧ mZ N' = mZ N
theorem FP.refl {w pa : Nat} {N : Mem} : FP w pa N N := ⟨Fr.refl N, rfl, rfl, rfl⟩
theorem FP.trans {w pa : Nat} {N N' N2 : Mem} (h : FP w pa N N') (k : FP w pa N' N2) : FP w pa N N2 := ⟨h.1.tr k.1, k.2.1.trans h.2.1, k.2.2.1.trans h.2.2.1, k.2.2.2.trans h.2.2.2⟩
theorem FI.fr {pa : Nat} {N N' : Mem} (h : FI pa N N') : Fr (fun a => a = pa) N N' := by
  obtain ⟨a1, a2, a3, a4, a5, a6, a7, a8⟩ := h
  exact ⟨by rw [a7]; exact Nat.le_refl _, fun a _ => ⟨⟨by rw [a1], by rw [a2], fun f => by rw [a3]⟩, fun hn => ⟨fun f => a8 f a hn, by rw [a4], by rw [a5], by rw [a6]⟩⟩⟩
theorem FP.fi {w pa : Nat} {N N' : Mem} (h : FI pa N N') : FP w pa N N' := ⟨h.fr.mono (fun a e => Or.inr e), by rw [h.2.2.2.2.1], by rw [h.2.2.2.2.1], h.2.2.2.2.2.2.1⟩
theorem FP.fw {w pa : Nat} {N N' : Mem} (h : FrW w N N') : FP w pa N N' := ⟨h.1.mono (fun a e => Or.inl e), h.2.1, h.2.2.1, h.2.2.2⟩
def AP (N : Mem) (pa ta w : Nat) : Prop := (pa < w ∨ w + 24 ≤ pa) ∧ (ta < w ∨ w + 24 ≤ ta) ∧ w + 24 ≤ mZ N ∧ pa < mZ N ∧ ta < mZ N ∧ pa ≠ ta
theorem AP.up {N N' : Mem} {pa ta w : Nat} (h : AP N pa ta w) (hz : mZ N ≤ mZ N') : AP N' pa ta w := ⟨h.1, h.2.1, Nat.le_trans h.2.2.1 hz, Nat.lt_of_lt_of_le h.2.2.2.1 hz, Nat.lt_of_lt_of_le h.2.2.2.2.1 hz, h.2.2.2.2.2⟩
section CP
variable {N : Mem} {pa ta L w : Nat} {c : GF} {q : Cur} {p : Nat → Nat} {g : GF}
theorem PS.fw {N' : Mem} {ty : Int32} {st en : Nat} {ek eo : Int32} (h : PS N pa ta L w c ty st en ek eo) (f : Fr (inW w) N N') (ha : AP N pa ta w) : PS N' pa ta L w c ty st en ek eo := by
  obtain ⟨⟨a1, a2, a3, a4⟩, ⟨b1, b2, b3, b4⟩, c1, c2, c3, c4, c5⟩ := h
  obtain ⟨h1, h2, h3, h4, h5, h6⟩ := ha
  obtain ⟨⟨k1, k2, k3⟩, k4⟩ := f.2 pa h4
  obtain ⟨⟨l1, l2, l3⟩, l4⟩ := f.2 ta h5
  have m1 := (k4 (by unfold inW; omega)).1
  have m2 := (l4 (by unfold inW; omega)).2.1
  exact ⟨⟨k1.trans a1, (k3 _).trans a2, (m1 _).trans a3, (k3 _).trans a4⟩, ⟨l1.trans b1, by rw [l2]; exact b2, b3, fun i hi => by rw [m2]; exact b4 i hi⟩, (m1 _).trans c1, (m1 _).trans c2, (m1 _).trans c3, (m1 _).trans c4, (m1 _).trans c5⟩
/-- the parser goes well; q: its last token; and with its world -/
def CS (pa ta L w : Nat) (c : GF) (N : Mem) (q : Cur) : Prop := ∃ st, PS N pa ta L w c q.1 st q.2 0 (-1) ∧ st ≤ q.2 ∧ q.2 ≤ L
def CE (pa ta L w : Nat) (c : GF) (N : Mem) (k : Int32) (o : Nat) : Prop := k ≠ 0 ∧ mK N w = 4 ∧ ∃ ty st en, PS N pa ta L w c ty st en k (nI o) ∧ st ≤ en ∧ en ≤ L ∧ (ty = 1 ∨ ty = 2 → st < L)
def CG (pa ta L w : Nat) (c : GF) (p : Nat → Nat) (N : Mem) (g : GF) (q : Cur) : Prop := CS pa ta L w c N q ∧ RelP N w p g ∧ AP N pa ta w
/-- just behind reading a token: q is the one before -/
def CT (pa ta L w : Nat) (c : GF) (p : Nat → Nat) (N : Mem) (g : GF) (q : Cur) : Prop := PS N pa ta L w c (uT c L q) (uS c L q) (uE c L q) 0 (-1) ∧ q.2 ≤ L ∧ RelP N w p g ∧ AP N pa ta w
def Out (pa ta L w : Nat) (c : GF) (p : Nat → Nat) (N : Mem) (o : ER ⊕ (GF × Cur)) : Prop := (∀ k i, o = .inl (k, i) → CE pa ta L w c N k i) ∧ (∀ g' q', o = .inr (g', q') → CG pa ta L w c p N g' q')
theorem Out.er {k : Int32} {o : Nat} (h : CE pa ta L w c N k o) : Out pa ta L w c p N (.inl (k, o)) := ⟨fun k i e => by cases e; exact h, fun g' q' e => by cases e⟩
theorem Out.ok {g' : GF} {q' : Cur} (h : CG pa ta L w c p N g' q') : Out pa ta L w c p N (.inr (g', q')) := ⟨fun k i e => (by cases e), fun g' q' e => by cases e; exact h⟩
theorem CT.cs (h : CT pa ta L w c p N g q) : CG pa ta L w c p N g (uN c L q) := by
  have b := uN_le (c := c) h.2.1
  exact ⟨⟨uS c L q, h.1, b.2.1, b.2.2⟩, h.2.2⟩
theorem RelP.fi {N' : Mem} (h : RelP N w p g) (f : FI pa N N') (ha : AP N pa ta w) : RelP N' w p g := h.fr ha.2.2.1 f.fr (fun i hi => by have := ha.1; omega)
theorem CT.err (h : CT pa ta L w c p N g q) {k : Int32} (hk : k ≠ 0) : ∃ N', f_X1_fail pa k N = some N' ∧ FP w pa N N' ∧ CE pa ta L w c N' k (uS c L q) := by
  obtain ⟨N', e1, e2, e3⟩ := x1_fail0 h.1 (k := k)
  have b := uN_le (c := c) h.2.1
  exact ⟨N', e1, FP.fi e2, hk, by rw [e2.1]; exact h.2.2.1.1.1.1, _, _, _, e3, b.2.1, b.2.2, fun e => (uT_w e).1⟩
theorem CG.next (h : CG pa ta L w c p N g q) : ∃ N', f_X1_nextToken pa N = some N' ∧ FP w pa N N' ∧ CT pa ta L w c p N' g q := by
  obtain ⟨⟨st, h1, h2, h3⟩, h4, h5⟩ := h
  obtain ⟨N', e1, e2, e3⟩ := x1_next h1 h3
  exact ⟨N', e1, FP.fi e2, e3, h3, h4.fi e2 h5, h5.up (by rw [e2.2.2.2.2.2.2.1]; exact Nat.le_refl _)⟩
theorem CE.next {k : Int32} {o : Nat} (h : CE pa ta L w c N k o) : f_X1_nextToken pa N = some N := by
  obtain ⟨h1, h2, ty, st, en, h3, _⟩ := h
  exact x1_nextF h3 h1
theorem CE.fail {k : Int32} {o : Nat} (h : CE pa ta L w c N k o) {j : Int32} : f_X1_fail pa j N = some N := by
  obtain ⟨h1, h2, ty, st, en, h3, _⟩ := h
  exact x1_fail1 h3 h1
theorem CE.failed {k : Int32} {o : Nat} (h : CE pa ta L w c N k o) : f_X1_failed pa N = some (1, N) := by
  obtain ⟨h1, h2, ty, st, en, h3, _⟩ := h
  have := x1_failed h3
  rwa [b01_t h1] at this
theorem CG.failed (h : CG pa ta L w c p N g q) : f_X1_failed pa N = some (0, N) := by
  obtain ⟨⟨st, h1, h2, h3⟩, h4, h5⟩ := h
  have := x1_failed h1
  rwa [b01_f (fun e => e rfl)] at this
theorem CE.k2 {k : Int32} {o : Nat} (h : CE pa ta L w c N k o) : (mK N pa = 2) = True := by
  obtain ⟨h1, h2, ty, st, en, h3, _⟩ := h
  exact h3.k2
theorem CG.k2 (h : CG pa ta L w c p N g q) : (mK N pa = 2) = True := by obtain ⟨⟨st, h1, _⟩, _⟩ := h; exact h1.k2
theorem CE.wd {k : Int32} {o : Nat} (h : CE pa ta L w c N k o) : gRn 2 34 pa N = some w := by
  obtain ⟨h1, h2, ty, st, en, h3, _⟩ := h
  exact gRn_ok h3.1.1 h3.1.2.2.2
theorem CG.wd (h : CG pa ta L w c p N g q) : gRn 2 34 pa N = some w := by obtain ⟨⟨st, h1, _⟩, _⟩ := h; exact gRn_ok h1.1.1 h1.1.2.2.2
theorem CE.wi {k : Int32} {o : Nat} (h : CE pa ta L w c N k o) {f : Nat} : gI 4 f w N = some (mI N f w) := by unfold gI; rw [if_pos h.2.1]
theorem CG.i96 (h : CG pa ta L w c p N g q) : gI 4 96 w N = some (g 0) := by rw [WI h.2.1.1, h.2.1.2.1.1]
theorem CG.i97 (h : CG pa ta L w c p N g q) : gI 4 97 w N = some (g 1) := by rw [WI h.2.1.1, h.2.1.2.1.2.1]
theorem CG.i98 (h : CG pa ta L w c p N g q) : gI 4 98 w N = some (g 2) := by rw [WI h.2.1.1, h.2.1.2.1.2.2.1]
theorem CG.i99 (h : CG pa ta L w c p N g q) : gI 4 99 w N = some (g 3) := by rw [WI h.2.1.1, h.2.1.2.1.2.2.2]
theorem x1_num27 {ty : Int32} {st en : Nat} {ek eo lo hi : Int32} (h : PS N pa ta L w c ty st en ek eo) (hs : st ≤ en) (he : en ≤ L) : fj_X1_number_27 pa lo hi 0 (nI st) N = fj_X1_number_58 pa lo hi (nuV c st (en - st)) N := by
  have L1 := h.L1
  unfold fj_X1_number_27
  refine loopM_run (st := fun i => (nuV c st i, nI (st + i), N)) (N := en - st) rfl (fun i hi => ?_) ?_ (FUn (by omega))
  · have hl : ¬ (nI en ≤ nI (st + i)) := nI_ge (by omega) (by omega)
    have ei : nI (st + i) + 1 = nI (st + (i + 1)) := nI_add _ 1
    simp only [fc_X1_number_27, h.i37, Option.bind_some, hl, if_false, h.txt, h.chr (show st + i < L by omega), ei]
    rfl
  · have hl : nI en ≤ nI (st + (en - st)) := by rw [show st + (en - st) = en by omega]; exact Int32.le_refl _
    simp only [fc_X1_number_27, h.i37, Option.bind_some, hl, if_true]
theorem CT.num58 (h : CT pa ta L w c p N g q) {lo hi v : Int32} : ∃ N', fj_X1_number_58 pa lo hi v N = some (v, N') ∧ FP w pa N N' ∧ ((lo ≤ v ∧ v ≤ hi) → N' = N) ∧ (¬ (lo ≤ v ∧ v ≤ hi) → CE pa ta L w c N' 2 (uS c L q)) := by
  have k2 : (mK N pa = 2) = True := h.1.k2
  obtain ⟨N', e1, e2, e3⟩ := h.err (k := 2) (by decide)
  by_cases c1 : v < lo
  · refine ⟨N', ?_, e2, fun e => absurd c1 (Int32.not_lt.mpr e.1), fun _ => e3⟩
    simp only [fj_X1_number_58, fj_X1_number_68, fj_X1_number_73, c1, if_true, cK, k2, e1, Option.bind_some]
  · by_cases c2 : v ≤ hi
    · refine ⟨N, ?_, FP.refl, fun _ => rfl, fun e => absurd ⟨Int32.not_lt.mp c1, c2⟩ e⟩
      simp only [fj_X1_number_58, fj_X1_number_73, c1, c2, if_true, if_false]
    · refine ⟨N', ?_, e2, fun e => absurd e.2 c2, fun _ => e3⟩
      simp only [fj_X1_number_58, fj_X1_number_68, fj_X1_number_73, c1, c2, if_true, if_false, cK, k2, e1, Option.bind_some]
theorem c_num (h : CG pa ta L w c p N g q) {lo hi : Int32} : ∃ v N', f_X1_number pa lo hi N = some (v, N') ∧ FP w pa N N' ∧ (∀ k o, numR c L q lo hi = .inl (k, o) → CE pa ta L w c N' k o) ∧ (∀ u, numR c L q lo hi = .inr u → u = v ∧ CG pa ta L w c p N' g (uN c L q)) := by
  obtain ⟨N1, e1, e2, e3⟩ := h.next
  have k2 := h.k2
  have k2' := e3.1.k2
  have b := uN_le (c := c) e3.2.1
  by_cases t2 : uT c L q = 2
  · obtain ⟨N2, d1, d2, d3, d4⟩ := e3.num58 (lo := lo) (hi := hi) (v := uV c L q)
    have lp := x1_num27 (lo := lo) (hi := hi) e3.1 b.2.1 b.2.2
    refine ⟨uV c L q, N2, ?_, e2.trans d2, fun k o e => ?_, fun u e => ?_⟩
    · simp only [f_X1_number, cK, k2, if_true, e1, Option.bind_some, e3.1.i35, t2, e3.1.i36]
      exact lp.trans d1
    · unfold numR at e
      rw [cif_t t2] at e
      by_cases r : lo ≤ uV c L q ∧ uV c L q ≤ hi
      · rw [cif_t r] at e; cases e
      · rw [cif_f r] at e; cases e; exact d4 r
    · obtain ⟨_, r1, r2, r3⟩ := numR_inr e
      subst r3
      rw [d3 ⟨r1, r2⟩]
      exact ⟨rfl, e3.cs⟩
  · obtain ⟨N2, d1, d2, d3⟩ := e3.err (k := 1) (by decide)
    refine ⟨lo, N2, ?_, e2.trans d2, fun k o e => ?_, fun u e => absurd (numR_inr e).1 t2⟩
    · simp only [f_X1_number, cK, k2, k2', if_true, e1, Option.bind_some, e3.1.i35, t2, if_false, d1]
    · unfold numR at e
      rw [cif_f t2] at e; cases e; exact d3
theorem CE.num {k : Int32} {o : Nat} (h : CE pa ta L w c N k o) (lo hi : Int32) : ∃ v, f_X1_number pa lo hi N = some (v, N) := by
  have e1 := h.next
  have e2 := fun j => h.fail (j := j)
  have k2 := h.k2
  obtain ⟨h1, h2, ty, st, en, h3, h4, h5, h6⟩ := h
  by_cases t2 : ty = 2
  · have lp := x1_num27 (lo := lo) (hi := hi) h3 h4 h5
    refine ⟨nuV c st (en - st), ?_⟩
    have f68 : ∀ v, fj_X1_number_68 pa v N = some (v, N) := fun v => by simp only [fj_X1_number_68, fj_X1_number_73, cK, k2, if_true, e2, Option.bind_some]
    simp only [f_X1_number, cK, k2, if_true, e1, Option.bind_some, h3.i35, t2, h3.i36]
    rw [lp]
    unfold fj_X1_number_58
    rw [f68]
    by_cases c1 : nuV c st (en - st) < lo
    · rw [if_pos c1]
    · rw [if_neg c1]
      by_cases c2 : nuV c st (en - st) ≤ hi
      · rw [if_pos c2]; rfl
      · rw [if_neg c2]
  · refine ⟨lo, ?_⟩
    simp only [f_X1_number, cK, k2, if_true, e1, Option.bind_some, h3.i35, t2, if_false, e2]
theorem c_tag (h : CG pa ta L w c p N g q) : ∃ v N', f_X1_tag pa N = some (v, N') ∧ FP w pa N N' ∧ (∀ k o, tagR c L q = .inl (k, o) → CE pa ta L w c N' k o) ∧ (∀ u, tagR c L q = .inr u → u = v ∧ CG pa ta L w c p N' g (uN c L q) ∧ CT pa ta L w c p N' g q) := by
  obtain ⟨N1, e1, e2, e3⟩ := h.next
  have k2 := h.k2
  have k2' := e3.1.k2
  have b := uN_le (c := c) e3.2.1
  have L1 := e3.1.L1
  have sub : nI (uE c L q) - nI (uS c L q) = nI (uE c L q - uS c L q) := nI_sub b.2.1
  have bE : uE c L q ≤ L := b.2.2
  obtain ⟨N2, d1, d2, d3⟩ := e3.err (k := 1) (by decide)
  have f39 : fj_X1_tag_39 pa N1 = some (0, N2) := by simp only [fj_X1_tag_39, cK, k2', if_true, d1, Option.bind_some]
  have bad : ¬ (uT c L q = 1 ∧ uE c L q - uS c L q = 1 ∧ c (uS c L q) < 113) → f_X1_tag pa N = some (0, N2) → ∃ v N', f_X1_tag pa N = some (v, N') ∧ FP w pa N N' ∧ (∀ k o, tagR c L q = .inl (k, o) → CE pa ta L w c N' k o) ∧ (∀ u, tagR c L q = .inr u → u = v ∧ CG pa ta L w c p N' g (uN c L q) ∧ CT pa ta L w c p N' g q) := fun hn e => by
    refine ⟨0, N2, e, e2.trans d2, fun k o e => ?_, fun u e => absurd (tagR_inr e).1 hn⟩
    unfold tagR at e
    rw [cif_f hn] at e; cases e; exact d3
  by_cases t1 : uT c L q = 1
  · have hlt := (uT_w (Or.inl t1)).1
    by_cases t2 : uE c L q - uS c L q = 1
    · by_cases t3 : c (uS c L q) < 113
      · refine ⟨c (uS c L q) - 97, N1, ?_, e2, fun k o e => ?_, fun u e => ?_⟩
        · have : (nI 1 = 1) = True := eq_true rfl
          simp only [f_X1_tag, cK, k2, if_true, e1, Option.bind_some, e3.1.i35, t1, e3.1.i37, e3.1.i36, sub, t2, this, e3.1.txt, e3.1.chr hlt, t3]
        · unfold tagR at e
          rw [cif_t ⟨t1, t2, t3⟩] at e; cases e
        · exact ⟨(tagR_inr e).2, e3.cs, e3⟩
      · refine bad (fun e => t3 e.2.2) ?_
        have : (nI 1 = 1) = True := eq_true rfl
        simp only [f_X1_tag, cK, k2, if_true, e1, Option.bind_some, e3.1.i35, t1, e3.1.i37, e3.1.i36, sub, t2, this, e3.1.txt, e3.1.chr hlt, t3, if_false, f39]
    · refine bad (fun e => t2 e.2.1) ?_
      have : (nI (uE c L q - uS c L q) = 1) = False := nI_eqF (b := 1) t2 (by omega) (by omega)
      simp only [f_X1_tag, cK, k2, if_true, e1, Option.bind_some, e3.1.i35, t1, e3.1.i37, e3.1.i36, sub, this, if_false, f39]
  · refine bad (fun e => t1 e.1) ?_
    simp only [f_X1_tag, cK, k2, if_true, e1, Option.bind_some, e3.1.i35, t1, if_false, f39]
theorem CE.tag {k : Int32} {o : Nat} (h : CE pa ta L w c N k o) : ∃ v, f_X1_tag pa N = some (v, N) := by
  have e1 := h.next
  have e2 := fun j => h.fail (j := j)
  have k2 := h.k2
  obtain ⟨h1, h2, ty, st, en, h3, h4, h5, h6⟩ := h
  have f39 : fj_X1_tag_39 pa N = some (0, N) := by simp only [fj_X1_tag_39, cK, k2, if_true, e2, Option.bind_some]
  by_cases t1 : ty = 1
  · by_cases t2 : nI en - nI st = 1
    · have hlt := h6 (Or.inl t1)
      by_cases t3 : c st < 113
      · exact ⟨c st - 97, by simp only [f_X1_tag, cK, k2, if_true, e1, Option.bind_some, h3.i35, t1, h3.i37, h3.i36, t2, h3.txt, h3.chr hlt, t3]⟩
      · exact ⟨0, by simp only [f_X1_tag, cK, k2, if_true, e1, Option.bind_some, h3.i35, t1, h3.i37, h3.i36, t2, h3.txt, h3.chr hlt, t3, if_false, f39]⟩
    · exact ⟨0, by simp only [f_X1_tag, cK, k2, if_true, e1, Option.bind_some, h3.i35, t1, h3.i37, h3.i36, t2, if_false, f39]⟩
  · exact ⟨0, by simp only [f_X1_tag, cK, k2, if_true, e1, Option.bind_some, h3.i35, t1, if_false, f39]⟩
theorem sLEN_lt : ∀ i : Fin 10, sLEN.getD i.val 0 < 1000 := by decide +kernel
theorem jLen_ok {i : Nat} (h : i < 10) : jLen i = some (nI (sLEN.getD i 0)) := if_pos (Nat.lt_of_lt_of_le h (by decide))
theorem jChr_ok {i k : Nat} (h : i < 10) (hk : k < sLEN.getD i 0) : jChr i (nI k) = some (jByt i k) := by
  have := sLEN_lt ⟨i, h⟩
  unfold jChr
  dsimp only at this
  rw [nI_cl (by omega), if_pos ⟨Nat.lt_of_lt_of_le h (by decide), fun e => e.elim (nI_pos (by omega)) (fun e => by omega)⟩]
theorem c_isW (h : CT pa ta L w c p N g q) {i : Nat} (hi : i < 10) : f_X1_isWord pa i N = some (b01 (isW c L i q), N) := by
  have b := uN_le (c := c) h.2.1
  have bE : uE c L q ≤ L := b.2.2
  have L1 := h.1.L1
  have sub : nI (uE c L q) - nI (uS c L q) = nI (uE c L q - uS c L q) := nI_sub b.2.1
  have ln := sLEN_lt ⟨i, hi⟩
  dsimp only at ln
  by_cases t1 : uT c L q = 1
  · by_cases t2 : uE c L q - uS c L q = sLEN.getD i 0
    · have et : (nI (sLEN.getD i 0) = nI (sLEN.getD i 0)) = True := eq_true rfl
      have lp : fj_X1_isWord_28 pa i 0 N = some (b01 (isW c L i q), N) := by
        haveI : DecidablePred (fun j => c (uS c L q + j) ≠ jByt i j) := fun _ => Classical.propDecidable _
        unfold fj_X1_isWord_28
        refine Eq.trans (loopM_find (st := fun j => (nI j, N)) (k := 0) (N := sLEN.getD i 0) (fun j => c (uS c L q + j) ≠ jByt i j) (hit := fun _ => some ((0 : Int32), N)) (miss := some ((1 : Int32), N)) rfl (fun j _ hj hp => ?_) (fun j _ hj hp => ?_) ?_ (Nat.zero_le _) (FUn (by omega))) ?_
        · have hp' : c (uS c L q + j) = jByt i j := Classical.not_not.mp hp
          have hl : ¬ (nI (sLEN.getD i 0) ≤ nI j) := nI_ge hj (by omega)
          have ea : nI (uS c L q) + nI j = nI (uS c L q + j) := nI_add _ _
          have ej : nI j + 1 = nI (j + 1) := nI_add _ 1
          simp only [fc_X1_isWord_28, jLen_ok hi, Option.bind_some, hl, if_false, h.1.txt, h.1.i36, ea, h.1.chr (show uS c L q + j < L by omega), jChr_ok hi hj, hp', if_true, ej]
        · have hl : ¬ (nI (sLEN.getD i 0) ≤ nI j) := nI_ge hj (by omega)
          have ea : nI (uS c L q) + nI j = nI (uS c L q + j) := nI_add _ _
          have hp' : (c (uS c L q + j) = jByt i j) = False := eq_false hp
          simp only [fc_X1_isWord_28, fj_X1_isWord_55, jLen_ok hi, Option.bind_some, hl, if_false, h.1.txt, h.1.i36, ea, h.1.chr (show uS c L q + j < L by omega), jChr_ok hi hj, hp']
        · have hl : nI (sLEN.getD i 0) ≤ nI (sLEN.getD i 0) := Int32.le_refl _
          simp only [fc_X1_isWord_28, fj_X1_isWord_63, jLen_ok hi, Option.bind_some, hl, if_true]
        · rw [firstF_ex]
          by_cases ex : ∃ j, 0 ≤ j ∧ j < 0 + (sLEN.getD i 0 - 0) ∧ c (uS c L q + j) ≠ jByt i j
          · rw [if_pos ex, b01_f (fun e => by obtain ⟨j, _, j2, j3⟩ := ex; exact j3 (e.2.2 j (by omega)))]
          · rw [if_neg ex, b01_t (show isW c L i q from ⟨t1, t2, fun j hj => Classical.not_not.mp (fun e => ex ⟨j, Nat.zero_le _, by omega, e⟩)⟩)]
      simp only [f_X1_isWord, h.1.i35, t1, if_true, h.1.i37, h.1.i36, Option.bind_some, jLen_ok hi, sub, t2, et, lp]
    · rw [b01_f (fun e => t2 e.2.1)]
      have et : (nI (uE c L q - uS c L q) = nI (sLEN.getD i 0)) = False := nI_eqF t2 (by omega) (by omega)
      simp only [f_X1_isWord, fj_X1_isWord_24, h.1.i35, t1, if_true, h.1.i37, h.1.i36, Option.bind_some, jLen_ok hi, sub, et, if_false]
  · rw [b01_f (fun e => t1 e.1)]
    simp only [f_X1_isWord, fj_X1_isWord_24, h.1.i35, t1, if_false, Option.bind_some]
/-- a number is read, and what follows -/
theorem st_num (h : CG pa ta L w c p N g q) {K : Int32 → Mem → Option Mem} {sp : Int32 → ER ⊕ (GF × Cur)} {lo hi : Int32}
    (hk : ∀ v N', numR c L q lo hi = .inr v → CG pa ta L w c p N' g (uN c L q) → ∃ N2, K v N' = some N2 ∧ FP w pa N' N2 ∧ Out pa ta L w c p N2 (sp v))
    (hf : ∀ v N' k o, CE pa ta L w c N' k o → K v N' = some N') : ∃ N2, bn (cK 2 pa N (f_X1_number pa lo hi N)) K = some N2 ∧ FP w pa N N2 ∧ Out pa ta L w c p N2 (sb (numR c L q lo hi) sp) := by
  obtain ⟨v, N1, e1, e2, e3, e4⟩ := c_num h (lo := lo) (hi := hi)
  rw [cK_ok (of_eq_true h.k2), e1, bn_some]
  cases hn : numR c L q lo hi with
  | inl e =>
    obtain ⟨k, o⟩ := e
    have := e3 k o hn
    exact ⟨N1, hf v N1 k o this, e2, Out.er this⟩
  | inr u =>
    obtain ⟨rfl, d⟩ := e4 u hn
    obtain ⟨N2, k1, k2, k3⟩ := hk u N1 hn d
    exact ⟨N2, k1, e2.trans k2, k3⟩
theorem st_tag (h : CG pa ta L w c p N g q) {K : Int32 → Mem → Option Mem} {sp : Int32 → ER ⊕ (GF × Cur)}
    (hk : ∀ v N', tagR c L q = .inr v → CG pa ta L w c p N' g (uN c L q) → CT pa ta L w c p N' g q → ∃ N2, K v N' = some N2 ∧ FP w pa N' N2 ∧ Out pa ta L w c p N2 (sp v))
    (hf : ∀ v N' k o, CE pa ta L w c N' k o → K v N' = some N') : ∃ N2, bn (cK 2 pa N (f_X1_tag pa N)) K = some N2 ∧ FP w pa N N2 ∧ Out pa ta L w c p N2 (sb (tagR c L q) sp) := by
  obtain ⟨v, N1, e1, e2, e3, e4⟩ := c_tag h
  rw [cK_ok (of_eq_true h.k2), e1, bn_some]
  cases hn : tagR c L q with
  | inl e =>
    obtain ⟨k, o⟩ := e
    have := e3 k o hn
    exact ⟨N1, hf v N1 k o this, e2, Out.er this⟩
  | inr u =>
    obtain ⟨rfl, d, d'⟩ := e4 u hn
    obtain ⟨N2, k1, k2, k3⟩ := hk u N1 hn d d'
    exact ⟨N2, k1, e2.trans k2, k3⟩
/-- a row is written -/
theorem CG.row (h : CG pa ta L w c p N g q) {r : Nat} (hr : r < 4) {a b : GF} (e : ∀ i, i < 132 → a i = b i) : FP w pa N (wA N (clo w p r) a) ∧ CG pa ta L w c p (wA N (clo w p r) a) (put g r b) q := by
  obtain ⟨⟨st, h1, h2, h3⟩, h4, h5⟩ := h
  have f : Fr (inW w) N (wA N (clo w p r) a) := Fr.wA (clo_in h4.1 (by omega))
  exact ⟨⟨f.mono (fun a h => Or.inl h), rfl, rfl, rfl⟩, ⟨st, h1.fw f h5, h2, h3⟩, h4.put (by omega) e, h5⟩
theorem CG.st (h : CG pa ta L w c p N g q) {r : Nat} (hr : r < 4 + mcn g) (h10 : r < 10) : St N (sto w p r) (clo w p r) ∧ (∀ i, i < 132 → mA N (clo w p r) i = Jvm.Pilot.COfflineNotesLaw_law_r8929_57547b.row g r i) := ⟨h.2.1.1.row h10, fun i hi => h.2.1.2.2.1 r h10 hr i hi⟩
theorem CG.r100 (h : CG pa ta L w c p N g q) : gRn 4 100 w N = some (w + 1) := W100 h.2.1.1
theorem CG.r101 (h : CG pa ta L w c p N g q) : gRn 4 101 w N = some (w + 2) := W101 h.2.1.1
theorem CG.b1 (h : CG pa ta L w c p N g q) {r : Nat} (hr : r < 4) : gBn 10 (w + 1) (nI r) N = some (sto w p r) := WB1 h.2.1.1 hr
theorem CG.b2 (h : CG pa ta L w c p N g q) {r : Nat} (hr : r < 6) : gBn 10 (w + 2) (nI r) N = some (sto w p (4 + r)) := WB2 h.2.1.1 hr
theorem c_cnt (h : CG pa ta L w c p N g q) {k : Nat} (hw : Wf k g) {part : Nat} (hp : part = 4 ∨ part = 20) : ∃ N2, f_X1_runCounterLine pa (nI part) N = some N2 ∧ FP w pa N N2 ∧ Out pa ta L w c p N2 (lCnt c L part g q) := by
  obtain ⟨⟨R, C, Q, m, d1, d2, d3, d4, x1, x2, x3, x4, x5⟩, hr⟩ := id hw
  unfold lCnt
  simp only [f_X1_runCounterLine, h.wd, h.i96, Option.bind_some]
  refine st_num h (fun r N1 n1 h1 => ?_) (fun v N1 k o he => ?_)
  · simp only [h1.wd, h1.i97, Option.bind_some]
    refine st_num h1 (fun s N2 n2 h2 => ?_) (fun v N2 k o he => ?_)
    · refine st_num h2 (fun a N3 n3 h3 => ?_) (fun v N3 k o he => ?_)
      · rw [d1] at n1; rw [d2] at n2
        obtain ⟨r, hr1, rfl⟩ := num_ix (by omega) n1
        obtain ⟨s, hs1, rfl⟩ := num_ix (by omega) n2
        rw [tn_nI (by omega), tn_nI (by omega)]
        obtain ⟨s1, s2⟩ := h3.st (r := r) (by omega) (by omega)
        have ad := X2_addToSum (i := part) (j := s) (k := r) (v := a) s1 (by omega) (by omega) (by omega)
        obtain ⟨y1, y2⟩ := h3.row (r := r) (by omega) (a := u1 (mA N3 (clo w p r)) (part + s * 4 + r) (mA N3 (clo w p r) (part + s * 4 + r) + a)) (b := u1 (row g r) (part + (4 * s + r)) (row g r (part + (4 * s + r)) + a)) (fun i hi => by
          rw [show part + s * 4 + r = part + (4 * s + r) by omega]
          unfold u1
          by_cases e : i = part + (4 * s + r)
          · rw [if_pos e, if_pos e, s2 _ (by omega)]
          · rw [if_neg e, if_neg e, s2 i hi])
        refine ⟨_, ?_, y1, Out.ok y2⟩
        have k3 : (mK N3 (sto w p r) = 3) = True := eq_true s1.1
        simp only [cK, h3.k2, h3.failed, bn, if_true, h3.wd, h3.r100, h3.b1 (show r < 4 by omega), k3, Option.bind_some, ad, fj_X1_runCounterLine_63]
      · simp only [cK, he.k2, he.failed, bn, if_true, e10, if_false, fj_X1_runCounterLine_63]
    · obtain ⟨v', e'⟩ := he.num 1 99
      simp only [cK, he.k2, e', he.failed, bn, if_true, e10, if_false, fj_X1_runCounterLine_63]
  · obtain ⟨v2, e2⟩ := he.num 0 (mI N1 97 w - 1)
    obtain ⟨v', e'⟩ := he.num 1 99
    simp only [he.wd, he.wi, Option.bind_some, cK, he.k2, e2, e', he.failed, bn, if_true, e10, if_false, fj_X1_runCounterLine_63]
theorem c_wri (h : CG pa ta L w c p N g q) {k : Nat} (hw : Wf k g) : ∃ N2, f_X1_runWrite pa N = some N2 ∧ FP w pa N N2 ∧ Out pa ta L w c p N2 (lWri c L g q) := by
  obtain ⟨⟨R, C, Q, m, d1, d2, d3, d4, x1, x2, x3, x4, x5⟩, hr⟩ := id hw
  unfold lWri
  simp only [f_X1_runWrite, h.wd, h.i96, Option.bind_some]
  refine st_num h (fun r N1 n1 h1 => ?_) (fun v N1 k o he => ?_)
  · simp only [h1.wd, h1.i98, Option.bind_some]
    refine st_num h1 (fun s N2 n2 h2 => ?_) (fun v N2 k o he => ?_)
    · refine st_num h2 (fun a N3 n3 h3 => ?_) (fun v N3 k o he => ?_)
      · rw [d1] at n1; rw [d3] at n2
        obtain ⟨r, hr1, rfl⟩ := num_ix (by omega) n1
        obtain ⟨s, hs1, rfl⟩ := num_ix (by omega) n2
        rw [tn_nI (by omega), tn_nI (by omega)]
        obtain ⟨s1, s2⟩ := h3.st (r := r) (by omega) (by omega)
        have ad := X2_putEntry (r := r) (t := s) (v := a) s1 (by omega) (by omega)
        obtain ⟨y1, y2⟩ := h3.row (r := r) (by omega) (a := newN (mA N3 (clo w p r)) (100 + s * 4) r a 4) (b := newN (row g r) (100 + 4 * s) r a 4) (fun i hi => by
          rw [show 100 + s * 4 = 100 + 4 * s by omega]; exact newN_congr s2 (by omega) i hi)
        refine ⟨_, ?_, y1, Out.ok y2⟩
        have k3 : (mK N3 (sto w p r) = 3) = True := eq_true s1.1
        simp only [cK, h3.k2, h3.failed, bn, if_true, h3.wd, h3.r100, h3.b1 (show r < 4 by omega), k3, Option.bind_some, ad, fj_X1_runWrite_60]
      · simp only [cK, he.k2, he.failed, bn, if_true, e10, if_false, fj_X1_runWrite_60]
    · obtain ⟨v', e'⟩ := he.num 0 99
      simp only [cK, he.k2, e', he.failed, bn, if_true, e10, if_false, fj_X1_runWrite_60]
  · obtain ⟨v2, e2⟩ := he.num 0 (mI N1 98 w - 1)
    obtain ⟨v', e'⟩ := he.num 0 99
    simp only [he.wd, he.wi, Option.bind_some, cK, he.k2, e2, e', he.failed, bn, if_true, e10, if_false, fj_X1_runWrite_60]
theorem c_add (h : CG pa ta L w c p N g q) {k : Nat} (hw : Wf k g) : ∃ N2, f_X1_runAdd pa N = some N2 ∧ FP w pa N N2 ∧ Out pa ta L w c p N2 (lAdd c L g q) := by
  obtain ⟨⟨R, C, Q, m, d1, d2, d3, d4, x1, x2, x3, x4, x5⟩, hr⟩ := id hw
  unfold lAdd
  simp only [f_X1_runAdd, h.wd, h.i96, Option.bind_some]
  refine st_num h (fun r N1 n1 h1 => ?_) (fun v N1 k o he => ?_)
  · refine st_tag h1 (fun t N2 n2 h2 _ => ?_) (fun v N2 k o he => ?_)
    · rw [d1] at n1
      obtain ⟨r, hr1, rfl⟩ := num_ix (by omega) n1
      obtain ⟨t, ht1, rfl⟩ := tag_ix n2
      rw [tn_nI (by omega), tn_nI (by omega)]
      obtain ⟨s1, s2⟩ := h2.st (r := r) (by omega) (by omega)
      have ad := X2_putTag (r := r) (t := t) s1 (by omega) (by omega)
      obtain ⟨y1, y2⟩ := h2.row (r := r) (by omega) (a := newN (mA N2 (clo w p r)) (36 + t * 4) r 0 4) (b := newN (row g r) (36 + 4 * t) r 0 4) (fun i hi => by
        rw [show 36 + t * 4 = 36 + 4 * t by omega]; exact newN_congr s2 (by omega) i hi)
      refine ⟨_, ?_, y1, Out.ok y2⟩
      have k3 : (mK N2 (sto w p r) = 3) = True := eq_true s1.1
      simp only [cK, h2.k2, h2.failed, bn, if_true, h2.wd, h2.r100, h2.b1 (show r < 4 by omega), k3, Option.bind_some, ad, fj_X1_runAdd_41]
    · simp only [cK, he.k2, he.failed, bn, if_true, e10, if_false, fj_X1_runAdd_41]
  · obtain ⟨v', e'⟩ := he.tag
    simp only [cK, he.k2, e', he.failed, bn, if_true, e10, if_false, fj_X1_runAdd_41]
theorem c_mer (h : CG pa ta L w c p N g q) {k : Nat} (hw : Wf k g) : ∃ N2, f_X1_runMerge pa N = some N2 ∧ FP w pa N N2 ∧ Out pa ta L w c p N2 (lMer c L g q) := by
  obtain ⟨⟨R, C, Q, m, d1, d2, d3, d4, x1, x2, x3, x4, x5⟩, hr⟩ := id hw
  have hm : mcn g = m := by unfold mcn; rw [d4, nI_cl (by omega)]
  unfold lMer
  simp only [f_X1_runMerge, h.wd, h.i96, Option.bind_some]
  refine st_num h (fun r N1 n1 h1 => ?_) (fun v N1 k o he => ?_)
  · simp only [h1.wd, h1.i96, Option.bind_some]
    refine st_num h1 (fun s N2 n2 h2 => ?_) (fun v N2 k o he => ?_)
    · rw [d1] at n1 n2
      obtain ⟨r, hr1, rfl⟩ := num_ix (by omega) n1
      obtain ⟨s, hs1, rfl⟩ := num_ix (by omega) n2
      rw [tn_nI (by omega), tn_nI (by omega)]
      obtain ⟨s1, s2⟩ := h2.st (r := r) (by omega) (by omega)
      obtain ⟨t1, t2⟩ := h2.st (r := s) (by omega) (by omega)
      have ad := X2_absorb s1 t1
      obtain ⟨y1, y2⟩ := h2.row (r := r) (by omega) (a := absF (mA N2 (clo w p r)) (mA N2 (clo w p s))) (b := absR (row g r) (row g s)) (fun i hi => absF_of s2 t2 (hr r (by omega) (by omega)) (hr s (by omega) (by omega)) hi)
      refine ⟨_, ?_, y1, Out.ok y2⟩
      have k3 : (mK N2 (sto w p r) = 3) = True := eq_true s1.1
      simp only [cK, h2.k2, h2.failed, bn, if_true, h2.wd, h2.r100, h2.b1 (show r < 4 by omega), h2.b1 (show s < 4 by omega), k3, Option.bind_some, ad, fj_X1_runMerge_58]
    · simp only [cK, he.k2, he.failed, bn, if_true, e10, if_false, fj_X1_runMerge_58]
  · obtain ⟨v', e'⟩ := he.num 0 (mI N1 96 w - 1)
    simp only [he.wd, he.wi, Option.bind_some, cK, he.k2, e', he.failed, bn, if_true, e10, if_false, fj_X1_runMerge_58]
theorem c_del (h : CG pa ta L w c p N g q) {k : Nat} (hw : Wf k g) : ∃ N2, f_X1_runDeliver pa N = some N2 ∧ FP w pa N N2 ∧ Out pa ta L w c p N2 (lDel c L g q) := by
  obtain ⟨⟨R, C, Q, m, d1, d2, d3, d4, x1, x2, x3, x4, x5⟩, hr⟩ := id hw
  have hm : mcn g = m := by unfold mcn; rw [d4, nI_cl (by omega)]
  unfold lDel
  simp only [f_X1_runDeliver, h.wd, h.i99, Option.bind_some]
  refine st_num h (fun s N1 n1 h1 => ?_) (fun v N1 k o he => ?_)
  · simp only [h1.wd, h1.i96, Option.bind_some]
    refine st_num h1 (fun r N2 n2 h2 => ?_) (fun v N2 k o he => ?_)
    · rw [d4] at n1; rw [d1] at n2
      obtain ⟨s, hs1, rfl⟩ := num_ix (by omega) n1
      obtain ⟨r, hr1, rfl⟩ := num_ix (by omega) n2
      rw [tn_nI (by omega), tn_nI (by omega)]
      obtain ⟨s1, s2⟩ := h2.st (r := r) (by omega) (by omega)
      obtain ⟨t1, t2⟩ := h2.st (r := 4 + s) (by omega) (by omega)
      have ad := X2_absorb s1 t1
      obtain ⟨y1, y2⟩ := h2.row (r := r) (by omega) (a := absF (mA N2 (clo w p r)) (mA N2 (clo w p (4 + s)))) (b := absR (row g r) (row g (4 + s))) (fun i hi => absF_of s2 t2 (hr r (by omega) (by omega)) (hr (4 + s) (by omega) (by omega)) hi)
      refine ⟨_, ?_, y1, Out.ok y2⟩
      have k3 : (mK N2 (sto w p r) = 3) = True := eq_true s1.1
      simp only [cK, h2.k2, h2.failed, bn, if_true, h2.wd, h2.r100, h2.r101, h2.b1 (show r < 4 by omega), h2.b2 (show s < 6 by omega), k3, Option.bind_some, ad, fj_X1_runDeliver_58]
    · simp only [cK, he.k2, he.failed, bn, if_true, e10, if_false, fj_X1_runDeliver_58]
  · obtain ⟨v', e'⟩ := he.num 0 (mI N1 96 w - 1)
    simp only [he.wd, he.wi, Option.bind_some, cK, he.k2, e', he.failed, bn, if_true, e10, if_false, fj_X1_runDeliver_58]
theorem c_rem (h : CG pa ta L w c p N g q) {k : Nat} (hw : Wf k g) : ∃ N2, f_X1_runRemove pa N = some N2 ∧ FP w pa N N2 ∧ Out pa ta L w c p N2 (lRem c L g q) := by
  obtain ⟨⟨R, C, Q, m, d1, d2, d3, d4, x1, x2, x3, x4, x5⟩, hr⟩ := id hw
  unfold lRem
  simp only [f_X1_runRemove, h.wd, h.i96, Option.bind_some]
  refine st_num h (fun r N1 n1 h1 => ?_) (fun v N1 k o he => ?_)
  · refine st_tag h1 (fun t N2 n2 h2 h2t => ?_) (fun v N2 k o he => ?_)
    · rw [d1] at n1
      obtain ⟨r, hr1, rfl⟩ := num_ix (by omega) n1
      obtain ⟨t, ht1, rfl⟩ := tag_ix n2
      rw [tn_nI (by omega), tn_nI (by omega)]
      obtain ⟨s1, s2⟩ := h2.st (r := r) (by omega) (by omega)
      have wr := hr r (by omega) (by omega)
      have dt := X2_dotsOfTag (t := t) s1 (by omega)
      have ed := dl (f := 36 + t * 4) (f' := 36 + 4 * t) s2 wr (by omega) (by omega)
      rw [ed] at dt
      have hl := lve_lt (row g r) (36 + 4 * t)
      have k3 : (mK N2 (sto w p r) = 3) = True := eq_true s1.1
      by_cases z : lve (row g r) (36 + 4 * t) = 0
      · rw [if_pos z]
        obtain ⟨N3, f1, f2, f3⟩ := h2t.err (k := 3) (by decide)
        have s3 := s1.fr f2.1 (by have := h2.2.2.2.2.1; have := sto_lt h2.2.1.1 (t := r) (by omega); omega) (by have := h2.2.2.2.2.1; have := sto_lt h2.2.1.1 (t := r) (by omega); unfold clo; omega)
        have ad := X2_clearTag (t := t) s3 (by omega)
        have k3' : (mK N3 (sto w p r) = 3) = True := eq_true s3.1
        have ws3 := h2.2.1.1.fr h2.2.2.2.2.1 f2.1 ⟨f2.2.1, f2.2.2.1⟩
        have fw : Fr (inW w) N3 (wA N3 (clo w p r) (zap (mA N3 (clo w p r)) (36 + t * 4) 4)) := Fr.wA (clo_in ws3 (by omega))
        obtain ⟨g1, g2, ty, st, en, g3, g4⟩ := f3
        refine ⟨_, ?_, f2.trans ⟨fw.mono (fun a h => Or.inl h), rfl, rfl, rfl⟩, Out.er ⟨g1, g2, ty, st, en, g3.fw fw (h2.2.2.up f2.1.1), g4⟩⟩
        have z0 : (nI (lve (row g r) (36 + 4 * t)) = 0) = True := eq_true (by rw [z]; rfl)
        simp only [cK, h2.k2, h2.failed, bn, if_true, h2.wd, h2.r100, h2.b1 (show r < 4 by omega), k3, k3', Option.bind_some, dt, z0, f1, ad, fj_X1_runRemove_51]
      · rw [if_neg z]
        have ad := X2_clearTag (t := t) s1 (by omega)
        obtain ⟨y1, y2⟩ := h2.row (r := r) (by omega) (a := zap (mA N2 (clo w p r)) (36 + t * 4) 4) (b := zap (row g r) (36 + 4 * t) 4) (fun i hi => by
          rw [show 36 + t * 4 = 36 + 4 * t by omega]; exact zap_congr s2 i hi)
        refine ⟨_, ?_, y1, Out.ok y2⟩
        have z0 : (nI (lve (row g r) (36 + 4 * t)) = 0) = False := nI_eqF (b := 0) z (by omega) (by omega)
        simp only [cK, h2.k2, h2.failed, bn, if_true, h2.wd, h2.r100, h2.b1 (show r < 4 by omega), k3, Option.bind_some, dt, z0, if_false, ad, fj_X1_runRemove_51]
    · simp only [cK, he.k2, he.failed, bn, if_true, e10, if_false]
  · obtain ⟨v', e'⟩ := he.tag
    simp only [cK, he.k2, e', he.failed, bn, if_true, e10, if_false]
theorem c_sen (h : CT pa ta L w c p N g q) {k : Nat} (hw : Wf k g) : ∃ N2, f_X1_runSend pa N = some N2 ∧ FP w pa N N2 ∧ Out pa ta L w c p N2 (lSen c L g q) := by
  obtain ⟨⟨R, C, Q, m, d1, d2, d3, d4, x1, x2, x3, x4, x5⟩, hr⟩ := id hw
  have hm : mcn g = m := by unfold mcn; rw [d4, nI_cl (by omega)]
  have h0 := h.cs
  unfold lSen
  by_cases z : m = 6
  · have z6 : g 3 = 6 := by rw [d4, z]; rfl
    rw [if_pos z6]
    obtain ⟨N3, f1, f2, f3⟩ := h.err (k := 4) (by decide)
    refine ⟨N3, ?_, f2, Out.er f3⟩
    obtain ⟨v', e'⟩ := f3.num 0 (mI N3 96 w - 1)
    simp only [f_X1_runSend, fj_X1_runSend_17, h0.wd, h0.i99, Option.bind_some, z6, show ((6 : Int32) < 6) = False from eq_false (by decide), if_false, cK, h0.k2, if_true, f1, f3.wd, f3.wi, f3.k2, e', f3.failed, bn, e10, fj_X1_runSend_47]
  · have z6 : ¬ g 3 = 6 := by rw [d4]; exact of_eq_false (nI_eqF (b := 6) z (by omega) (by omega))
    have z7 : (g 3 < 6) = True := by rw [d4]; exact nI_ltT (b := 6) (by omega) (by omega)
    rw [if_neg z6]
    simp only [f_X1_runSend, fj_X1_runSend_17, h0.wd, h0.i99, h0.i96, Option.bind_some, z7, if_true]
    refine st_num h0 (fun r N1 n1 h1 => ?_) (fun v N1 k o he => ?_)
    · rw [d1] at n1
      obtain ⟨r, hr1, rfl⟩ := num_ix (by omega) n1
      rw [tn_nI (by omega)]
      obtain ⟨N2, y1, y2, y3⟩ := X3_addMessage (r := r) h1.2.1 h1.2.2.2.2.1 (by omega) (by omega) (by rw [hm]; exact d4)
      refine ⟨N2, ?_, FP.fw y2, Out.ok ?_⟩
      · have k4 : (mK N1 w = 4) = True := eq_true h1.2.1.1.1.1
        simp only [cK, h1.k2, h1.failed, bn, if_true, h1.wd, k4, Option.bind_some, y1, fj_X1_runSend_47]
      · obtain ⟨⟨st, q1, q2, q3⟩, q4, q5⟩ := h1
        exact ⟨⟨st, q1.fw y2.1 q5, q2, q3⟩, y3, q5.up y2.1.1⟩
    · simp only [cK, he.k2, he.failed, bn, if_true, e10, if_false, fj_X1_runSend_47]
theorem c_line (h : CG pa ta L w c p N g q) {k : Nat} (hw : Wf k g) : ∃ N2, f_X1_runLine pa N = some N2 ∧ FP w pa N N2 ∧ Out pa ta L w c p N2 (lineR c L g q) := by
  obtain ⟨N1, e1, e2, e3⟩ := h.next
  have h1 := e3.cs
  have W := fun i (hi : i < 10) => c_isW e3 hi
  have fin : ∀ {F : Mem → Option Mem} {o}, (∃ N2, F N1 = some N2 ∧ FP w pa N1 N2 ∧ Out pa ta L w c p N2 o) → ∃ N2, ((F N1).bind fun M => fj_X1_runLine_140 M) = some N2 ∧ FP w pa N N2 ∧ Out pa ta L w c p N2 o := fun ⟨N2, a, b, d⟩ => ⟨N2, by rw [a]; rfl, e2.trans b, d⟩
  unfold lineR
  simp only [f_X1_runLine, cK, h.k2, h1.k2, if_true, e1, Option.bind_some]
  rw [W 2 (by omega), bn_some]
  by_cases w2 : isW c L 2 q
  · rw [b01_t w2, cif_t w2, if_neg (by decide)]; simp only [h1.k2, if_true]; exact fin (c_cnt h1 hw (part := 4) (Or.inl rfl))
  rw [b01_f w2, cif_f w2, if_pos rfl]
  simp only [h1.k2, if_true]
  rw [W 3 (by omega), bn_some]
  by_cases w3 : isW c L 3 q
  · rw [b01_t w3, cif_t w3, if_neg (by decide)]; simp only [h1.k2, if_true]; exact fin (c_cnt h1 hw (part := 20) (Or.inr rfl))
  rw [b01_f w3, cif_f w3, if_pos rfl]
  simp only [h1.k2, if_true]
  rw [W 4 (by omega), bn_some]
  by_cases w4 : isW c L 4 q
  · rw [b01_t w4, cif_t w4, if_neg (by decide)]; simp only [h1.k2, if_true]; exact fin (c_add h1 hw)
  rw [b01_f w4, cif_f w4, if_pos rfl]
  simp only [h1.k2, if_true]
  rw [W 5 (by omega), bn_some]
  by_cases w5 : isW c L 5 q
  · rw [b01_t w5, cif_t w5, if_neg (by decide)]; simp only [h1.k2, if_true]; exact fin (c_rem h1 hw)
  rw [b01_f w5, cif_f w5, if_pos rfl]
  simp only [h1.k2, if_true]
  rw [W 6 (by omega), bn_some]
  by_cases w6 : isW c L 6 q
  · rw [b01_t w6, cif_t w6, if_neg (by decide)]; simp only [h1.k2, if_true]; exact fin (c_wri h1 hw)
  rw [b01_f w6, cif_f w6, if_pos rfl]
  simp only [h1.k2, if_true]
  rw [W 7 (by omega), bn_some]
  by_cases w7 : isW c L 7 q
  · rw [b01_t w7, cif_t w7, if_neg (by decide)]; simp only [h1.k2, if_true]; exact fin (c_mer h1 hw)
  rw [b01_f w7, cif_f w7, if_pos rfl]
  simp only [h1.k2, if_true]
  rw [W 8 (by omega), bn_some]
  by_cases w8 : isW c L 8 q
  · rw [b01_t w8, cif_t w8, if_neg (by decide)]; simp only [h1.k2, if_true]; exact fin (c_sen e3 hw)
  rw [b01_f w8, cif_f w8, if_pos rfl]
  simp only [h1.k2, if_true]
  rw [W 9 (by omega), bn_some]
  by_cases w9 : isW c L 9 q
  · rw [b01_t w9, cif_t w9, if_neg (by decide)]; simp only [h1.k2, if_true]; exact fin (c_del h1 hw)
  rw [b01_f w9, cif_f w9, if_pos rfl]
  simp only [h1.k2, if_true]
  obtain ⟨N2, d1, d2, d3⟩ := e3.err (k := 1) (by decide)
  exact fin ⟨N2, d1, d2, Out.er d3⟩
end CP

/-! THE CLASS'S PARSER: the first line, the loop over the lines -/
theorem loopM_bn {S X α β : Type} {body : S → Option (S ⊕ X)} {o : Option (α × β)} {k : α → β → S} {f : Nat} {s : S} (h : body s = bn o fun v M => some (.inl (k v M))) : loopM body (f + 1) s = bn o fun v M => loopM body f (k v M) := by
  conv => lhs; unfold loopM
  rw [h]
  cases o <;> rfl
section CQ
variable {N : Mem} {pa ta L w : Nat} {c : GF} {q : Cur} {p : Nat → Nat} {g : GF}
def OutT (pa ta L w : Nat) (c : GF) (p : Nat → Nat) (N : Mem) (o : ER ⊕ GF) : Prop := (∀ k i, o = .inl (k, i) → CE pa ta L w c N k i) ∧ (∀ g', o = .inr g' → ∃ q', CG pa ta L w c p N g' q')
theorem OutT.er {k : Int32} {o : Nat} (h : CE pa ta L w c N k o) : OutT pa ta L w c p N (.inl (k, o)) := ⟨fun k i e => (by cases e; exact h), fun g' e => by cases e⟩
theorem OutT.ok {g' : GF} {q' : Cur} (h : CG pa ta L w c p N g' q') : OutT pa ta L w c p N (.inr g') := ⟨fun k i e => (by cases e), fun g' e => by cases e; exact ⟨q', h⟩⟩
theorem c_fol (h : CG pa ta L w c p N g q) : ∃ v N', f_X1_lineFollows pa N = some (v, N') ∧ FP w pa N N' ∧ (uT c L q = 3 → v = 1 ∧ CG pa ta L w c p N' g (uN c L q)) ∧ (uT c L q = 0 → v = 0 ∧ CG pa ta L w c p N' g (uN c L q)) ∧ (uT c L q ≠ 3 → uT c L q ≠ 0 → v = 0 ∧ CE pa ta L w c N' 1 (uS c L q)) := by
  obtain ⟨N1, e1, e2, e3⟩ := h.next
  have h1 := e3.cs
  have o44 : ∀ v : Int32, (v = 0 ∨ v = 1) → ∀ M : Mem, fj_X1_lineFollows_44 v M = some (v, M) := fun v hv M => by unfold fj_X1_lineFollows_44; rw [if_pos hv]
  by_cases t3 : uT c L q = 3
  · refine ⟨1, N1, ?_, e2, fun _ => ⟨rfl, h1⟩, fun e => absurd (t3.symm.trans e) (by decide), fun e => absurd t3 e⟩
    simp only [f_X1_lineFollows, fj_X1_lineFollows_24, cK, h.k2, if_true, e1, Option.bind_some, e3.1.i35, t3, h1.k2, h1.failed, bn, o44 1 (Or.inr rfl)]
  · by_cases t0 : uT c L q = 0
    · refine ⟨0, N1, ?_, e2, fun e => absurd e t3, fun _ => ⟨rfl, h1⟩, fun _ e => absurd t0 e⟩
      simp only [f_X1_lineFollows, fj_X1_lineFollows_24, fj_X1_lineFollows_43, cK, h.k2, if_true, e1, Option.bind_some, e3.1.i35, t0, h1.k2, h1.failed, bn, o44 0 (Or.inl rfl), show ((0 : Int32) = 3) = False from eq_false (by decide), if_false]
    · obtain ⟨N2, d1, d2, d3⟩ := e3.err (k := 1) (by decide)
      refine ⟨0, N2, ?_, e2.trans d2, fun e => absurd e t3, fun e => absurd e t0, fun _ _ => ⟨rfl, d3⟩⟩
      simp only [f_X1_lineFollows, fj_X1_lineFollows_24, fj_X1_lineFollows_43, cK, h.k2, if_true, e1, Option.bind_some, e3.1.i35, t0, t3, h1.k2, if_false, d1, d3.k2, d3.failed, bn, e10, o44 0 (Or.inl rfl)]
theorem CE.fol {k : Int32} {o : Nat} (h : CE pa ta L w c N k o) : f_X1_lineFollows pa N = some (0, N) := by
  have e1 := h.next
  have e2 := fun j => h.fail (j := j)
  have f24 : fj_X1_lineFollows_24 pa N = some (0, N) := by
    simp only [fj_X1_lineFollows_24, fj_X1_lineFollows_43, fj_X1_lineFollows_44, cK, h.k2, if_true, h.failed, bn, e10, if_false, true_or]
  obtain ⟨h1, h2, ty, st, en, h3, h4, h5, h6⟩ := id h
  by_cases t3 : ty = 3
  · simp only [f_X1_lineFollows, cK, h.k2, if_true, e1, Option.bind_some, h3.i35, t3, f24]
  · by_cases t0 : ty = 0
    · simp only [f_X1_lineFollows, cK, h.k2, if_true, e1, Option.bind_some, h3.i35, t0, f24, show ((0 : Int32) = 3) = False from eq_false (by decide), if_false]
    · simp only [f_X1_lineFollows, cK, h.k2, if_true, e1, Option.bind_some, h3.i35, t0, t3, if_false, e2, f24]
/-- the loop ends where no line follows -/
theorem lp_end {ln : Int32} {fuel : Nat} (hf : 0 < fuel) (hk : gI 2 33 pa N = some (nI L)) : loopM (fun q : (Int32 × Int32 × Mem) => fc_X1_parse_11 pa q.1 q.2.1 q.2.2) fuel (0, ln, N) = some N := by
  obtain ⟨f, rfl⟩ : ∃ f, fuel = f + 1 := ⟨fuel - 1, by omega⟩
  unfold loopM
  have : fc_X1_parse_11 pa 0 ln N = some (.inr N) := by
    by_cases c1 : nI L ≤ ln
    · simp only [fc_X1_parse_11, fj_X1_parse_38, hk, Option.bind_some, c1, if_true, Option.map_some]
    · simp only [fc_X1_parse_11, fj_X1_parse_38, hk, Option.bind_some, c1, if_true, if_false, Option.map_some]
  dsimp only
  rw [this]
theorem CE.i33 {k : Int32} {o : Nat} (h : CE pa ta L w c N k o) : gI 2 33 pa N = some (nI L) := by
  obtain ⟨h1, h2, ty, st, en, h3, _⟩ := h
  exact h3.i33
theorem CG.i33 (h : CG pa ta L w c p N g q) : gI 2 33 pa N = some (nI L) := by obtain ⟨⟨st, h1, _⟩, _⟩ := h; exact h1.i33
theorem CG.le (h : CG pa ta L w c p N g q) : q.2 ≤ L ∧ L ≤ 1000 := by obtain ⟨⟨st, h1, _, h3⟩, _⟩ := h; exact ⟨h3, h1.L1⟩
theorem c_loop (n : Nat) : ∀ {N : Mem} {g : GF} {q : Cur} {ln fuel k : Nat}, CG pa ta L w c p N g q → Wf k g → k + n ≤ 100000 → L < n + q.2 → ln ≤ q.2 → n < fuel → ∃ N2, (bn (cK 2 pa N (f_X1_lineFollows pa N)) fun v M => loopM (fun q : (Int32 × Int32 × Mem) => fc_X1_parse_11 pa q.1 q.2.1 q.2.2) fuel (v, nI ln, M)) = some N2 ∧ FP w pa N N2 ∧ OutT pa ta L w c p N2 (linesR c L n g q) := by
  induction n with
  | zero => intro N g q ln fuel k h hw hk h1 h2 h3; have := h.le; omega
  | succ n ih =>
    intro N g q ln fuel k h hw hk h1 h2 h3
    have hq := h.le
    have b1 := uN_le (c := c) hq.1
    obtain ⟨v, N1, e1, e2, e3, e4, e5⟩ := c_fol h
    rw [cK_ok (of_eq_true h.k2), e1, bn_some]
    unfold linesR
    by_cases t0 : uT c L q = 0
    · obtain ⟨rfl, d⟩ := e4 t0
      rw [cif_t t0]
      exact ⟨N1, lp_end (by omega) d.i33, e2, OutT.ok d⟩
    · rw [cif_f t0]
      by_cases t3 : uT c L q = 3
      · obtain ⟨rfl, d⟩ := e3 t3
        rw [cif_t t3]
        obtain ⟨N2, l1, l2, l3⟩ := c_line d hw
        have bt := uT_0 hq.1 t0
        obtain ⟨f, rfl⟩ : ∃ f, fuel = f + 1 := ⟨fuel - 1, by omega⟩
        have hl : ¬ (nI L ≤ nI ln) := nI_ge (by omega) (by omega)
        have k2 : (mK N2 pa = 2) = True := by
          cases ho : lineR c L g (uN c L q) with
          | inl e => obtain ⟨k, i⟩ := e; exact (l3.1 k i ho).k2
          | inr y => obtain ⟨g', q'⟩ := y; exact (l3.2 g' q' ho).k2
        have el : nI ln + 1 = nI (ln + 1) := nI_add ln 1
        have step : loopM (fun q : (Int32 × Int32 × Mem) => fc_X1_parse_11 pa q.1 q.2.1 q.2.2) (f + 1) (1, nI ln, N1) = bn (cK 2 pa N2 (f_X1_lineFollows pa N2)) fun v M => loopM (fun q : (Int32 × Int32 × Mem) => fc_X1_parse_11 pa q.1 q.2.1 q.2.2) f (v, nI (ln + 1), M) := by
          have eb : fc_X1_parse_11 pa 1 (nI ln) N1 = bn (f_X1_lineFollows pa N2) fun v8 M9 => some (.inl (v8, nI (ln + 1), M9)) := by
            simp only [fc_X1_parse_11, d.i33, Option.bind_some, hl, if_false, e10, cK, d.k2, if_true, l1, k2, el]
          rw [cK_ok (of_eq_true k2)]
          exact loopM_bn (k := fun v8 M9 => (v8, nI (ln + 1), M9)) eb
        rw [step]
        cases ho : lineR c L g (uN c L q) with
        | inl e =>
          obtain ⟨k', i⟩ := e
          have ce := l3.1 k' i ho
          rw [cK_ok (of_eq_true k2), ce.fol, bn_some]
          exact ⟨N2, lp_end (by omega) ce.i33, e2.trans l2, OutT.er ce⟩
        | inr y =>
          obtain ⟨g', q'⟩ := y
          have cg := l3.2 g' q' ho
          obtain ⟨w1, w2, w3⟩ := lineR_wf hw (by omega) b1.2.2 ho
          obtain ⟨N3, y1, y2, y3⟩ := ih (ln := ln + 1) (fuel := f) cg w1 (by omega) (by omega) (by omega) (by omega)
          exact ⟨N3, y1, (e2.trans l2).trans y2, y3⟩
      · obtain ⟨rfl, d⟩ := e5 t3 t0
        rw [cif_f t3]
        exact ⟨N1, lp_end (by omega) d.i33, e2, OutT.er d⟩
theorem RelP.some (h : WS N w p) : ∃ g, RelP N w p g := by
  refine ⟨fun q => if q = 0 then mI N 96 w else if q = 1 then mI N 97 w else if q = 2 then mI N 98 w else if q = 3 then mI N 99 w else if q < 10 then mA N (w + 3) (q - 4) else mA N (clo w p ((q - 10) / 132)) ((q - 10) % 132), h, ⟨rfl, rfl, rfl, rfl⟩, fun t ht _ i hi => ?_, fun j hj _ => ?_⟩
  · unfold row
    rw [bs_eq]
    dsimp only
    rw [if_neg (by omega), if_neg (by omega), if_neg (by omega), if_neg (by omega), if_neg (by omega), show (10 + 132 * t + i - 10) / 132 = t by omega, show (10 + 132 * t + i - 10) % 132 = i by omega]
  · dsimp only
    rw [if_neg (by omega), if_neg (by omega), if_neg (by omega), if_neg (by omega), if_pos (by omega), show 4 + j - 4 = j by omega]
theorem c_fline {z : GF} (hz : ∀ q, q < 1330 → z q = 0) (h : CG pa ta L w c p N g cur0) : ∃ N2, f_X1_runFirstLine pa N = some N2 ∧ FP w pa N N2 ∧ Out pa ta L w c p N2 (headR c L z) := by
  obtain ⟨N1, e1, e2, e3⟩ := h.next
  have h1 := e3.cs
  have W := c_isW e3 (i := 1) (by omega)
  unfold headR
  by_cases w1 : isW c L 1 cur0
  · rw [b01_t w1] at W
    rw [cif_t w1]
    have st : f_X1_runFirstLine pa N = fj_X1_runFirstLine_18 pa N1 := by
      simp only [f_X1_runFirstLine, cK, h.k2, h1.k2, if_true, e1, Option.bind_some, W, bn, e10, if_false]
    have key : ∃ N2, fj_X1_runFirstLine_18 pa N1 = some N2 ∧ FP w pa N1 N2 ∧ Out pa ta L w c p N2 (sb (numR c L (uN c L cur0) 1 4) fun a => sb (numR c L (uN c L (uN c L cur0)) 0 4) fun b => sb (numR c L (uN c L (uN c L (uN c L cur0))) 0 4) fun d => .inr (hdG z a b d, uN c L (uN c L (uN c L (uN c L cur0))))) := by
      unfold fj_X1_runFirstLine_18
      refine st_num h1 (fun a M1 n1 g1 => ?_) (fun v M1 k o he => ?_)
      · refine st_num g1 (fun b M2 n2 g2 => ?_) (fun v M2 k o he => ?_)
        · refine st_num g2 (fun d M3 n3 g3 => ?_) (fun v M3 k o he => ?_)
          · obtain ⟨M4, y1, y2, y3⟩ := X3_reset (a := a) (b := b) (c := d) g3.2.1.1 g3.2.2.2.2.1
            have k4 : (mK M3 w = 4) = True := eq_true g3.2.1.1.1.1
            refine ⟨M4, ?_, FP.fw y2, Out.ok ?_⟩
            · simp only [cK, g3.k2, g3.failed, bn, if_true, g3.wd, k4, Option.bind_some, y1, fj_X1_runFirstLine_56]
            · obtain ⟨⟨st, q1, q2, q3⟩, q4, q5⟩ := g3
              refine ⟨⟨st, q1.fw y2.1 q5, q2, q3⟩, y3 _ rfl rfl rfl (hz 3 (by omega)) (fun t ht i hi => ?_), q5.up y2.1.1⟩
              show hdG z a b d (bs t + i) = 0
              unfold hdG
              rw [bs_eq, if_neg (by omega), if_neg (by omega), if_neg (by omega), hz _ (by omega)]
          · simp only [cK, he.k2, he.failed, bn, if_true, e10, if_false, fj_X1_runFirstLine_56]
        · obtain ⟨v', e'⟩ := he.num 0 4
          simp only [cK, he.k2, e', he.failed, bn, if_true, e10, if_false, fj_X1_runFirstLine_56]
      · obtain ⟨v', e'⟩ := he.num 0 4
        simp only [cK, he.k2, e', he.failed, bn, if_true, e10, if_false, fj_X1_runFirstLine_56]
    obtain ⟨N2, y1, y2, y3⟩ := key
    exact ⟨N2, by rw [st]; exact y1, e2.trans y2, y3⟩
  · rw [b01_f w1] at W
    rw [cif_f w1]
    obtain ⟨N2, d1, d2, d3⟩ := e3.err (k := 1) (by decide)
    refine ⟨N2, ?_, e2.trans d2, Out.er d3⟩
    obtain ⟨v1, f1⟩ := d3.num 1 4
    obtain ⟨v2, f2⟩ := d3.num 0 4
    simp only [f_X1_runFirstLine, fj_X1_runFirstLine_18, fj_X1_runFirstLine_56, cK, h.k2, h1.k2, d3.k2, if_true, e1, Option.bind_some, W, bn, d1, f1, f2, d3.failed, e10, if_false]
theorem c_parse {z : GF} (hz : ∀ q, q < 1330 → z q = 0) (h : CG pa ta L w c p N g cur0) : ∃ N2, f_X1_parse pa N = some N2 ∧ FP w pa N N2 ∧ OutT pa ta L w c p N2 (textR c L z) := by
  obtain ⟨N1, e1, e2, e3⟩ := c_fline hz h
  have hL := h.le.2
  unfold textR
  cases ho : headR c L z with
  | inl e =>
    obtain ⟨k, i⟩ := e
    have ce := e3.1 k i ho
    refine ⟨N1, ?_, e2, OutT.er ce⟩
    simp only [f_X1_parse, cK, h.k2, if_true, e1, Option.bind_some, ce.k2, ce.fol, bn]
    exact lp_end (FUn (by omega)) ce.i33
  | inr y =>
    obtain ⟨g', q'⟩ := y
    have cg := e3.2 g' q' ho
    have wf := headR_wf hz ho
    obtain ⟨N2, y1, y2, y3⟩ := c_loop (L + 1) (ln := 0) (fuel := FU) cg wf.1 (by omega) (by omega) (by omega) (FUn (by omega))
    refine ⟨N2, ?_, e2.trans y2, y3⟩
    simp only [f_X1_parse, cK, h.k2, if_true, e1, Option.bind_some]
    exact y1
end CQ

def zr (g : GF) (n : Nat) : GF := fun q => if q < n then 0 else g q
theorem zr_step (g : GF) (n : Nat) : u1 (zr g n) n (nI 0) = zr g (n + 1) := by
  funext q; unfold u1 zr
  by_cases e : q = n
  · rw [if_pos e, if_pos (by omega)]; rfl
  · rw [if_neg e]; by_cases e2 : q < n
    · rw [if_pos e2, if_pos (by omega)]
    · rw [if_neg e2, if_neg (by omega)]
theorem zr_0 (g : GF) : zr g 0 = g := funext fun q => if_neg (by omega)
theorem zr_lo {g : GF} {q : Nat} (h : q < 1330) : zr g 1330 q = 0 := if_pos h
theorem hdG_eq (z : GF) (a b d : Int32) : u1 (u1 (u1 z 0 a) 1 b) 2 d = hdG z a b d := by
  funext q; unfold u1 hdG
  by_cases e0 : q = 0
  · rw [if_neg (by omega), if_neg (by omega), if_pos e0, if_pos e0]
  · by_cases e1 : q = 1
    · rw [if_neg (by omega), if_pos e1, if_neg e0, if_pos e1]
    · by_cases e2 : q = 2
      · rw [if_pos e2, if_neg e0, if_neg e1, if_pos e2]
      · rw [if_neg e2, if_neg e1, if_neg e0, if_neg e0, if_neg e1, if_neg e2]
/-! LOAD -/
section LO
variable {n x : Nat} {M : Mem}
theorem CC.spare {w : Nat} {p : Nat → Nat} {rt : Nat → Option Nat} {M' : Mem} {g o v : GF} {h b sw : Nat} (hc : CC x w p rt M g o h v b) (z1 : x + 61 ≤ mZ M) (z2 : ∀ k u, rt k = some u → u + 24 ≤ mZ M) (e1 : rt 1 = some sw) (f : Fr (inW sw) M M') (hB : mB M' (sw + 1) = mB M (sw + 1) ∧ mB M' (sw + 2) = mB M (sw + 2)) : CC x w p rt M' g o h v b := by
  obtain ⟨c1, ⟨p1, p2, p3, p4⟩, ⟨q1, q2, q3⟩, ⟨n1, n2⟩, ⟨nx, h1, h2, h3, h4, h5⟩, ⟨s1, s2⟩⟩ := hc
  have pl := (q1 1 sw e1).1
  unfold Place at pl
  have rel : ∀ k u q g, k ≠ 1 → rt k = some u → RelP M u q g → RelP M' u q g := fun k u q g hk e r => r.fr (z2 k u e) f (fun i hi => by have := q2 k 1 u sw hk e e1; unfold inW; omega)
  have i27 := (f.2 (x + 27) (by omega)).2 (by unfold inW; omega)
  refine ⟨c1.fr f z1, ⟨by rw [(f.2 x (by omega)).1.2.2]; exact p1, by rw [(f.2 x (by omega)).1.2.2]; exact p2, fun i hi => by rw [((f.2 (x + 28) (by omega)).2 (by unfold inW; omega)).2.2.1]; exact p3 i hi, fun i hi => by rw [((f.2 (x + 29) (by omega)).2 (by unfold inW; omega)).2.2.1]; exact p4 i hi⟩, ⟨fun k u e => ⟨(q1 k u e).1, ?_⟩, q2, q3⟩, ⟨n1, rel 0 w p g (by omega) n1 n2⟩, ⟨nx, h1, h2, by rw [i27.1]; exact h3, by rw [i27.1]; exact h4, fun j hj => ?_⟩, ⟨s1, fun s hs => ⟨fun hb => ?_, (s2 s hs).2⟩⟩⟩
  · obtain ⟨q, wq⟩ := (q1 k u e).2
    have zu := z2 k u e
    by_cases hk : k = 1
    · rw [hk, e1] at e; cases e; exact ⟨q, wq.fr zu f hB⟩
    · have := q2 k 1 u sw hk e e1
      exact ⟨q, wq.fr zu f ⟨((f.2 (u + 1) (by omega)).2 (by unfold inW; omega)).2.2.1, ((f.2 (u + 2) (by omega)).2 (by unfold inW; omega)).2.2.1⟩⟩
  · obtain ⟨u, q, e, r⟩ := h5 j hj; exact ⟨u, q, e, rel _ u q _ (by omega) e r⟩
  · obtain ⟨u, q, e, r⟩ := (s2 s hs).1 hb; exact ⟨u, q, e, rel _ u q _ (by omega) e r⟩
/-- a new parser -/
def mkP (M : Mem) (ta r sw : Nat) : Mem := wR (wI (wR (wI (wI (wI (wI (wI (newO 2 M) 35 (mZ M) 0) 36 (mZ M) 0) 37 (mZ M) 0) 38 (mZ M) 0) 39 (mZ M) (-1)) 32 (mZ M) (some ta)) 33 (mZ M) (nI r)) 34 (mZ M) (some sw)
theorem mkP_K {ta r sw a : Nat} : mK (mkP M ta r sw) a = if a = mZ M then 2 else mK M a := rfl
theorem mkP_fr {ta r sw : Nat} {P : Nat → Prop} : Fr P M (mkP M ta r sw) := by
  refine ⟨Nat.le_succ _, fun a ha => ⟨⟨?_, rfl, fun f => ?_⟩, fun _ => ⟨fun f => ?_, rfl, rfl, rfl⟩⟩⟩
  · rw [mkP_K, if_neg (by omega)]
  · show mR (wR (wI (wR (wI (wI (wI (wI (wI (newO 2 M) 35 (mZ M) 0) 36 (mZ M) 0) 37 (mZ M) 0) 38 (mZ M) 0) 39 (mZ M) (-1)) 32 (mZ M) (some ta)) 33 (mZ M) (nI r)) 34 (mZ M) (some sw)) f a = _
    rw [mR_wR, if_neg (by omega), mR_wI, mR_wR, if_neg (by omega)]
    show (if a = mZ M then none else mR M f a) = _
    rw [if_neg (by omega)]
  · show mI (wI (wI (wI (wI (wI (wI (newO 2 M) 35 (mZ M) 0) 36 (mZ M) 0) 37 (mZ M) 0) 38 (mZ M) 0) 39 (mZ M) (-1)) 33 (mZ M) (nI r)) f a = _
    rw [mI_wI, if_neg (by omega), mI_wI, if_neg (by omega), mI_wI, if_neg (by omega), mI_wI, if_neg (by omega), mI_wI, if_neg (by omega), mI_wI, if_neg (by omega)]
    show (if a = mZ M then 0 else mI M f a) = _
    rw [if_neg (by omega)]
theorem mkP_ps {ta r sw nn : Nat} (h8 : mK M ta = 8) (hn : mN M ta = nn) (hr : r ≤ nn) (h1000 : r ≤ 1000) (hz : ta < mZ M) : PS (mkP M ta r sw) (mZ M) ta r sw (mA M ta) 0 0 0 0 (-1) := by
  have eI : ∀ f, mI (mkP M ta r sw) f (mZ M) = if f = 33 then nI r else if f = 39 then -1 else if f = 38 then 0 else if f = 37 then 0 else if f = 36 then 0 else if f = 35 then 0 else 0 := fun f => by
    show mI (wI (wI (wI (wI (wI (wI (newO 2 M) 35 (mZ M) 0) 36 (mZ M) 0) 37 (mZ M) 0) 38 (mZ M) 0) 39 (mZ M) (-1)) 33 (mZ M) (nI r)) f (mZ M) = _
    simp only [mI_wI, and_true]
    rw [show mI (newO 2 M) f (mZ M) = 0 from if_pos rfl]
  refine ⟨⟨by rw [mkP_K, if_pos rfl], ?_, by rw [eI]; rfl, ?_⟩, ⟨by rw [mkP_K, if_neg (by omega)]; exact h8, by rw [show mN (mkP M ta r sw) ta = nn from hn]; exact hr, h1000, fun i _ => rfl⟩, by rw [eI]; rfl, by rw [eI]; rfl, by rw [eI]; rfl, by rw [eI]; rfl, by rw [eI]; rfl⟩
  · show mR (wR (wI (wR (wI (wI (wI (wI (wI (newO 2 M) 35 (mZ M) 0) 36 (mZ M) 0) 37 (mZ M) 0) 38 (mZ M) 0) 39 (mZ M) (-1)) 32 (mZ M) (some ta)) 33 (mZ M) (nI r)) 34 (mZ M) (some sw)) 32 (mZ M) = _
    rw [mR_wR, if_neg (by omega), mR_wI, mR_wR, if_pos ⟨rfl, rfl⟩]
  · show mR (wR (wI (wR (wI (wI (wI (wI (wI (newO 2 M) 35 (mZ M) 0) 36 (mZ M) 0) 37 (mZ M) 0) 38 (mZ M) 0) 39 (mZ M) (-1)) 32 (mZ M) (some ta)) 33 (mZ M) (nI r)) 34 (mZ M) (some sw)) 34 (mZ M) = _
    rw [mR_wR, if_pos ⟨rfl, rfl⟩]
theorem mkP_init {ta r sw : Nat} : f_X1_init (mZ M) ta (nI r) sw (newO 2 M) = some (mkP M ta r sw) := by
  have k : mK (newO 2 M) (mZ M) = 2 := by show va_up (mK M) (mZ M) 2 (mZ M) = 2; unfold va_up; rw [if_pos rfl]
  simp only [f_X1_init, sI_w, sR_w, mK_wI, mK_wR, k, if_true, Option.bind_some]
  rfl
end LO

