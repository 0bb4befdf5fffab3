/-! THE REFERENCE'S OTHER HELPERS -/
def Bad (a : Int32) (n : Nat) : Prop := a < 0 ∨ nI n ≤ a
theorem rng (a : Int32) (n : Nat) (hn : n < 2147483648) : (∃ r, r < n ∧ a = nI r) ∨ Bad a n := by
  by_cases h : a < 0
  · exact Or.inr (Or.inl h)
  · obtain ⟨j, hj, rfl⟩ := nI_of h
    by_cases c : j < n
    · exact Or.inl ⟨j, c, rfl⟩
    · exact Or.inr (Or.inr (nI_le (by omega) (by omega)))
theorem nI_m1 {n : Nat} (h : n < 2147483648) : (nI n - 1).toInt = (n : Int) - 1 := by
  rw [Int32.sub_eq_add_neg, i32_add]
  · rw [nI_toI h]; rfl
  · rw [nI_toI h]; have : (-1 : Int32).toInt = -1 := rfl
    omega
section RO
variable {M : Mem} {m w : Nat} {g : Nat → Int32}
theorem in_ok {r n : Nat} (h : r < n) (hn : n < 2147483648) : f_X5_in (nI r) 0 (nI n - 1) M = some (1, M) := by
  have h1 : ¬ (nI r < 0) := nI_pos (by omega)
  have h2 : ¬ (nI n - 1 < nI r) := by rw [i32_lt, nI_m1 hn, nI_toI (by omega)]; omega
  simp only [f_X5_in, fj_X5_in_15, h1, h2, if_false, or_true, if_true]
theorem in_no {a : Int32} {n : Nat} (h : Bad a n) (hn : n < 2147483648) : f_X5_in a 0 (nI n - 1) M = some (0, M) := by
  rcases h with h | h
  · simp only [f_X5_in, fj_X5_in_14, fj_X5_in_15, h, true_or, if_true]
  · have h1 : ¬ (a < 0) := by rw [i32_lt, i32_0]; rw [i32_le, nI_toI hn] at h; omega
    have h2 : nI n - 1 < a := by rw [i32_lt, nI_m1 hn]; rw [i32_le, nI_toI hn] at h; omega
    simp only [f_X5_in, fj_X5_in_14, fj_X5_in_15, h1, h2, true_or, if_true, if_false]
theorem inT_ok {r : Nat} (h : r < 16) : f_X5_isTag (nI r) M = some (1, M) := by
  have e : f_X5_in (nI r) 0 15 M = some (1, M) := in_ok (n := 16) h (by omega)
  simp only [f_X5_isTag, e, bn, or_true, if_true]
theorem inT_no {a : Int32} (h : Bad a 16) : f_X5_isTag a M = some (0, M) := by
  have e : f_X5_in a 0 15 M = some (0, M) := in_no (n := 16) h (by omega)
  simp only [f_X5_isTag, e, bn, true_or, if_true]
theorem gNow (hR : Rn M m w) {i : Nat} (hi : i < 1594) : gA 9 w (nI i) (wA M w g) = some (g i, wA M w g).1 := by
  unfold gA
  rw [if_pos ⟨hR.2.2.1, by rw [show mN (wA M w g) w = 1594 from hR.2.2.2, inT hi (by omega)]; exact not_false⟩, nI_cl (by omega), wA_self]
theorem gW (hR : Rn M m w) : gRn 6 162 m (wA M w g) = some w := gRn_ok (M := wA M w g) hR.1 hR.2.1
theorem kM (hR : Rn M m w) : (mK (wA M w g) m = 6) = True := eq_true hR.1
theorem isR_ok (hR : Rn M m w) {r n : Nat} (h : r < n) (hn : n ≤ 4) (e : g 0 = nI n) : f_X5_isReplica m (nI r) (wA M w g) = some (1, wA M w g) := by
  have e2 := gNow (g := g) hR (i := 0) (by omega)
  simp only [f_X5_isReplica, gW hR, Option.bind_some, show (0 : Int32) = nI 0 from rfl, e2, e]
  rw [show nI 0 = (0 : Int32) from rfl, in_ok h (by omega)]; rfl
theorem isR_no (hR : Rn M m w) {a : Int32} {n : Nat} (h : Bad a n) (hn : n ≤ 4) (e : g 0 = nI n) : f_X5_isReplica m a (wA M w g) = some (0, wA M w g) := by
  have e2 := gNow (g := g) hR (i := 0) (by omega)
  simp only [f_X5_isReplica, gW hR, Option.bind_some, show (0 : Int32) = nI 0 from rfl, e2, e]
  rw [show nI 0 = (0 : Int32) from rfl, in_no h (by omega)]; rfl
theorem isC_ok (hR : Rn M m w) {r n : Nat} (h : r < n) (hn : n ≤ 4) (e : g 1 = nI n) : f_X5_isCounter m (nI r) (wA M w g) = some (1, wA M w g) := by
  have e2 : gA 9 w 1 (wA M w g) = some (g 1) := gNow hR (i := 1) (by omega)
  simp only [f_X5_isCounter, gW hR, Option.bind_some, e2, e, in_ok h (show n < 2147483648 by omega), bn, or_true, if_true]
theorem isC_no (hR : Rn M m w) {a : Int32} {n : Nat} (h : Bad a n) (hn : n ≤ 4) (e : g 1 = nI n) : f_X5_isCounter m a (wA M w g) = some (0, wA M w g) := by
  have e2 : gA 9 w 1 (wA M w g) = some (g 1) := gNow hR (i := 1) (by omega)
  simp only [f_X5_isCounter, gW hR, Option.bind_some, e2, e, in_no h (show n < 2147483648 by omega), bn, true_or, if_true]
theorem isQ_ok (hR : Rn M m w) {r n : Nat} (h : r < n) (hn : n ≤ 4) (e : g 2 = nI n) : f_X5_isRegister m (nI r) (wA M w g) = some (1, wA M w g) := by
  have e2 : gA 9 w 2 (wA M w g) = some (g 2) := gNow hR (i := 2) (by omega)
  simp only [f_X5_isRegister, gW hR, Option.bind_some, e2, e, in_ok h (show n < 2147483648 by omega), bn, or_true, if_true]
theorem isQ_no (hR : Rn M m w) {a : Int32} {n : Nat} (h : Bad a n) (hn : n ≤ 4) (e : g 2 = nI n) : f_X5_isRegister m a (wA M w g) = some (0, wA M w g) := by
  have e2 : gA 9 w 2 (wA M w g) = some (g 2) := gNow hR (i := 2) (by omega)
  simp only [f_X5_isRegister, gW hR, Option.bind_some, e2, e, in_no h (show n < 2147483648 by omega), bn, true_or, if_true]
theorem isM_ok (hR : Rn M m w) {r n : Nat} (h : r < n) (hn : n ≤ 6) (e : g 3 = nI n) : f_X5_isMessage m (nI r) (wA M w g) = some (1, wA M w g) := by
  have e2 : gA 9 w 3 (wA M w g) = some (g 3) := gNow hR (i := 3) (by omega)
  simp only [f_X5_isMessage, gW hR, Option.bind_some, e2, e, in_ok h (show n < 2147483648 by omega), bn, or_true, if_true]
theorem isM_no (hR : Rn M m w) {a : Int32} {n : Nat} (h : Bad a n) (hn : n ≤ 6) (e : g 3 = nI n) : f_X5_isMessage m a (wA M w g) = some (0, wA M w g) := by
  have e2 : gA 9 w 3 (wA M w g) = some (g 3) := gNow hR (i := 3) (by omega)
  simp only [f_X5_isMessage, gW hR, Option.bind_some, e2, e, in_no h (show n < 2147483648 by omega), bn, true_or, if_true]
theorem areR_ok (hR : Rn M m w) {r s n : Nat} (h : r < n) (h2 : s < n) (hn : n ≤ 4) (e : g 0 = nI n) : f_X5_areReplicas m (nI r) (nI s) (wA M w g) = some (1, wA M w g) := by
  simp only [f_X5_areReplicas, fj_X5_areReplicas_21, isR_ok hR h hn e, isR_ok hR h2 hn e, cK, kM hR, bn, if_true, or_true, show ((1 : Int32) = 0) = False from eq_false (by decide), if_false]
theorem areR_no (hR : Rn M m w) {a b : Int32} {n : Nat} (h : Bad a n ∨ Bad b n) (hn : n ≤ 4) (e : g 0 = nI n) : f_X5_areReplicas m a b (wA M w g) = some (0, wA M w g) := by
  rcases rng a n (by omega) with ⟨r, hr, rfl⟩ | ha
  · rcases h with h | h
    · exact absurd h (fun h => h.elim (nI_pos (by omega)) (nI_ge hr (by omega)))
    · simp only [f_X5_areReplicas, fj_X5_areReplicas_20, fj_X5_areReplicas_21, isR_ok hR hr hn e, isR_no hR h hn e, cK, kM hR, bn, if_true, true_or, show ((1 : Int32) = 0) = False from eq_false (by decide), if_false]
  · simp only [f_X5_areReplicas, fj_X5_areReplicas_20, fj_X5_areReplicas_21, isR_no hR ha hn e, cK, kM hR, bn, if_true, true_or]
theorem wI_wA (M : Mem) (f a b : Nat) (v : Int32) (g : Nat → Int32) : wI (wA M b g) f a v = wA (wI M f a v) b g := rfl
theorem told_eq (hR : Rn M m w) {v : Int32} : f_X5_told m v (wA M w g) = some (v, wA (wI M 161 m 0) w g) := by simp only [f_X5_told, sI_w, cK, kM hR, if_true, Option.bind_some]; rfl
theorem refuse_eq (hR : Rn M m w) {v : Int32} : f_X5_refuse m v (wA M w g) = some (0, wA (wI M 161 m v) w g) := by simp only [f_X5_refuse, sI_w, cK, kM hR, if_true, Option.bind_some]; rfl
theorem says_eq (hR : Rn M m w) {v : Int32} (hv : v = 0 ∨ v = 1) : f_X5_says m v (wA M w g) = some (v, wA (wI M 161 m 0) w g) := by simp only [f_X5_says, sI_w, cK, kM hR, if_true, Option.bind_some, if_pos hv]; rfl
theorem refuses_eq (hR : Rn M m w) : f_X5_refuses m (wA M w g) = some (0, wA (wI M 161 m 1) w g) := by simp only [f_X5_refuses, sI_w, cK, kM hR, if_true, Option.bind_some]; rfl
/-- the second row brings nothing new to the first -/
def cov (a b : Nat → Int32) : Prop := eqS (absR a b) a
theorem eqS_congr {a b a' b' : Nat → Int32} (h : ∀ i, i < 132 → a i = a' i) (k : ∀ i, i < 132 → b i = b' i) : eqS a b ↔ eqS a' b' := ⟨fun e i hi => by rw [← h i hi, ← k i hi]; exact e i hi, fun e i hi => by rw [h i hi, k i hi]; exact e i hi⟩
theorem X5_isCovered (hR : Rn M m w) {s t : Nat} (hs : s < 10) (ht : t < 10) [Decidable (cov (row g t) (row g s))] : f_X5_isCovered m (nI s) (nI t) (wA M w g) = some (if cov (row g t) (row g s) then 1 else 0, wA M w (put g 10 (absR (row g t) (row g s)))) := by
  have e1 := X5_copies (g := g) hR (t := 10) (by omega) (u := t) (by omega)
  have e2 := X5_merges (g := put g 10 (row g t)) hR (t := 10) (by omega) (u := s) (by omega)
  have r1 : ∀ i, i < 132 → row (put g 10 (row g t)) 10 i = row g t i := fun i hi => row_put hi
  have r2 : ∀ i, i < 132 → row (put g 10 (row g t)) s i = row g s i := fun i hi => row_put_ne hi (by omega)
  have e3 : put (put g 10 (row g t)) 10 (absR (row (put g 10 (row g t)) 10) (row (put g 10 (row g t)) s)) = put g 10 (absR (row g t) (row g s)) := by
    rw [put_put]; exact put_congr (fun i hi => absR_congr r1 r2 hi)
  rw [e3] at e2
  have q1 : ∀ i, i < 132 → row (put g 10 (absR (row g t) (row g s))) 10 i = absR (row g t) (row g s) i := fun i hi => row_put hi
  have q2 : ∀ i, i < 132 → row (put g 10 (absR (row g t) (row g s))) t i = row g t i := fun i hi => row_put_ne hi (by omega)
  have hcov : eqS (row (put g 10 (absR (row g t) (row g s))) 10) (row (put g 10 (absR (row g t) (row g s))) t) ↔ cov (row g t) (row g s) := eqS_congr q1 q2
  haveI : Decidable (eqS (row (put g 10 (absR (row g t) (row g s))) 10) (row (put g 10 (absR (row g t) (row g s))) t)) := decidable_of_iff _ hcov.symm
  have e4 := X5_areAlike (g := put g 10 (absR (row g t) (row g s))) hR (t := 10) (by omega) (u := t) (by omega)
  simp only [f_X5_isCovered, cK, kM hR, if_true, show (10 : Int32) = nI 10 from rfl, e1, e2, e4, bn, Option.bind_some]
  by_cases c : cov (row g t) (row g s)
  · rw [if_pos (hcov.mpr c), if_pos c, if_pos (Or.inr rfl)]
  · rw [if_neg (fun h => c (hcov.mp h)), if_neg c, if_pos (Or.inl rfl)]
def upR (g : Nat → Int32) : Nat → Nat → Int32
  | 0 => row g 0
  | n + 1 => absR (upR g n) (row g (n + 1))
def dnR (g : Nat → Int32) (n : Nat) : Nat → Nat → Int32
  | 0 => row g (n - 1)
  | k + 1 => absR (dnR g n k) (row g (n - 2 - k))
theorem X5_mergesUp (hR : Rn M m w) {n : Nat} (h1 : 1 ≤ n) (hn : n ≤ 4) (e : g 0 = nI n) : f_X5_mergesUp m (wA M w g) = some (wA M w (put g 10 (upR g (n - 1)))) := by
  have e1 := X5_copies (g := g) hR (t := 10) (by omega) (u := 0) (by omega)
  have lp : fj_X5_mergesUp_9 m 1 (wA M w (put g 10 (upR g 0))) = some (wA M w (put g 10 (upR g (n - 1)))) := by
    unfold fj_X5_mergesUp_9
    refine loopM_run (st := fun k => (nI (k + 1), wA M w (put g 10 (upR g k)))) (N := n - 1) rfl (fun k hk => ?_) ?_ (FUn (by omega))
    · have e2 := X5_merges (g := put g 10 (upR g k)) hR (t := 10) (by omega) (u := k + 1) (by omega)
      have e3 : put (put g 10 (upR g k)) 10 (absR (row (put g 10 (upR g k)) 10) (row (put g 10 (upR g k)) (k + 1))) = put g 10 (upR g (k + 1)) := by
        rw [put_put]; exact put_congr (fun i hi => absR_congr (fun i hi => row_put hi) (fun i hi => row_put_ne hi (by omega)) hi)
      rw [e3] at e2
      have e0 : gA 9 w (nI 0) (wA M w (put g 10 (upR g k))) = some (nI n) := by rw [← e, ← put_lo (g := g) (t := 10) (a := upR g k) (show 0 < 10 by omega)]; exact gNow hR (i := 0) (by omega)
      simp (disch := omega) only [fc_X5_mergesUp_9, gW hR, Option.bind_some, e0, lit_nI, nI_leF, if_false, cK, kM hR, if_true, e2, nI_add]
    · have e0 : gA 9 w 0 (wA M w (put g 10 (upR g (n - 1)))) = some (nI n) := by rw [← e, ← put_lo (g := g) (t := 10) (a := upR g (n - 1)) (show 0 < 10 by omega)]; exact gNow hR (i := 0) (by omega)
      simp (disch := omega) only [fc_X5_mergesUp_9, gW hR, Option.bind_some, e0, nI_leT, if_true, Option.map_some]
  simp only [f_X5_mergesUp, cK, kM hR, if_true, show (10 : Int32) = nI 10 from rfl, show (0 : Int32) = nI 0 from rfl, e1, Option.bind_some]
  exact lp
theorem X5_mergesDown (hR : Rn M m w) {n : Nat} (h1 : 1 ≤ n) (hn : n ≤ 4) (e : g 0 = nI n) : f_X5_mergesDown m (wA M w g) = some (wA M w (put g 11 (dnR g n (n - 1)))) := by
  have e1 := X5_copies (g := g) hR (t := 11) (by omega) (u := n - 1) (by omega)
  have lp : fj_X5_mergesDown_23 m (nI n - 2) (wA M w (put g 11 (dnR g n 0))) = some (wA M w (put g 11 (dnR g n (n - 1)))) := by
    unfold fj_X5_mergesDown_23
    refine loopM_run (st := fun k => (nI n - 2 - nI k, wA M w (put g 11 (dnR g n k)))) (N := n - 1) ?_ (fun k hk => ?_) ?_ (FUn (by omega))
    · show _ = (nI n - 2 - nI 0, wA M w (put g 11 (dnR g n 0)))
      rw [show nI 0 = (0 : Int32) from rfl, Int32.sub_zero]
    · have e2 := X5_merges (g := put g 11 (dnR g n k)) hR (t := 11) (by omega) (u := n - 2 - k) (by omega)
      have e3 : put (put g 11 (dnR g n k)) 11 (absR (row (put g 11 (dnR g n k)) 11) (row (put g 11 (dnR g n k)) (n - 2 - k))) = put g 11 (dnR g n (k + 1)) := by
        rw [put_put]; exact put_congr (fun i hi => absR_congr (fun i hi => row_put hi) (fun i hi => row_put_ne hi (by omega)) hi)
      rw [e3] at e2
      have ei : nI n - 2 - nI k = nI (n - 2 - k) := by rw [show (2 : Int32) = nI 2 from rfl, nI_sub (by omega), nI_sub (by omega)]
      have ej : nI (n - 2 - k) + -1 = nI n - 2 - nI (k + 1) := by
        rcases (show (n = 2 ∧ k = 0) ∨ (n = 3 ∧ k = 0) ∨ (n = 3 ∧ k = 1) ∨ (n = 4 ∧ k = 0) ∨ (n = 4 ∧ k = 1) ∨ (n = 4 ∧ k = 2) by omega) with ⟨rfl, rfl⟩ | ⟨rfl, rfl⟩ | ⟨rfl, rfl⟩ | ⟨rfl, rfl⟩ | ⟨rfl, rfl⟩ | ⟨rfl, rfl⟩ <;> decide
      simp (disch := omega) only [fc_X5_mergesDown_23, ei, nI_nlt0, if_false, cK, kM hR, if_true, show (11 : Int32) = nI 11 from rfl, e2, Option.bind_some, ej]
    · have ei : nI n - 2 - nI (n - 1) < 0 := by
        rcases (show n = 1 ∨ n = 2 ∨ n = 3 ∨ n = 4 by omega) with rfl | rfl | rfl | rfl <;> decide
      simp only [fc_X5_mergesDown_23, ei, if_true, Option.map_some]
  have e0 : gA 9 w 0 (wA M w g) = some (nI n) := by rw [← e]; exact gNow hR (i := 0) (by omega)
  have e0' : gA 9 w 0 (wA M w (put g 11 (row g (n - 1)))) = some (nI n) := by rw [← e, ← put_lo (g := g) (t := 11) (a := row g (n - 1)) (show 0 < 10 by omega)]; exact gNow hR (i := 0) (by omega)
  have es : nI n - 1 = nI (n - 1) := nI_sub h1
  simp only [f_X5_mergesDown, gW hR, Option.bind_some, e0, es, cK, kM hR, if_true, show (11 : Int32) = nI 11 from rfl, e1, e0']
  exact lp
theorem X5_mergesNow (hR : Rn M m w) {t s : Nat} (ht : t < 10) (hs : s < 10) [Decidable (cov (row g t) (row g s))] : ∃ g', f_X5_mergesNow m (nI t) (nI s) (wA M w g) = some (if cov (row g t) (row g s) then 0 else 1, wA M w g') ∧ ∀ q, q < 1330 → g' q = put g t (absR (row g t) (row g s)) q := by
  have e1 := X5_isCovered (g := g) hR hs ht
  have e2 := X5_merges (g := put g 10 (absR (row g t) (row g s))) hR (t := t) (by omega) (u := s) (by omega)
  refine ⟨put (put g 10 (absR (row g t) (row g s))) t (absR (row (put g 10 (absR (row g t) (row g s))) t) (row (put g 10 (absR (row g t) (row g s))) s)), ?_, ?_⟩
  · simp only [f_X5_mergesNow, cK, kM hR, if_true, e1, bn]
    by_cases c : cov (row g t) (row g s)
    · rw [if_pos c, if_pos c, if_neg (by decide)]
      simp only [fj_X5_mergesNow_14, cK, kM hR, if_true, e2, Option.bind_some, true_or]
    · rw [if_neg c, if_neg c, if_pos rfl]
      simp only [fj_X5_mergesNow_14, cK, kM hR, if_true, e2, Option.bind_some, or_true]
  · intro q hq
    unfold put
    by_cases c : bs t ≤ q ∧ q < bs t + 132
    · rw [if_pos c, if_pos c]
      exact absR_congr (fun i hi => row_put_ne hi (by omega)) (fun i hi => row_put_ne hi (by omega)) (by omega)
    · rw [if_neg c, if_neg c, if_neg (by rw [bs_eq]; omega)]
theorem X5_sends (hR : Rn M m w) {r : Nat} (hr : r < 4) (hm : mcn g < 6) (e : g 3 = nI (mcn g)) : f_X5_sends m (nI r) (wA M w g) = some (wA M w (sendG g r)) := by
  obtain ⟨h1, h2, h3, h4⟩ := id hR
  have e1 := X5_copies (g := u1 g (4 + mcn g) (nI r)) hR (t := 4 + mcn g) (by omega) (u := r) (by omega)
  have e3 : u1 g (4 + mcn g) (nI r) 3 = nI (mcn g) := by rw [u1_ne _ _ (by omega), e]
  have e4 : put (u1 g (4 + mcn g) (nI r)) (4 + mcn g) (row (u1 g (4 + mcn g) (nI r)) r) 3 = nI (mcn g) := by rw [put_lo (by omega), e3]
  rw [row_u1 (by omega)] at e1 e4
  simp (disch := omega) only [f_X5_sends, h1, h2, h3, h4, e, e1, e3, e4, gI, gR, gRn, sI_w, sR_w, gA, sA_w, gB, gBn, sBn_w, sB0_w, gL, sL_w, cK, bn, Option.bind_some, Option.map_some, nar9, inT, wA_self, wA_again, wB_self, wB_again, wL_self, wL_again, u1_self, nI_add, nI_mul, nI_sub, nI_div, nI_leT, nI_leF, nI_ltT, nI_ltF, nI_eqT, nI_eqF, nI_neg, nI_cl, lit_nI, nI_nlt0, if_true, if_false, if_pos, if_neg, true_and, and_true, not_false_eq_true, or_self, or_false, false_or, reduceIte, and_self, not_true_eq_false, ne_eq, mK_wI, mN_wI, mR_wI, mA_wI, mB_wI, mL_wI, mZ_wI, mK_wA, mN_wA, mI_wA, mR_wA, mB_wA, mL_wA, mZ_wA, mK_wB, mN_wB, mI_wB, mR_wB, mA_wB, mL_wB, mZ_wB, mK_wR, mN_wR, mI_wR, mA_wR, mB_wR, mL_wR, mZ_wR, mK_wL, mN_wL, mI_wL, mR_wL, mA_wL, mB_wL, mZ_wL]
  rfl
end RO
