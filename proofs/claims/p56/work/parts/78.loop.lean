/-! THE LAW'S LOOPS, but for its texts -/
theorem i64_cancel {a b c : Int64} (h : a + b = a + c) : b = c := by
  have := congrArg (fun z => z - a) h
  rwa [Int64.add_comm a b, Int64.add_comm a c, Int64.add_sub_cancel, Int64.add_sub_cancel] at this
theorem h31 {s s' c : Int64} (h : 31 * s + c = 31 * s' + c) : s = s' := hsh_step (c' := 0) h
def dd : Nat → Int64
  | 0 => 1
  | n + 1 => 31 * dd n
theorem st_add (X D u : Int64) : 31 * (X + D) + u = (31 * X + u) + 31 * D := by
  rw [Int64.mul_add, Int64.add_assoc, Int64.add_comm (31 * D) u, ← Int64.add_assoc]
theorem zC_dd {a b : Nat → Int32} {c k : Nat} (s : Int64) : ∀ n, (∀ i, i < n → a (4 + (4 * i + c)) = b (4 + (4 * i + c)) ∧ a (20 + (4 * i + c)) = b (20 + (4 * i + c))) → zC a c (s + dd k) n = zC b c s n + dd (k + 2 * n) := by
  intro n
  induction n with
  | zero => intro _; rfl
  | succ n ih =>
    intro h
    obtain ⟨e1, e2⟩ := h n (by omega)
    unfold zC
    rw [ih (fun i hi => h i (by omega)), e1, e2, st_add (zC b c s n) (dd (k + 2 * n)) _, st_add (31 * zC b c s n + _) (31 * dd (k + 2 * n)) _]
    rfl
theorem zT_dd {a b : Nat → Int32} {c k : Nat} (s : Int64) : ∀ n, (∀ i, i < n → a (36 + (4 * i + c)) = b (36 + (4 * i + c))) → zT a c (s + dd k) n = zT b c s n + dd (k + n) := by
  intro n
  induction n with
  | zero => intro _; rfl
  | succ n ih =>
    intro h
    unfold zT
    rw [ih (fun i hi => h i (by omega)), h n (by omega), st_add]
    rfl
theorem zC_inj {a b : Nat → Int32} {c : Nat} {s s' : Int64} : ∀ n, (∀ i, i < n → a (4 + (4 * i + c)) = b (4 + (4 * i + c)) ∧ a (20 + (4 * i + c)) = b (20 + (4 * i + c))) → zC a c s n = zC b c s' n → s = s' := by
  intro n
  induction n with
  | zero => intro _ e; exact e
  | succ n ih =>
    intro h e
    obtain ⟨e1, e2⟩ := h n (by omega)
    unfold zC at e
    rw [e1, e2] at e
    exact ih (fun i hi => h i (by omega)) (h31 (h31 e))
theorem zT_inj {a b : Nat → Int32} {c : Nat} {s s' : Int64} : ∀ n k, (∀ i, k ≤ i → i < k + n → a (36 + (4 * i + c)) = b (36 + (4 * i + c))) → zT a c s (k + n) = zT b c s' (k + n) → zT a c s k = zT b c s' k := by
  intro n
  induction n with
  | zero => intro k _ e; exact e
  | succ n ih =>
    intro k h e
    have e' : 31 * zT a c s (k + n) + (a (36 + (4 * (k + n) + c))).toInt64 = 31 * zT b c s' (k + n) + (b (36 + (4 * (k + n) + c))).toInt64 := e
    rw [h (k + n) (by omega) (by omega)] at e'
    exact ih k (fun i h1 h2 => h i h1 (by omega)) (h31 e')
theorem zQ_inj {a b : Nat → Int32} {c : Nat} {s s' : Int64} : ∀ n, (∀ i, i < n → valE a i c = valE b i c) → zQ a c s n = zQ b c s' n → s = s' := by
  intro n
  induction n with
  | zero => intro _ e; exact e
  | succ n ih =>
    intro h e
    unfold zQ at e
    rw [h n (by omega)] at e
    exact ih (fun i hi => h i (by omega)) (h31 e)
/-- the columns from the first on -/
theorem zB_inj {a b : Nat → Int32} {C Q : Nat} (hC : C ≤ 4) (hQ : Q ≤ 4) {s s' : Int64} : ∀ n k, k + n ≤ 4 → (∀ i, i < 132 → k ≤ i % 4 → a i = b i) → zB a C Q s (k + n) = zB b C Q s' (k + n) → zB a C Q s k = zB b C Q s' k := by
  intro n
  induction n with
  | zero => intro k _ _ e; exact e
  | succ n ih =>
    intro k hk h e
    refine ih k (by omega) h ?_
    have e' : zQ a (k + n) (zT a (k + n) (zC a (k + n) (31 * zB a C Q s (k + n) + (a (k + n)).toInt64) C) 16) Q = zQ b (k + n) (zT b (k + n) (zC b (k + n) (31 * zB b C Q s' (k + n) + (b (k + n)).toInt64) C) 16) Q := e
    have e1 := zQ_inj Q (fun i hi => by unfold valE; rw [h (100 + (4 * i + (k + n))) (by omega) (by omega), h (116 + (4 * i + (k + n))) (by omega) (by omega)]) e'
    have e2 : zT a (k + n) (zC a (k + n) (31 * zB a C Q s (k + n) + (a (k + n)).toInt64) C) 0 = zT b (k + n) (zC b (k + n) (31 * zB b C Q s' (k + n) + (b (k + n)).toInt64) C) 0 := zT_inj (c := k + n) 16 0 (fun i _ hi => h _ (by omega) (by omega)) e1
    have e3 := zC_inj C (fun i hi => ⟨h _ (by omega) (by omega), h _ (by omega) (by omega)⟩) e2
    rw [h (k + n) (by omega) (by omega)] at e3
    exact h31 e3
theorem zR_inj {g g' : Nat → Int32} {R C Q : Nat} (hR : R ≤ 4) (hC : C ≤ 4) (hQ : Q ≤ 4) {s : Int64} : ∀ n k, (∀ t, k ≤ t → t < k + n → ∀ i, i < 132 → row g t i = row g' t i) → zR g R C Q s (k + n) = zR g' R C Q s (k + n) → zR g R C Q s k = zR g' R C Q s k := by
  intro n
  induction n with
  | zero => intro k _ e; exact e
  | succ n ih =>
    intro k h e
    refine ih k (fun t h1 h2 => h t h1 (by omega)) ?_
    have e' : zB (row g (k + n)) C Q (zR g R C Q s (k + n)) R = zB (row g' (k + n)) C Q (zR g' R C Q s (k + n)) R := e
    have := zB_inj hC hQ R 0 (by omega) (fun i hi _ => h (k + n) (by omega) (by omega) i hi) (by rw [Nat.zero_add]; exact e')
    exact this
theorem i64_one {a : Int32} (h1 : 0 ≤ a.toInt) (h2 : a.toInt < 100000) : (a + 1).toInt64 = a.toInt64 + dd 0 := by
  have q1 : (1 : Int32).toInt = 1 := rfl
  have q2 : (dd 0).toInt = 1 := rfl
  apply Int64.toInt_inj.mp
  rw [Int32.toInt_toInt64, i32_add (by omega), q1, Int64.toInt_add, Int32.toInt_toInt64, q2, Int.bmod_eq_of_le (by omega) (by omega)]
theorem dd_big : (0 < (dd 8).toInt ∧ (dd 8).toInt < 4000000000000000000) ∧ (0 < (dd 10).toInt ∧ (dd 10).toInt < 4000000000000000000) ∧ (0 < (dd 12).toInt ∧ (dd 12).toInt < 4000000000000000000) := by decide
theorem dd_ne {a : Int32} (h1 : 0 ≤ a.toInt) (h2 : a.toInt < 100000) {C : Nat} (hC : C ≤ 2) : ¬ (a.toInt64 + dd (8 + 2 * C) = 0) := by
  intro e
  have b : 0 < (dd (8 + 2 * C)).toInt ∧ (dd (8 + 2 * C)).toInt < 4000000000000000000 := by
    rcases (show C = 0 ∨ C = 1 ∨ C = 2 by omega) with rfl | rfl | rfl
    · exact dd_big.1
    · exact dd_big.2.1
    · exact dd_big.2.2
  have := congrArg Int64.toInt e
  rw [Int64.toInt_add, Int32.toInt_toInt64, Int.bmod_eq_of_le (by omega) (by omega)] at this
  have z : (0 : Int64).toInt = 0 := rfl
  omega
theorem hsh_ne {n R C Q : Nat} {g : Nat → Int32} (h : Wk n R C Q 0 g) (hn : n < 10000) (hC : C ≤ 2) (f : ∀ j, j < 4 → row g 0 (64 + j) = 0) : hsh (put g 0 (newN (row g 0) (36 + 4 * 7) 0 0 4)) R C Q 0 ≠ hsh g R C Q 0 := by
  intro e
  obtain ⟨⟨a1, a2, a3, a4, a5, a6, a7, a8, a9⟩, h2, _⟩ := h
  have w := (h2 0 (by omega) (by omega)).1 0 (by omega)
  have q1 : (1 : Int32).toInt = 1 := rfl
  have eu : (row g 0 0 + 1).toInt = (row g 0 0).toInt + 1 := by rw [i32_add (by omega), q1]
  have e1 : zR (put g 0 (newN (row g 0) (36 + 4 * 7) 0 0 4)) R C Q (nI 0).toInt64 (1 + (R - 1)) = zR g R C Q (nI 0).toInt64 (1 + (R - 1)) := by
    rw [show 1 + (R - 1) = R by omega]; exact e
  have e2 := zR_inj (g := put g 0 (newN (row g 0) (36 + 4 * 7) 0 0 4)) (g' := g) a6 a7 a8 (R - 1) 1 (fun t h1 _ i hi => row_put_ne hi (by omega)) e1
  have e3 : zB (row (put g 0 (newN (row g 0) (36 + 4 * 7) 0 0 4)) 0) C Q (nI 0).toInt64 (1 + (R - 1)) = zB (row g 0) C Q (nI 0).toInt64 (1 + (R - 1)) := by
    rw [show 1 + (R - 1) = R by omega]; exact e2
  have new : ∀ i, i < 132 → i ≠ 0 → i ≠ 64 → row (put g 0 (newN (row g 0) (36 + 4 * 7) 0 0 4)) 0 i = row g 0 i := fun i hi h1 h2 => by
    rw [row_put hi]
    by_cases c : 64 ≤ i ∧ i < 68
    · rw [newN_f h1 (by omega), if_neg (by omega)]
      have := f (i - 64) (by omega)
      rw [show 64 + (i - 64) = i by omega] at this
      exact this.symm
    · rw [newN_o h1 (by omega) (by omega)]
  have e4 := zB_inj (a := row (put g 0 (newN (row g 0) (36 + 4 * 7) 0 0 4)) 0) (b := row g 0) a7 a8 (R - 1) 1 (by omega) (fun i hi h1 => new i hi (by omega) (by omega)) e3
  have c0 : row (put g 0 (newN (row g 0) (36 + 4 * 7) 0 0 4)) 0 0 = row g 0 0 + 1 := by rw [row_put (by omega), newN_r]
  have c64 : row (put g 0 (newN (row g 0) (36 + 4 * 7) 0 0 4)) 0 64 = row g 0 0 + 1 := by rw [row_put (by omega), newN_f (by omega) (by omega), if_pos (by omega)]
  have d64 : row g 0 64 = 0 := f 0 (by omega)
  generalize row (put g 0 (newN (row g 0) (36 + 4 * 7) 0 0 4)) 0 = A at *
  generalize (nI 0).toInt64 = s0 at *
  have e5 : zQ A 0 (zT A 0 (zC A 0 (31 * s0 + (A 0).toInt64) C) 16) Q = zQ (row g 0) 0 (zT (row g 0) 0 (zC (row g 0) 0 (31 * s0 + (row g 0 0).toInt64) C) 16) Q := e4
  have e6 := zQ_inj Q (fun i hi => by unfold valE; rw [new (100 + (4 * i + 0)) (by omega) (by omega) (by omega), new (116 + (4 * i + 0)) (by omega) (by omega) (by omega)]) e5
  have e7 := zT_inj 8 8 (fun i h1 h2 => new _ (by omega) (by omega) (by omega)) e6
  have e8 : 31 * zT A 0 (zC A 0 (31 * s0 + (A 0).toInt64) C) 7 + (A 64).toInt64 = 31 * zT (row g 0) 0 (zC (row g 0) 0 (31 * s0 + (row g 0 0).toInt64) C) 7 + (row g 0 64).toInt64 := e7
  have z0 : (0 : Int32).toInt64 = 0 := rfl
  rw [c0, i64_one w.1 (by omega), ← Int64.add_assoc, zC_dd (b := row g 0) _ C (fun i hi => ⟨new _ (by omega) (by omega) (by omega), new _ (by omega) (by omega) (by omega)⟩), zT_dd (b := row g 0) _ 7 (fun i hi => new _ (by omega) (by omega) (by omega)), st_add, c64, d64, z0, Int64.add_assoc] at e8
  have e9 := i64_cancel e8
  have ed : 31 * dd (0 + 2 * C + 7) = dd (8 + 2 * C) := by rw [show 8 + 2 * C = 0 + 2 * C + 7 + 1 by omega]; rfl
  rw [ed] at e9
  exact dd_ne (by omega) (by omega) hC e9
theorem lg_ne {a b : Int64} (h : a ≠ b) : ¬ (lg_cmp a b = 0) := fun e => h ((lg_cmp_eq a b).mp e)
section LL
variable {n x R C Q m : Nat} {M : Mem} {g o : Nat → Int32} {h : Nat} {v : Nat → Int32} {b : Nat}
theorem DD.congr {g' : Nat → Int32} (hd : DD n x R C Q m M g o h v b) (e : ∀ q, q < 1330 → g' q = g q) : DD n x R C Q m M g' o h v b := by
  obtain ⟨⟨w, p, c⟩, i, k, ks⟩ := hd
  exact ⟨⟨w, p, c.congr e (fun _ _ => rfl) (fun _ _ _ _ _ => rfl)⟩, i, k.congr e, ks⟩
theorem DD.sum (hd : DD n x R C Q m M g o h v b) : ∃ M', f_L_sum x M = some (hsh g R C Q m, M') ∧ DD n x R C Q m M' g o h v b := by
  obtain ⟨w, p, cz, hx⟩ := hd.cx
  obtain ⟨M', e, cs⟩ := w_sum hx
  exact ⟨M', e, hd.sim cs.fr⟩
theorem DD.next (hd : DD n x R C Q m M g o h v b) : ∃ r M', r < 8388608 ∧ f_L_next (x + 60) M = some (nI r, M') ∧ DD n x R C Q m M' g o h v b := by
  obtain ⟨r, M', h1, e, f⟩ := w_next hd
  exact ⟨r, M', h1, e, hd.sim f⟩
/-- the slot q holds the world that was loaded -/
def Svd (R C Q q : Nat) (v : Nat → Int32) (b : Nat) (gL : Nat → Int32) : Prop := bit b q ∧ (∀ i, i < 1330 → sl v q i = gL i) ∧ Wk 12 R C Q 0 gL ∧ (∀ j, j < 4 → row gL 0 (64 + j) = 0) ∧ C ≤ 2
theorem w_back (hd : DD n x R C Q m M g o h v b) (hn : n < 9000) {q : Nat} (hq : q < 2) {gL : Nat → Int32} (S : Svd R C Q q v b gL) {xs : Nat → Int32} {L : Nat} : ∃ y, fj_L_law_321 xs L x (x + 60) 1 (nI q) (hsh gL R C Q 0) M = some y ∧ ∃ M' n' m' g' o' h', y = .inl (1, nI (q + 1), M') ∧ DD n' x R C Q m' M' g' o' h' v b := by
  obtain ⟨s1, s2, s3, s4, s5⟩ := S
  have eq1 : nI q + 1 = nI (q + 1) := nI_add q 1
  obtain ⟨r, M1, b1, e1, hd1⟩ := hd.next
  have k1 : nI r - nI r / 2 * 2 = nI (r % 2) := nI_rem (a := r) (b := 2) (by omega) (by omega)
  by_cases c : r % 2 = 0
  · obtain ⟨w1, p1, cz1, hx1⟩ := hd1.cx
    have hR := hx1.Rle
    have s3' : Wk (n + 1 + 12) R C Q 0 (sl v q) := (s3.congr s2).mono (by omega)
    have hd1' := hd1.mono (show n ≤ n + 12 by omega)
    obtain ⟨M2, e2, hd2'⟩ := hd1'.step (c_rest cz1 hx1 hq s1 s3'.1.2.2.2.1) (s3'.mono (by omega))
    have hd2 := hd2'.congr (g' := gL) (fun i hi => (s2 i hi).symm)
    obtain ⟨M3, e3, hd3⟩ := hd2.sum
    obtain ⟨M4, e4, hd4⟩ := hd3.sum
    obtain ⟨M5, e5, hd5⟩ := w_add hd4 (by omega) (r := 0) (s := 7) (by omega) (by omega)
    have up := (up_pos (r := 0) (s3.2.1 0 (by omega) (by omega)) (by omega) (by omega)).2
    obtain ⟨M6, e6, hd6⟩ := hd5.sum
    obtain ⟨M7, y, m', y10, e7, hd7, um⟩ := w_undo hd6 (remH_pos _)
    have h10 : remH h ≤ 10 := by obtain ⟨⟨w, p, c⟩, _⟩ := hd4; exact c.h10
    have en : ∀ i, i < 1330 → gL i = sl (remO (remO o h g) (remH h) gL) (remH (remH h) - 1) i := fun i hi => (sl_rem_new h10 i hi).symm
    obtain rfl := um 0 ((s3.mono (by omega)).congr (fun i hi => (en i hi).symm))
    have hd7' := hd7.congr (g' := gL) en
    obtain ⟨M8, e8, hd8⟩ := hd7'.sum
    have k5 : (mK M1 x = 5) = True := hx1.k5
    have z0 : nI 0 = 0 := rfl
    have e5' : f_L_added x 0 7 M4 = some (row gL 0 0 + 1, M5) := e5
    have ne := lg_ne (hsh_ne s3 (by omega) s5 s4)
    have ny : ¬ (nI y < 0) := nI_pos (by omega)
    refine ⟨.inl (1, nI (q + 1), M8), ?_, M8, _, _, _, _, _, rfl, hd8⟩
    simp only [fj_L_law_321, fj_L_law_358, fj_L_law_411, fj_L_law_412, cK, k5, if_true, if_false, bq, bn, eq_self, e10, e1, k1, c, z0, e2, e3, lg_cmp0, e4, e5', up, e6, ne, e7, ny, e8, eq1]
  · have z1 : ¬ (nI (r % 2) = 0) := fun e => absurd ((nI_eq (b := 0) (by omega) (by omega)).mp e) c
    refine ⟨.inl (1, nI (q + 1), M1), ?_, M1, _, _, _, _, _, rfl, hd1⟩
    simp only [fj_L_law_321, fj_L_law_412, bn, e10, if_false, e1, k1, z1, eq1]
theorem w_step (hd : DD n x R C Q m M g o h v b) (hn : n + 2 < 100000) {xs : Nat → Int32} {L : Nat} {q i : Nat} (hi : i < 9) {x6 : Int64} : ∃ M' m' g' o' h', fc_L_law_126 xs L x (x + 60) (nI q) (nI R) x6 1 (nI i) M = some (.inl (1, nI (i + 1), M')) ∧ DD (n + 2) x R C Q m' M' g' o' h' v b := by
  have ei : nI i + 1 = nI (i + 1) := nI_add i 1
  have hl : ¬ ((9 : Int32) ≤ nI i) := nI_ge (a := i) (b := 9) hi (by omega)
  obtain ⟨M1, e1, d1⟩ := hd.sum
  obtain ⟨M2, e2, f2⟩ := (w_no d1).1
  have d2 := d1.sim f2
  obtain ⟨M3, e3, f3⟩ := (w_no d2).2.1
  have d3 := d2.sim f3
  obtain ⟨M4, e4, f4⟩ := (w_no d3).2.2.1
  have d4 := d3.sim f4
  obtain ⟨M5, e5, f5⟩ := (w_no d4).2.2.2.1
  have d5 := d4.sim f5
  obtain ⟨M6, e6, f6⟩ := (w_no d5).2.2.2.2.1
  have d6 := d5.sim f6
  obtain ⟨M7, e7, f7⟩ := (w_no d6).2.2.2.2.2.1
  have d7 := d6.sim f7
  obtain ⟨M8, e8, f8⟩ := (w_no d7).2.2.2.2.2.2.1
  have d8 := d7.sim f8
  obtain ⟨M9, e9, f9⟩ := (w_no d8).2.2.2.2.2.2.2
  have d9 := d8.sim f9
  obtain ⟨Ma, ea, da⟩ := d9.sum
  obtain ⟨Mb, gb, ob, hb, mb, eb, db, h1⟩ := w_act da hn
  obtain ⟨r, Mc, bc, ec, dc⟩ := db.next
  obtain ⟨wc, pc, czc, hxc⟩ := dc.cx
  have hR := hxc.Rle
  have kr := nI_rem (a := r) (b := R) (by omega) (by omega)
  obtain ⟨Md, ed, fd⟩ := w_repl hxc dc.2.2.1 (t := r % R) (Nat.mod_lt _ (by omega))
  have dd' := dc.sim fd
  obtain ⟨wd, pd, czd, hxd⟩ := dd'.cx
  obtain ⟨Me, ee, fe⟩ := w_pairs hxd dd'.2.2.1 (by omega)
  have de := dd'.sim fe.fr
  obtain ⟨r2, Mf, bf, ef, df⟩ := de.next
  have kf : nI r2 - nI r2 / 4 * 4 = nI (r2 % 4) := nI_rem (a := r2) (b := 4) (by omega) (by omega)
  by_cases c : r2 % 4 = 0
  · obtain ⟨Mg, y, m', y10, eg, dg, _⟩ := w_undo df h1
    have ny : ¬ (nI y < 0) := nI_pos (by omega)
    have z0 : nI 0 = 0 := rfl
    refine ⟨Mg, m', _, _, _, ?_, dg⟩
    simp only [fc_L_law_126, fj_L_law_249, fj_L_law_288, fj_L_law_314, fj_L_law_315, hl, if_true, if_false, bn, eq_self, e10, e1, e2, e3, e4, e5, e6, e7, e8, e9, ea, lg_cmp0, eb, ec, gz_R hR.1 hR.2.1, Option.bind_some, kr, ed, ee, ef, kf, c, z0, eg, ny, ei]
  · have z1 : ¬ (nI (r2 % 4) = 0) := fun e => absurd ((nI_eq (b := 0) (by omega) (by omega)).mp e) c
    refine ⟨Mf, mb, gb, ob, hb, ?_, df⟩
    simp only [fc_L_law_126, fj_L_law_249, fj_L_law_288, fj_L_law_315, hl, if_true, if_false, bn, eq_self, e10, e1, e2, e3, e4, e5, e6, e7, e8, e9, ea, lg_cmp0, eb, ec, gz_R hR.1 hR.2.1, Option.bind_some, kr, ed, ee, ef, kf, z1, ei]
theorem w_inner (hd : DD n x R C Q m M g o h v b) (hn : n ≤ 12) {q : Nat} (hq : q < 2) {gL : Nat → Int32} (S : Svd R C Q q v b gL) {xs : Nat → Int32} {L : Nat} : ∃ y, fj_L_law_126 xs L x (x + 60) (nI q) (nI R) (hsh gL R C Q 0) 1 0 M = some y ∧ ∃ M' n' m' g' o' h', y = .inl (1, nI (q + 1), M') ∧ DD n' x R C Q m' M' g' o' h' v b := by
  unfold fj_L_law_126
  refine loopM_inv (N := 9) (P := fun i s => s.1 = 1 ∧ s.2.1 = nI i ∧ ∃ m' g' o' h', DD (12 + 2 * i) x R C Q m' s.2.2 g' o' h' v b) ⟨rfl, rfl, m, g, o, h, hd.mono hn⟩ (fun i s hi hp => ?_) (fun s hp => ?_) (by decide)
  · obtain ⟨s1, s2, M1⟩ := s
    obtain ⟨a1, a2, m', g', o', h', d⟩ := hp
    dsimp only at a1 a2 d
    subst a1 a2
    obtain ⟨M', m2, g2, o2, h2, e, d2⟩ := w_step d (by omega) hi (xs := xs) (L := L) (q := q) (x6 := hsh gL R C Q 0)
    exact ⟨(1, nI (i + 1), M'), e, rfl, rfl, m2, g2, o2, h2, d2⟩
  · obtain ⟨s1, s2, M1⟩ := s
    obtain ⟨a1, a2, m', g', o', h', d⟩ := hp
    dsimp only at a1 a2 d
    subst a1 a2
    obtain ⟨y, e, r⟩ := w_back d (by omega) hq S (xs := xs) (L := L)
    have hl : (9 : Int32) ≤ nI 9 := Int32.le_refl _
    refine ⟨y, ?_, r⟩
    simp only [fc_L_law_126, hl, if_true, e, Option.map_some]
/-- ahead of a text -/
def BD (x : Nat) (M : Mem) : Prop := ∃ w p g o h v b, ClsZ x w p M g o h v b ∧ mI M 129 x = 0
theorem DD.bd (hd : DD n x R C Q m M g o h v b) : BD x M := by
  obtain ⟨⟨w, p, c⟩, i, _⟩ := hd
  exact ⟨w, p, g, o, h, v, b, c, i⟩
theorem BD.sim {M' : Mem} (hd : BD x M) (f : Fr (kpP x) M M') : BD x M' := by
  obtain ⟨w, p, g, o, h, v, b, c, i⟩ := hd
  have hz := c.z1
  exact ⟨w, p, g, o, h, v, b, c.sim f, by rw [(f.at (show x < mZ M by omega) (by unfold kpP; omega)).1]; exact i⟩
/-- every text of the law is taken -/
def TextOK (x : Nat) : Prop := ∀ (M : Mem) (R C Q : Nat), BD x M → 1 ≤ R → R ≤ 4 → C ≤ 2 → Q ≤ 2 → ∃ s M1 M2 g o v, f_L_notes (nI R) (nI C) (nI Q) (x + 60) M = some (s, M1) ∧ f_L_load x s M1 = some (nI R, M2) ∧ DD 12 x R C Q 0 M2 g o 0 v 0 ∧ (∀ j, j < 4 → row g 0 (64 + j) = 0)
end LL
