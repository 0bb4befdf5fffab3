/-! THE LAW'S SUM over the class's answers, as a number of the world -/
def zC (a : Nat → Int32) (b : Nat) (s : Int64) : Nat → Int64
  | 0 => s
  | n + 1 => 31 * (31 * zC a b s n + (a (4 + (4 * n + b))).toInt64) + (a (20 + (4 * n + b))).toInt64
def zT (a : Nat → Int32) (b : Nat) (s : Int64) : Nat → Int64
  | 0 => s
  | n + 1 => 31 * zT a b s n + (a (36 + (4 * n + b))).toInt64
def zQ (a : Nat → Int32) (b : Nat) (s : Int64) : Nat → Int64
  | 0 => s
  | n + 1 => 31 * zQ a b s n + (valE a n b).toInt64
def zB (a : Nat → Int32) (C Q : Nat) (s : Int64) : Nat → Int64
  | 0 => s
  | n + 1 => zQ a n (zT a n (zC a n (31 * zB a C Q s n + (a n).toInt64) C) 16) Q
def zR (g : Nat → Int32) (R C Q : Nat) (s : Int64) : Nat → Int64
  | 0 => s
  | n + 1 => zB (row g n) C Q (zR g R C Q s n) R
noncomputable def zN (g : Nat → Int32) (j : Nat) (s : Int64) : Nat → Int64
  | 0 => s
  | n + 1 => 2 * zN g j s n + (b01 (¬ cov (row g n) (row g (4 + j)))).toInt64
noncomputable def zM (g : Nat → Int32) (R : Nat) (s : Int64) : Nat → Int64
  | 0 => s
  | n + 1 => zN g n (31 * zM g R s n + (g (4 + n)).toInt64) R
noncomputable def hsh (g : Nat → Int32) (R C Q m : Nat) : Int64 := zM g R (zR g R C Q (nI m).toInt64 R) m
section LSU
variable {x w : Nat} {p : Nat → Nat} {M : Mem} {g : Nat → Int32} {R C Q m k : Nat}
theorem s_news (hx : Cx x w p M g R C Q m k) {j : Nat} (hj : j < m) (s : Int64) : ∃ y, fj_L_sum_208 x (nI R) (nI j) s 0 M = some y ∧ ∃ M', y = .inl (zN g j s R, nI (j + 1), M') ∧ CSim x M M' := by
  have hR := hx.Rle
  unfold fj_L_sum_208
  refine loopM_inv (N := R) (P := fun i q => q.1 = zN g j s i ∧ q.2.1 = nI i ∧ CSim x M q.2.2) ⟨rfl, rfl, CSim.refl⟩ (fun i q hi hp => ?_) (fun q hp => ?_) (FUn (by omega))
  · obtain ⟨q1, q2, M1⟩ := q
    obtain ⟨a1, a2, a3⟩ := hp
    dsimp only at a1 a2 a3
    subst a1 a2
    have hx := hx.tr a3
    have hl : ¬ (nI R ≤ nI i) := nI_ge hi (by omega)
    have ei : nI i + 1 = nI (i + 1) := nI_add i 1
    obtain ⟨M', e, cs⟩ := q_news hx hj hi
    refine ⟨(zN g j s (i + 1), nI (i + 1), M'), ?_, rfl, rfl, a3.trans cs⟩
    by_cases c : cov (row g i) (row g (4 + j))
    · rw [b01_f (fun h => h c)] at e
      have eh : zN g j s (i + 1) = 2 * zN g j s i + (0 : Int32).toInt64 := by show _ + (b01 _).toInt64 = _; rw [b01_f (fun h => h c)]
      simp only [fc_L_sum_208, fj_L_sum_235, hl, cK, hx.k5, if_true, if_false, bq, bn, bx, Option.bind_some, Option.map_some, eq_self, reduceIte, e, ei, eh]
    · rw [b01_t c] at e
      have eh : zN g j s (i + 1) = 2 * zN g j s i + (1 : Int32).toInt64 := by show _ + (b01 _).toInt64 = _; rw [b01_t c]
      simp only [fc_L_sum_208, fj_L_sum_235, hl, cK, hx.k5, if_true, if_false, bq, bn, bx, Option.bind_some, Option.map_some, eq_self, reduceIte, e, e10, ei, eh]
  · obtain ⟨q1, q2, M1⟩ := q
    obtain ⟨a1, a2, a3⟩ := hp
    dsimp only at a1 a2 a3
    subst a1 a2
    have hl : nI R ≤ nI R := Int32.le_refl _
    have ej : nI j + 1 = nI (j + 1) := nI_add j 1
    refine ⟨_, ?_, M1, rfl, a3⟩
    simp only [fc_L_sum_208, fj_L_sum_244, hl, if_true, Option.map_some, ej]
theorem s_msg (hx : Cx x w p M g R C Q m k) (s : Int64) : ∃ y, fj_L_sum_179 x (nI R) s M = some y ∧ ∃ M', y = (zM g R s m, M') ∧ CSim x M M' := by
  have hR := hx.Rle
  unfold fj_L_sum_179 fj_L_sum_182
  refine loopM_inv (N := m) (P := fun i q => q.1 = zM g R s i ∧ q.2.1 = nI i ∧ CSim x M q.2.2) ⟨rfl, rfl, CSim.refl⟩ (fun i q hi hp => ?_) (fun q hp => ?_) (FUn (by omega))
  · obtain ⟨q1, q2, M1⟩ := q
    obtain ⟨a1, a2, a3⟩ := hp
    dsimp only at a1 a2 a3
    subst a1 a2
    have hx := hx.tr a3
    have hl : ¬ (nI m ≤ nI i) := nI_ge hi (by omega)
    obtain ⟨y, e, M', rfl, cs⟩ := s_news hx hi (31 * zM g R s i + (g (4 + i)).toInt64)
    refine ⟨(zM g R s (i + 1), nI (i + 1), M'), ?_, rfl, rfl, a3.trans cs⟩
    simp only [fc_L_sum_182, cK, hx.k5, if_true, if_false, bq, bn, bx, Option.bind_some, Option.map_some, eq_self, reduceIte, q_m hx, hl, q_sender hx hi]
    exact e
  · obtain ⟨q1, q2, M1⟩ := q
    obtain ⟨a1, a2, a3⟩ := hp
    dsimp only at a1 a2 a3
    subst a1 a2
    have hx := hx.tr a3
    have hl : nI m ≤ nI m := Int32.le_refl _
    refine ⟨_, ?_, M1, rfl, a3⟩
    simp only [fc_L_sum_182, fj_L_sum_250, cK, hx.k5, if_true, if_false, bq, bn, bx, Option.bind_some, Option.map_some, eq_self, reduceIte, q_m hx, hl]
theorem s_Q (hx : Cx x w p M g R C Q m k) {t b : Nat} (ht : t < R) (hb : b < R) (s : Int64) : fj_L_sum_131 x (nI R) s (nI t) (nI b) M = some (.inl (zQ (row g t) b s Q, nI (b + 1), M)) := by
  have hR := hx.Rle
  unfold fj_L_sum_131 fj_L_sum_134
  refine loopM_run (st := fun i => (zQ (row g t) b s i, nI i, M)) (N := Q) rfl (fun i hi => ?_) ?_ (FUn (by omega))
  · have hl : ¬ (nI Q ≤ nI i) := nI_ge hi (by omega)
    have ei : nI i + 1 = nI (i + 1) := nI_add i 1
    simp only [fc_L_sum_134, cK, hx.k5, if_true, if_false, bq, bn, bx, Option.bind_some, Option.map_some, eq_self, reduceIte, q_Q hx, hl, q_ent hx ht hi hb, ei]
    rfl
  · have hl : nI Q ≤ nI Q := Int32.le_refl _
    have eb : nI b + 1 = nI (b + 1) := nI_add b 1
    simp only [fc_L_sum_134, fj_L_sum_167, cK, hx.k5, if_true, if_false, bq, bn, bx, Option.bind_some, Option.map_some, eq_self, reduceIte, q_Q hx, hl, eb]
theorem s_T (hx : Cx x w p M g R C Q m k) {t b : Nat} (ht : t < R) (hb : b < R) (s : Int64) : fj_L_sum_97 x (nI R) s (nI t) (nI b) M = some (.inl (zQ (row g t) b (zT (row g t) b s 16) Q, nI (b + 1), M)) := by
  have hR := hx.Rle
  unfold fj_L_sum_97 fj_L_sum_100
  refine loopM_run (st := fun i => (zT (row g t) b s i, nI i, M)) (N := 16) rfl (fun i hi => ?_) ?_ (FUn (by decide))
  · have hl : ¬ ((16 : Int32) ≤ nI i) := nI_ge (a := i) (b := 16) hi (by omega)
    have ei : nI i + 1 = nI (i + 1) := nI_add i 1
    simp only [fc_L_sum_100, cK, hx.k5, if_true, if_false, bq, bn, bx, Option.bind_some, Option.map_some, eq_self, reduceIte, hl, q_tdot hx ht hi hb, ei]
    rfl
  · have hl : (16 : Int32) ≤ nI 16 := Int32.le_refl _
    simp only [fc_L_sum_100, hl, if_true, s_Q hx ht hb, Option.map_some]
theorem s_C (hx : Cx x w p M g R C Q m k) {t b : Nat} (ht : t < R) (hb : b < R) (s : Int64) : fj_L_sum_48 x (nI R) (nI t) (nI b) s 0 M = some (.inl (zQ (row g t) b (zT (row g t) b (zC (row g t) b s C) 16) Q, nI (b + 1), M)) := by
  have hR := hx.Rle
  unfold fj_L_sum_48
  refine loopM_run (st := fun i => (zC (row g t) b s i, nI i, M)) (N := C) rfl (fun i hi => ?_) ?_ (FUn (by omega))
  · have hl : ¬ (nI C ≤ nI i) := nI_ge hi (by omega)
    have ei : nI i + 1 = nI (i + 1) := nI_add i 1
    simp only [fc_L_sum_48, cK, hx.k5, if_true, if_false, bq, bn, bx, Option.bind_some, Option.map_some, eq_self, reduceIte, q_C hx, hl, q_inc hx ht hi hb, q_dec hx ht hi hb, ei]
    rfl
  · have hl : nI C ≤ nI C := Int32.le_refl _
    simp only [fc_L_sum_48, cK, hx.k5, if_true, if_false, bq, bn, bx, Option.bind_some, Option.map_some, eq_self, reduceIte, q_C hx, hl, s_T hx ht hb]
theorem s_B (hx : Cx x w p M g R C Q m k) {t : Nat} (ht : t < R) (s : Int64) : fj_L_sum_23 x (nI R) (nI t) s 0 M = some (.inl (zB (row g t) C Q s R, nI (t + 1), M)) := by
  have hR := hx.Rle
  unfold fj_L_sum_23
  refine loopM_run (st := fun i => (zB (row g t) C Q s i, nI i, M)) (N := R) rfl (fun i hi => ?_) ?_ (FUn (by omega))
  · have hl : ¬ (nI R ≤ nI i) := nI_ge hi (by omega)
    simp only [fc_L_sum_23, cK, hx.k5, if_true, if_false, bq, bn, bx, Option.bind_some, Option.map_some, eq_self, reduceIte, hl, q_ver hx ht hi, s_C hx ht hi]
    rfl
  · have hl : nI R ≤ nI R := Int32.le_refl _
    have et : nI t + 1 = nI (t + 1) := nI_add t 1
    simp only [fc_L_sum_23, fj_L_sum_173, hl, if_true, Option.map_some, et]
theorem w_sum (hx : Cx x w p M g R C Q m k) : ∃ M', f_L_sum x M = some (hsh g R C Q m, M') ∧ CSim x M M' := by
  have hR := hx.Rle
  obtain ⟨y, e, M', rfl, cs⟩ := s_msg hx (zR g R C Q (nI m).toInt64 R)
  refine ⟨M', ?_, cs⟩
  have lp : fj_L_sum_14 x (nI R) (nI m).toInt64 0 M = some (hsh g R C Q m, M') := by
    unfold fj_L_sum_14
    refine loopM_run (st := fun i => (zR g R C Q (nI m).toInt64 i, nI i, M)) (N := R) rfl (fun i hi => ?_) ?_ (FUn (by omega))
    · have hl : ¬ (nI R ≤ nI i) := nI_ge hi (by omega)
      simp only [fc_L_sum_14, hl, if_false, s_B hx hi]
      rfl
    · have hl : nI R ≤ nI R := Int32.le_refl _
      simp only [fc_L_sum_14, hl, if_true, e, Option.map_some]
      rfl
  simp only [f_L_sum, cK, hx.k5, if_true, if_false, bq, bn, bx, Option.bind_some, Option.map_some, eq_self, reduceIte, q_R hx, q_m hx, lp]
end LSU
/-- a world without messages and without the eighth tag: its sum changes where the tag is added to the first replica -/
theorem hsh_step {s s' c c' : Int64} (h : 31 * s + c = 31 * s' + c) : s = s' := by
  have e : 31 * s = 31 * s' := by
    have := congrArg (· - c) h
    simpa [Int64.add_sub_cancel] using this
  have := congrArg (fun z => (17256631552825064415 : Int64) * z) e
  rw [← Int64.mul_assoc, ← Int64.mul_assoc, show (17256631552825064415 : Int64) * 31 = 1 by decide, Int64.one_mul, Int64.one_mul] at this
  exact this
