/-! writeRegister, outputByte -/
theorem dig_ok : ∀ k : Fin 100, nI k.val / 10 = nI (k.val / 10) ∧ nI k.val / 10 * 10 = nI (k.val / 10 * 10) := by decide
section CP
variable {n x : Nat} {M : Mem}
def vN0 (a : Nat → Int32) (q b : Nat) : Nat := (valE a q b).toNatClampNeg
def lreg (a : Nat → Int32) (q : Nat) : Nat → List Nat
  | 0 => []
  | b + 1 => if valE a q b = -1 then lreg a q b else lreg a q b ++ (if 0 < (lreg a q b).length then [124] else []) ++ (if 10 ≤ vN0 a q b then [48 + vN0 a q b / 10] else []) ++ [48 + vN0 a q b % 10]
def lregE (a : Nat → Int32) (q : Nat) : List Nat := if (lreg a q 4).length = 0 then [45] else lreg a q 4
theorem lreg_le (a : Nat → Int32) (q b : Nat) : (lreg a q b).length ≤ 4 * b := by
  induction b with
  | zero => exact Nat.le_refl 0
  | succ b ih =>
    unfold lreg
    by_cases c : valE a q b = -1
    · rw [if_pos c]; omega
    · rw [if_neg c, List.length_append, List.length_append, List.length_append]
      have h1 : (if 0 < (lreg a q b).length then [124] else []).length ≤ 1 := by split <;> simp
      have h2 : (if 10 ≤ vN0 a q b then [48 + vN0 a q b / 10] else []).length ≤ 1 := by split <;> simp
      simp only [List.length_cons, List.length_nil]; omega
theorem valE_n {k : Nat} {a : Nat → Int32} (h : WFr k a) {q b : Nat} (hq : q < 4) (hb : b < 4) : valE a q b = -1 ∨ (valE a q b = nI (vN0 a q b) ∧ vN0 a q b < 100 ∧ ¬ (valE a q b = -1)) := by
  unfold vN0
  by_cases c : a (100 + (4 * q + b)) ≤ 0
  · left; unfold valE; rw [if_pos c]
  · right
    have e : valE a q b = a (116 + (4 * q + b)) := by unfold valE; rw [if_neg c]
    have w := h.2.2.2.2 (116 + (4 * q + b)) (by omega) (by omega)
    rw [e]
    obtain ⟨j, hj, ej⟩ := nI_of (x := a (116 + (4 * q + b))) (by rw [i32_lt, i32_0]; omega)
    rw [ej] at w ⊢
    rw [nI_toI hj] at w
    refine ⟨by rw [nI_cl hj], by rw [nI_cl hj]; omega, ?_⟩
    rw [i32_eq, nI_toI hj]; have : (-1 : Int32).toInt = -1 := rfl
    omega
theorem c_val (fx : Fix x M) {f : Nat → Int32} {L : List Nat} (hL : L.length ≤ 28) (hf : holds f L) {k : Nat} (hk : k < 100) : ∃ f', f_X4_putEntryValue x (nI k) (cOut x M f L.length) = some (cOut x M f' (L ++ (if 0 < L.length then [124] else []) ++ (if 10 ≤ k then [48 + k / 10] else []) ++ [48 + k % 10]).length) ∧ holds f' (L ++ (if 0 < L.length then [124] else []) ++ (if 10 ≤ k then [48 + k / 10] else []) ++ [48 + k % 10]) := by
  obtain ⟨dg1, dg2⟩ := dig_ok ⟨k, hk⟩
  dsimp only at dg1 dg2
  rw [dg1] at dg2
  have k5 : ∀ f l, (mK (Jvm.Pilot.COfflineNotesLaw_law_r8908_f384f3.cOut x M f l) x = 5) = True := fun f l => eq_true fx.1.1
  have m10 : nI k - nI (k / 10 * 10) = nI (k % 10) := by rw [nI_sub (by omega)]; exact congrArg nI (by omega)
  have e1 : (48 : Int32) + nI (k / 10) = nI (48 + k / 10) := nI_add 48 _
  have e2 : (48 : Int32) + nI (k % 10) = nI (48 + k % 10) := nI_add 48 _
  have two : ∀ (f : Nat → Int32) (L : List Nat), L.length ≤ 29 → holds f L → ∃ f', fj_X4_putEntryValue_13 x (nI k) (cOut x M f L.length) = some (cOut x M f' (L ++ (if 10 ≤ k then [48 + k / 10] else []) ++ [48 + k % 10]).length) ∧ holds f' (L ++ (if 10 ≤ k then [48 + k / 10] else []) ++ [48 + k % 10]) := by
    intro f L hL hf
    by_cases c : 10 ≤ k
    · have l10 : ¬ (nI k < 10) := nI_nlt c (by omega)
      have p1 := cc_put fx (f := f) (k := L.length) (c := 48 + k / 10) (by omega) (by omega)
      have h1 := holds_app hf (48 + k / 10)
      have p2 := cc_put fx (f := u1 f L.length (nI (48 + k / 10))) (k := L.length + 1) (c := 48 + k % 10) (by omega) (by omega)
      have h2 := holds_app h1 (48 + k % 10)
      rw [List.length_append] at h2
      refine ⟨_, ?_, by rw [if_pos c]; exact h2⟩
      rw [if_pos c, List.length_append, List.length_append]
      simp only [fj_X4_putEntryValue_13, fj_X4_putEntryValue_30, l10, if_false, cK, k5, if_true, dg1, e1, p1, Option.bind_some, dg2, m10, e2, p2]
      rfl
    · have l10 : nI k < 10 := nI_lt (b := 10) (by omega) (by omega)
      have p2 := cc_put fx (f := f) (k := L.length) (c := 48 + k % 10) (by omega) (by omega)
      have h2 := holds_app hf (48 + k % 10)
      refine ⟨_, ?_, by rw [if_neg c, List.append_nil]; exact h2⟩
      rw [if_neg c, List.append_nil, List.length_append]
      simp only [fj_X4_putEntryValue_13, fj_X4_putEntryValue_30, l10, if_true, cK, k5, dg1, dg2, m10, e2, p2, Option.bind_some]
      rfl
  have gi : gI 5 133 x (cOut x M f L.length) = some (nI L.length) := by
    unfold gI; rw [if_pos (show mK (cOut x M f L.length) x = 5 from fx.1.1)]; show some (mI (wI (wA M (x + 2) f) 133 x _) 133 x) = _; rw [mI_wI, if_pos ⟨rfl, rfl⟩]
  by_cases c : 0 < L.length
  · have z : ¬ (nI L.length ≤ 0) := nI_ge (a := 0) c (by omega)
    have p1 : f_X4_put x 124 _ = _ := cc_put fx (f := f) (k := L.length) (c := 124) (by omega) (by omega)
    have h1 := holds_app hf 124
    obtain ⟨f', t1, t2⟩ := two (u1 f L.length (nI 124)) (L ++ [124]) (by rw [List.length_append]; show L.length + 1 ≤ 29; omega) h1
    refine ⟨f', ?_, by rw [if_pos c]; exact t2⟩
    rw [if_pos c, ← t1, List.length_append]
    simp only [f_X4_putEntryValue, gi, Option.bind_some, z, if_false, cK, k5, if_true, p1]
    rfl
  · have z : nI L.length ≤ 0 := nI_le (b := 0) (by omega) (by omega)
    obtain ⟨f', t1, t2⟩ := two f L (by omega) hf
    refine ⟨f', ?_, by rw [if_neg c, List.append_nil]; exact t2⟩
    rw [if_neg c, List.append_nil, ← t1]
    simp only [f_X4_putEntryValue, gi, Option.bind_some, z, if_true]
theorem r_val (fx : Fix x M) {g f : Nat → Int32} {L : List Nat} (hL : L.length ≤ 28) (hf : holds f L) {k : Nat} (hk : k < 100) {r q b : Nat} : ∃ f', (∀ M', f_X5_entryOf (x + 60) (nI r) (nI q) (nI b) (rOut x M g f L.length) = some (nI k, M') → M' = rOut x M g f L.length → fc_X5_writeRegister_29 (x + 60) (nI r) (nI q) (nI b) (rOut x M g f L.length) = if (4 : Int32) ≤ nI b then fc_X5_writeRegister_29 (x + 60) (nI r) (nI q) (nI b) (rOut x M g f L.length) else some (.inl (nI (b + 1), rOut x M g f' (L ++ (if 0 < L.length then [124] else []) ++ (if 10 ≤ k then [48 + k / 10] else []) ++ [48 + k % 10]).length))) ∧ holds f' (L ++ (if 0 < L.length then [124] else []) ++ (if 10 ≤ k then [48 + k / 10] else []) ++ [48 + k % 10]) := by
  obtain ⟨dg1, dg2⟩ := dig_ok ⟨k, hk⟩
  dsimp only at dg1 dg2
  rw [dg1] at dg2
  have k6 : ∀ f l, (mK (Jvm.Pilot.COfflineNotesLaw_law_r8908_f384f3.rOut x M g f l) (x + 60) = 6) = True := fun f l => eq_true fx.rn.1
  have m10 : nI k - nI (k / 10 * 10) = nI (k % 10) := by rw [nI_sub (by omega)]; exact congrArg nI (by omega)
  have e1 : (48 : Int32) + nI (k / 10) = nI (48 + k / 10) := nI_add 48 _
  have e2 : (48 : Int32) + nI (k % 10) = nI (48 + k % 10) := nI_add 48 _
  have eb : nI b + 1 = nI (b + 1) := nI_add b 1
  have nm : (nI k = -1) = False := by
    refine eq_false ?_
    rw [i32_eq, nI_toI (by omega)]; have : (-1 : Int32).toInt = -1 := rfl
    omega
  have two : ∀ (f : Nat → Int32) (L : List Nat), L.length ≤ 29 → holds f L → ∃ f', fj_X5_writeRegister_62 (x + 60) (nI r) (nI q) (nI b) (nI k) (rOut x M g f L.length) = some (.inl (nI (b + 1), rOut x M g f' (L ++ (if 10 ≤ k then [48 + k / 10] else []) ++ [48 + k % 10]).length)) ∧ holds f' (L ++ (if 10 ≤ k then [48 + k / 10] else []) ++ [48 + k % 10]) := by
    intro f L hL hf
    by_cases c : 10 ≤ k
    · have l10 : ¬ (nI k ≤ 9) := nI_ge (a := 9) (by omega) (by omega)
      have p1 := rr_put fx (g := g) (f := f) (k := L.length) (c := 48 + k / 10) (by omega) (by omega)
      have h1 := holds_app hf (48 + k / 10)
      have p2 := rr_put fx (g := g) (f := u1 f L.length (nI (48 + k / 10))) (k := L.length + 1) (c := 48 + k % 10) (by omega) (by omega)
      have h2 := holds_app h1 (48 + k % 10)
      rw [List.length_append] at h2
      refine ⟨_, ?_, by rw [if_pos c]; exact h2⟩
      rw [if_pos c, List.length_append, List.length_append]
      simp only [fj_X5_writeRegister_62, fj_X5_writeRegister_81, fj_X5_writeRegister_99, l10, if_false, cK, k6, if_true, dg1, e1, p1, Option.bind_some, nm, dg2, m10, e2, p2, eb]
      rfl
    · have l10 : nI k ≤ 9 := nI_le (b := 9) (by omega) (by omega)
      have p2 := rr_put fx (g := g) (f := f) (k := L.length) (c := 48 + k % 10) (by omega) (by omega)
      have h2 := holds_app hf (48 + k % 10)
      refine ⟨_, ?_, by rw [if_neg c, List.append_nil]; exact h2⟩
      rw [if_neg c, List.append_nil, List.length_append]
      simp only [fj_X5_writeRegister_62, fj_X5_writeRegister_81, fj_X5_writeRegister_99, l10, if_true, cK, k6, nm, if_false, dg1, dg2, m10, e2, p2, Option.bind_some, eb]
      rfl
  have gi : gI 6 171 (x + 60) (rOut x M g f L.length) = some (nI L.length) := by
    unfold gI; rw [if_pos (show mK (rOut x M g f L.length) (x + 60) = 6 from fx.rn.1)]; show some (mI (wI (wA M (x + 67) f) 171 (x + 60) _) 171 (x + 60)) = _; rw [mI_wI, if_pos ⟨rfl, rfl⟩]
  by_cases c : 0 < L.length
  · have z : ¬ (nI L.length ≤ 0) := nI_ge (a := 0) c (by omega)
    have p1 : f_X5_writes (x + 60) 124 _ = _ := rr_put fx (g := g) (f := f) (k := L.length) (c := 124) (by omega) (by omega)
    have h1 := holds_app hf 124
    obtain ⟨f', t1, t2⟩ := two (u1 f L.length (nI 124)) (L ++ [124]) (by rw [List.length_append]; show L.length + 1 ≤ 29; omega) h1
    refine ⟨f', fun M' ee hM => ?_, by rw [if_pos c]; exact t2⟩
    subst hM
    by_cases h4 : (4 : Int32) ≤ nI b
    · rw [if_pos h4]
    · rw [if_neg h4, if_pos c, ← t1, List.length_append]
      simp only [fc_X5_writeRegister_29, h4, if_false, cK, k6, if_true, ee, bn, nm, gi, Option.bind_some, z, p1]
      rfl
  · have z : nI L.length ≤ 0 := nI_le (b := 0) (by omega) (by omega)
    obtain ⟨f', t1, t2⟩ := two f L (by omega) hf
    refine ⟨f', fun M' ee hM => ?_, by rw [if_neg c, List.append_nil]; exact t2⟩
    subst hM
    by_cases h4 : (4 : Int32) ≤ nI b
    · rw [if_pos h4]
    · rw [if_neg h4, if_neg c, List.append_nil, ← t1]
      simp only [fc_X5_writeRegister_29, h4, if_false, cK, k6, if_true, ee, bn, nm, gi, Option.bind_some, z]
theorem case_51 (hI : Inv n x M) {a b : Int32} : fk_law_51 x (x + 60) (x + 68) a b M (Inv (n + 1) x) := by
  obtain ⟨w, p, h, bb, hD⟩ := hI.d
  obtain ⟨R, C, Q, m, hx⟩ := hD.cx
  have hR := hx.Rle
  have hc := hx.2.2.2.1
  have fx := hI.fix
  refine lw_gen (H := hnd1 0) (F := f_X4_writeRegister x a b M) (G := f_X5_writeRegister (x + 60) a b) hI ?_
  rcases rng a R (by omega) with ⟨r, hr, rfl⟩ | ha
  · rcases rng b Q (by omega) with ⟨q, hq, rfl⟩ | hb
    · have wr := (hx.cl (show r < 4 + m by omega)).2.2
      have lE : (lregE (row (mA M (x + 62)) r) q).length ≤ 32 := by
        have := lreg_le (row (mA M (x + 62)) r) q 4
        unfold lregE; split
        · simp
        · omega
      have cl : ∃ y, fj_X4_writeRegister_19 x (nI q) (sto w p r) 0 (cOut x M (mA M (x + 2)) 0) = some y ∧ (∃ f, y = (.inl (nI (lregE (row (mA M (x + 62)) r) q).length), cOut x M f (lregE (row (mA M (x + 62)) r) q).length) ∧ holds f (lregE (row (mA M (x + 62)) r) q)) := by
        unfold fj_X4_writeRegister_19
        refine loopM_inv (N := 4) (P := fun i s => s.1 = nI i ∧ ∃ f, s.2 = cOut x M f (lreg (row (mA M (x + 62)) r) q i).length ∧ holds f (lreg (row (mA M (x + 62)) r) q i)) ⟨rfl, _, rfl, holds_nil _⟩ (fun i s hi hp => ?_) (fun s hp => ?_) (FUn (by decide))
        · obtain ⟨s1, M2⟩ := s
          obtain ⟨e1, f, e2, e3⟩ := hp
          dsimp only at e1 e2
          subst e1 e2
          have hx2 := hx.cOut (f := f) (l := (lreg (row (mA M (x + 62)) r) q i).length)
          obtain ⟨c0, d0, e0⟩ := hx2.cl (show r < 4 + m by omega)
          have ed := X2_valueBy (r := q) (b := i) c0 (by omega) hi
          rw [vl (q := q) (b := i) d0 e0 (by omega) hi] at ed
          have le := lreg_le (row (mA M (x + 62)) r) q i
          have h4 : ¬ ((4 : Int32) ≤ nI i) := nI_ge hi (by decide)
          have ei : nI i + 1 = nI (i + 1) := nI_add i 1
          have k5 : ∀ f l, (mK (Jvm.Pilot.COfflineNotesLaw_law_r8908_f384f3.cOut x M f l) x = 5) = True := fun f l => eq_true fx.1.1
          rcases valE_n e0 (show q < 4 by omega) hi with hv | ⟨hv, hv1, hv2⟩
          · rw [hv] at ed
            have lL : lreg (row (mA M (x + 62)) r) q (i + 1) = lreg (row (mA M (x + 62)) r) q i := by show (if valE (row (mA M (x + 62)) r) q i = -1 then _ else _) = _; rw [if_pos hv]
            refine ⟨(nI (i + 1), cOut x M f (lreg (row (mA M (x + 62)) r) q i).length), ?_, rfl, f, by rw [lL], by rw [lL]; exact e3⟩
            simp only [fc_X4_writeRegister_19, fj_X4_writeRegister_46, h4, if_false, cK, hx2.s3 (show r < 4 + m by omega), if_true, ed, bn, ei]
          · have hv2' : (nI (vN0 (row (mA M (x + 62)) r) q i) = -1) = False := eq_false (fun e => hv2 (hv.trans e))
            rw [hv] at ed
            obtain ⟨f', t1, t2⟩ := c_val fx (f := f) (L := lreg (row (mA M (x + 62)) r) q i) (by omega) e3 hv1
            have lL : lreg (row (mA M (x + 62)) r) q (i + 1) = lreg (row (mA M (x + 62)) r) q i ++ (if 0 < (lreg (row (mA M (x + 62)) r) q i).length then [124] else []) ++ (if 10 ≤ vN0 (row (mA M (x + 62)) r) q i then [48 + vN0 (row (mA M (x + 62)) r) q i / 10] else []) ++ [48 + vN0 (row (mA M (x + 62)) r) q i % 10] := by show (if valE (row (mA M (x + 62)) r) q i = -1 then _ else _) = _; rw [if_neg hv2]
            rw [← lL] at t1 t2
            refine ⟨(nI (i + 1), cOut x M f' (lreg (row (mA M (x + 62)) r) q (i + 1)).length), ?_, rfl, f', rfl, t2⟩
            simp only [fc_X4_writeRegister_19, fj_X4_writeRegister_46, h4, if_false, cK, hx2.s3 (show r < 4 + m by omega), if_true, ed, bn, hv2', k5, t1, Option.bind_some, ei]
        · obtain ⟨s1, M2⟩ := s
          obtain ⟨e1, f, e2, e3⟩ := hp
          dsimp only at e1 e2
          subst e1 e2
          have le := lreg_le (row (mA M (x + 62)) r) q 4
          have h4 : (4 : Int32) ≤ nI 4 := by decide
          have gi : ∀ f l, gI 5 133 x (cOut x M f l) = some (nI l) := fun f l => by
            unfold gI; rw [if_pos (show mK (cOut x M f l) x = 5 from fx.1.1)]; show some (mI (wI (wA M (x + 2) f) 133 x _) 133 x) = _; rw [mI_wI, if_pos ⟨rfl, rfl⟩]
          have k5 : ∀ f l, (mK (Jvm.Pilot.COfflineNotesLaw_law_r8908_f384f3.cOut x M f l) x = 5) = True := fun f l => eq_true fx.1.1
          unfold lregE
          by_cases c : (lreg (row (mA M (x + 62)) r) q 4).length = 0
          · rw [if_pos c, c]
            have p1 : f_X4_put x 45 _ = _ := cc_put fx (f := f) (k := 0) (c := 45) (by omega) (by omega)
            refine ⟨(.inl (nI 1), cOut x M (u1 f 0 (nI 45)) 1), ?_, u1 f 0 (nI 45), rfl, holds_app (holds_nil f) 45⟩
            simp only [fc_X4_writeRegister_19, fj_X4_writeRegister_52, fj_X4_writeRegister_65, h4, if_true, gi, Option.bind_some, show (nI 0 = 0) = True from eq_true rfl, cK, k5, p1, Option.map_some]
          · have ne0 : (nI (lreg (row (mA M (x + 62)) r) q 4).length = 0) = False := nI_eqF (b := 0) c (by omega) (by omega)
            rw [if_neg c]
            refine ⟨(.inl (nI (lreg (row (mA M (x + 62)) r) q 4).length), cOut x M f (lreg (row (mA M (x + 62)) r) q 4).length), ?_, f, rfl, e3⟩
            simp only [fc_X4_writeRegister_19, fj_X4_writeRegister_52, fj_X4_writeRegister_65, h4, if_true, gi, Option.bind_some, ne0, if_false, Option.map_some]
      obtain ⟨y, ec, f1, rfl, hf1⟩ := cl
      refine Or.inl ⟨nI (lregE (row (mA M (x + 62)) r) q).length, cOut x M f1 (lregE (row (mA M (x + 62)) r) q).length, ?_, fx, fun fL z _ => ?_⟩
      · have em : wI M 133 x 0 = cOut x M (mA M (x + 2)) 0 := by unfold cOut; rw [wA_id]; rfl
        simp only [f_X4_writeRegister, cK, hx.k5, if_true, if_false, bx_l, bx_r, bn, Option.bind_some, Option.map_some, b01_or, hx.w134, hx.r100, hx.r101, hx.r102, hx.i96, hx.i97, hx.i98, hx.i99, sta_ok hx hr, reg_ok hx hq, sI_w, em, ec]
      · let M3 := setZ (wL (cOut x M f1 (lregE (row (mA M (x + 62)) r) q).length) (x + 68) fL) z
        have f3 : Fix x M3 := fx
        have a62 : mA M3 (x + 62) = mA M (x + 62) := mA_ne (M := M) (g := f1) (by omega)
        have cr : ∃ y, fj_X5_writeRegister_29 (x + 60) (nI r) (nI q) 0 (rOut x M3 (mA M (x + 62)) (mA M3 (x + 67)) 0) = some y ∧ (∃ f, y = (nI (lregE (row (mA M (x + 62)) r) q).length, wI (rOut x M3 (mA M (x + 62)) f (lregE (row (mA M (x + 62)) r) q).length) 161 (x + 60) 0) ∧ holds f (lregE (row (mA M (x + 62)) r) q)) := by
          unfold fj_X5_writeRegister_29
          refine loopM_inv (N := 4) (P := fun i s => s.1 = nI i ∧ ∃ f, s.2 = rOut x M3 (mA M (x + 62)) f (lreg (row (mA M (x + 62)) r) q i).length ∧ holds f (lreg (row (mA M (x + 62)) r) q i)) ⟨rfl, _, rfl, holds_nil _⟩ (fun i s hi hp => ?_) (fun s hp => ?_) (FUn (by decide))
          · obtain ⟨s1, M2⟩ := s
            obtain ⟨e1, f, e2, e3⟩ := hp
            dsimp only at e1 e2
            subst e1 e2
            have rn : ∀ f l, Rn (wI (wA M3 (x + 67) f) 171 (x + 60) (nI l)) (x + 60) (x + 62) := fun f l => f3.rn
            have ed : f_X5_entryOf (x + 60) (nI r) (nI q) (nI i) (rOut x M3 (mA M (x + 62)) f (lreg (row (mA M (x + 62)) r) q i).length) = some (valE (row (mA M (x + 62)) r) q i, rOut x M3 (mA M (x + 62)) f (lreg (row (mA M (x + 62)) r) q i).length) := X5_entryOf (rn f _) (show r < 12 by omega) (show q < 4 by omega) hi
            have le := lreg_le (row (mA M (x + 62)) r) q i
            have h4 : ¬ ((4 : Int32) ≤ nI i) := nI_ge hi (by decide)
            have ei : nI i + 1 = nI (i + 1) := nI_add i 1
            have k6 : ∀ f l, (mK (rOut x M3 (mA M (x + 62)) f l) (x + 60) = 6) = True := fun f l => eq_true f3.rn.1
            rcases valE_n wr (show q < 4 by omega) hi with hv | ⟨hv, hv1, hv2⟩
            · rw [hv] at ed
              have lL : lreg (row (mA M (x + 62)) r) q (i + 1) = lreg (row (mA M (x + 62)) r) q i := by show (if valE (row (mA M (x + 62)) r) q i = -1 then _ else _) = _; rw [if_pos hv]
              refine ⟨(nI (i + 1), rOut x M3 (mA M (x + 62)) f (lreg (row (mA M (x + 62)) r) q i).length), ?_, rfl, f, by rw [lL], by rw [lL]; exact e3⟩
              have l9 : (-1 : Int32) ≤ 9 := by decide
              simp only [fc_X5_writeRegister_29, fj_X5_writeRegister_62, fj_X5_writeRegister_81, fj_X5_writeRegister_99, h4, if_false, cK, k6, if_true, ed, bn, l9, ei]
            · rw [hv] at ed
              obtain ⟨f', t1, t2⟩ := r_val f3 (g := mA M (x + 62)) (f := f) (L := lreg (row (mA M (x + 62)) r) q i) (by omega) e3 hv1 (r := r) (q := q) (b := i)
              have lL : lreg (row (mA M (x + 62)) r) q (i + 1) = lreg (row (mA M (x + 62)) r) q i ++ (if 0 < (lreg (row (mA M (x + 62)) r) q i).length then [124] else []) ++ (if 10 ≤ vN0 (row (mA M (x + 62)) r) q i then [48 + vN0 (row (mA M (x + 62)) r) q i / 10] else []) ++ [48 + vN0 (row (mA M (x + 62)) r) q i % 10] := by show (if valE (row (mA M (x + 62)) r) q i = -1 then _ else _) = _; rw [if_neg hv2]
              have t1' := t1 _ ed rfl
              rw [if_neg h4, ← lL] at t1'
              rw [← lL] at t2
              exact ⟨(nI (i + 1), rOut x M3 (mA M (x + 62)) f' (lreg (row (mA M (x + 62)) r) q (i + 1)).length), t1', rfl, f', rfl, t2⟩
          · obtain ⟨s1, M2⟩ := s
            obtain ⟨e1, f, e2, e3⟩ := hp
            dsimp only at e1 e2
            subst e1 e2
            have le := lreg_le (row (mA M (x + 62)) r) q 4
            have rn : ∀ f l, Rn (wI (wA M3 (x + 67) f) 171 (x + 60) (nI l)) (x + 60) (x + 62) := fun f l => f3.rn
            have h4 : (4 : Int32) ≤ nI 4 := by decide
            have gi : ∀ f l, gI 6 171 (x + 60) (rOut x M3 (mA M (x + 62)) f l) = some (nI l) := fun f l => by
              unfold gI; rw [if_pos (show mK (rOut x M3 (mA M (x + 62)) f l) (x + 60) = 6 from f3.rn.1)]; show some (mI (wI (wA M3 (x + 67) f) 171 (x + 60) _) 171 (x + 60)) = _; rw [mI_wI, if_pos ⟨rfl, rfl⟩]
            have et : ∀ v f l, f_X5_told (x + 60) v (rOut x M3 (mA M (x + 62)) f l) = some (v, wI (rOut x M3 (mA M (x + 62)) f l) 161 (x + 60) 0) := fun v f l => told_eq (rn f l)
            have k6 : ∀ f l, (mK (rOut x M3 (mA M (x + 62)) f l) (x + 60) = 6) = True := fun f l => eq_true f3.rn.1
            unfold lregE
            by_cases c : (lreg (row (mA M (x + 62)) r) q 4).length = 0
            · rw [if_pos c, c]
              have p1 : f_X5_writes (x + 60) 45 _ = _ := rr_put f3 (g := mA M (x + 62)) (f := f) (k := 0) (c := 45) (by omega) (by omega)
              refine ⟨(nI 1, wI (rOut x M3 (mA M (x + 62)) (u1 f 0 (nI 45)) 1) 161 (x + 60) 0), ?_, u1 f 0 (nI 45), rfl, holds_app (holds_nil f) 45⟩
              simp only [fc_X5_writeRegister_29, fj_X5_writeRegister_105, fj_X5_writeRegister_118, h4, if_true, gi, Option.bind_some, show (nI 0 = 0) = True from eq_true rfl, cK, k6, p1, et, bn, Option.map_some]
            · have ne0 : (nI (lreg (row (mA M (x + 62)) r) q 4).length = 0) = False := nI_eqF (b := 0) c (by omega) (by omega)
              rw [if_neg c]
              refine ⟨(nI (lreg (row (mA M (x + 62)) r) q 4).length, wI (rOut x M3 (mA M (x + 62)) f (lreg (row (mA M (x + 62)) r) q 4).length) 161 (x + 60) 0), ?_, f, rfl, e3⟩
              simp only [fc_X5_writeRegister_29, fj_X5_writeRegister_105, fj_X5_writeRegister_118, h4, if_true, gi, Option.bind_some, ne0, if_false, cK, k6, et, bn, Option.map_some]
        obtain ⟨y, er, f2, rfl, hf2⟩ := cr
        refine ⟨wI (rOut x M3 (mA M (x + 62)) f2 (lregE (row (mA M (x + 62)) r) q).length) 161 (x + 60) 0, ?_, f3, ?_, wL_self _ _ _, fin_out hD lE hf1 hf2⟩
        · have em : M3 = wA M3 (x + 62) (mA M (x + 62)) := by rw [← a62, wA_id]
          have em2 : wI M3 171 (x + 60) 0 = rOut x M3 (mA M (x + 62)) (mA M3 (x + 67)) 0 := by
            unfold rOut; rw [wA_id]; show _ = wA (wI M3 171 (x + 60) (nI 0)) (x + 62) (mA M (x + 62)); rw [← a62]; exact (wA_id (wI M3 171 (x + 60) (nI 0)) (x + 62)).symm
          have ei : f_X5_isReplica (x + 60) (nI r) M3 = some (1, M3) := by
            have := isR_ok (g := mA M (x + 62)) f3.rn hr hR.2.1 hc.1
            rwa [← em] at this
          have ei2 : f_X5_isRegister (x + 60) (nI q) M3 = some (1, M3) := by
            have := isQ_ok (g := mA M (x + 62)) f3.rn hq hR.2.2.2.1 hc.2.2.1
            rwa [← em] at this
          have k6 : (mK M3 (x + 60) = 6) = True := eq_true f3.rn.1
          show f_X5_writeRegister (x + 60) (nI r) (nI q) M3 = _
          simp only [f_X5_writeRegister, cK, k6, if_true, ei, ei2, bn, e10, if_false, sI_w, Option.bind_some, em2]
          exact er
        · rw [mI_wI, if_pos ⟨rfl, rfl⟩]
    · refine Or.inr (exc_of 0 1 (by decide) (fun M => rfl) ?_ (fun M2 f2 => ?_))
      · simp only [f_X4_writeRegister, cK, hx.k5, if_true, if_false, bx_l, bx_r, bn, Option.bind_some, Option.map_some, b01_or, hx.w134, hx.r100, hx.r101, hx.r102, hx.i96, hx.i97, hx.i98, hx.i99, sta_ok hx hr, reg_no hx hb]
      · simp only [f_X5_writeRegister, fj_X5_writeRegister_16, cK, kM f2.rn, if_true, if_false, bn, Option.bind_some, Option.map_some, told_eq f2.rn, refuse_eq f2.rn, refuses_eq f2.rn, e10, b01_or, true_or, or_true, isR_ok f2.rn hr hR.2.1 hc.1, isQ_no f2.rn hb hR.2.2.2.1 hc.2.2.1]
  · refine Or.inr (exc_of 0 1 (by decide) (fun M => rfl) ?_ (fun M2 f2 => ?_))
    · simp only [f_X4_writeRegister, cK, hx.k5, if_true, if_false, bx_l, bx_r, bn, Option.bind_some, Option.map_some, b01_or, hx.w134, hx.r100, hx.r101, hx.r102, hx.i96, hx.i97, hx.i98, hx.i99, sta_no hx ha]
    · simp only [f_X5_writeRegister, fj_X5_writeRegister_16, cK, kM f2.rn, if_true, if_false, bn, Option.bind_some, Option.map_some, told_eq f2.rn, refuse_eq f2.rn, refuses_eq f2.rn, e10, b01_or, true_or, or_true, isR_no f2.rn ha hR.2.1 hc.1]
theorem case_52 (hI : Inv n x M) {a : Int32} : fk_law_52 x (x + 60) (x + 68) a M (Inv (n + 1) x) := by
  have fx := hI.fix
  obtain ⟨w, p, h, bb, _, _, _, ⟨len, ol, b1, b2, b3, b4, b5, b6, b7, b8, b9, b10⟩, _⟩ := id hI
  obtain ⟨g1, g2, g3, g4, g5, g6, g7, g8⟩ := fx.2.2.2.2.2.2.1
  obtain ⟨i1, i2, i3, i4, i5, i6, i7⟩ := fx.2.2.2.2.2.2.2.1
  refine lw_gen (H := hnd1 0) (F := f_X4_outputByte x a M) (G := f_X5_outputByte (x + 60) a) hI ?_
  have gi : gI 5 133 x M = some (nI ol) := by unfold gI; rw [if_pos fx.1.1, b5]
  rcases rng a ol (by omega) with ⟨r, hr, rfl⟩ | ha
  · refine Or.inl ⟨mA M (x + 2) r, M, ?_, fx, fun fL z _ => ?_⟩
    · have h1 : ¬ (nI r < 0) := nI_pos (by omega)
      have h2 : nI r < nI ol := nI_lt hr (by omega)
      have r132 : gRn 5 132 x M = some (x + 2) := gRn_ok fx.1.1 fx.1.2.2.1
      have ga : gA 8 (x + 2) (nI r) M = some (mA M (x + 2) r) := by
        unfold gA; rw [if_pos ⟨fx.2.1.2.2.1, by rw [fx.2.1.2.2.2, inT (show r < 32 by omega) (by omega)]; exact not_false⟩, nI_cl (by omega)]
      simp only [f_X4_outputByte, h1, h2, if_false, if_true, gi, Option.bind_some, r132, ga]
    · let M3 := setZ (wL M (x + 68) fL) z
      have s3 : Sim x M M3 := Sim.wL
      have k6 : (mK M3 (x + 60) = 6) = True := eq_true fx.rn.1
      have s4 := Sim.told (x := x) (M := M3) (v := 0) (g := mA M3 (x + 62)) (fun q _ => rfl)
      have em : wA (wI M3 161 (x + 60) 0) (x + 62) (mA M3 (x + 62)) = wI M3 161 (x + 60) 0 := wA_id (wI M3 161 (x + 60) 0) (x + 62)
      rw [em] at s4
      refine ⟨wI M3 161 (x + 60) 0, ?_, fx, by rw [mI_wI, if_pos ⟨rfl, rfl⟩], wL_self _ _ _, (hI.sim (s3.trans s4)).mono (by omega)⟩
      have gi6 : gI 6 171 (x + 60) M3 = some (nI ol) := by unfold gI; rw [if_pos (show mK M3 (x + 60) = 6 from g1)]; exact congrArg some b6
      have in1 : f_X5_in (nI r) 0 (nI ol - 1) M3 = some (1, M3) := in_ok hr (by omega)
      have r170 : gRn 6 170 (x + 60) M3 = some (x + 67) := gRn_ok (M := M3) g1 g8
      have ga : gA 7 (x + 67) (nI r) M3 = some (mA M (x + 2) r) := by
        unfold gA; rw [if_pos ⟨show mK M3 (x + 67) = 7 from i7.1, by rw [show mN M3 (x + 67) = 40 from i7.2, inT (show r < 40 by omega) (by omega)]; exact not_false⟩, nI_cl (by omega)]
        exact congrArg some (b10 r hr).symm
      show f_X5_outputByte (x + 60) (nI r) M3 = _
      simp only [f_X5_outputByte, gi6, Option.bind_some, in1, bn, e10, if_false, r170, ga, cK, k6, if_true, f_X5_told, sI_w]
  · refine Or.inr ⟨0, 1, M, by decide, fun M => rfl, ?_, CSim.refl, fun M2 f2 eI _ => ⟨0, ?_⟩⟩
    · by_cases c : a < 0
      · simp only [f_X4_outputByte, fj_X4_outputByte_12, c, if_true]
      · have h2 : ¬ (a < nI ol) := Int32.not_lt.mpr (ha.resolve_left c)
        simp only [f_X4_outputByte, fj_X4_outputByte_12, c, h2, if_false, gi, Option.bind_some]
    · have gi6 : gI 6 171 (x + 60) (wA M2 (x + 62) (mA M (x + 62))) = some (nI ol) := by
        unfold gI; rw [if_pos (show mK (wA M2 (x + 62) (mA M (x + 62))) (x + 60) = 6 from f2.rn.1)]; exact congrArg some ((eI 171 (by omega) (by omega)).trans b6)
      have in1 : f_X5_in a 0 (nI ol - 1) (wA M2 (x + 62) (mA M (x + 62))) = some (0, _) := in_no ha (by omega)
      simp only [f_X5_outputByte, cK, kM f2.rn, if_true, if_false, bn, Option.bind_some, Option.map_some, told_eq f2.rn, refuse_eq f2.rn, refuses_eq f2.rn, e10, b01_or, true_or, or_true, gi6, in1]
end CP
