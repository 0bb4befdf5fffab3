/-! THE FIRST TEXT (written by genstart.py) -/
def cS : GF := fun k => if k < 129 then jByt 0 k else 0
def cT (k : Nat) : Int32 := ([114, 101, 112, 108, 105, 99, 97, 115, 32, 51, 32, 50, 32, 49, 59, 32, 105, 110, 99, 32, 48, 32, 48, 32, 53, 59, 32, 100, 101, 99, 32, 49, 32, 48, 32, 50, 59, 32, 97, 100, 100, 32, 48, 32, 97, 59, 32, 97, 100, 100, 32, 49, 32, 98, 59, 32, 115, 101, 110, 100, 32, 48, 59, 32, 109, 101, 114, 103, 101, 32, 49, 32, 48, 59, 32, 114, 101, 109, 111, 118, 101, 32, 49, 32, 97, 59, 32, 97, 100, 100, 32, 48, 32, 97, 59, 32, 119, 114, 105, 116, 101, 32, 48, 32, 48, 32, 55, 59, 32, 119, 114, 105, 116, 101, 32, 50, 32, 48, 32, 57, 59, 32, 97, 100, 100, 32, 50, 32, 99] : List Int32).getD k 0
theorem cS_all : ∀ k : Fin 130, cS k.val = cT k.val := by decide +kernel
theorem cS_at {k : Nat} (h : k < 130) : cS k = cT k := cS_all ⟨k, h⟩
def skd (c : GF) : Nat → Nat → Nat
  | i, 0 => i
  | i, n + 1 => if c i = 32 ∨ c i = 10 then skd c (i + 1) n else i
theorem skd_eq (c d : GF) (n : Nat) : ∀ i, (∀ j, i ≤ j → j < i + n → c j = d j) → skp c i n = skd d i n := by
  induction n with
  | zero => intro i _; rfl
  | succ n ih =>
    intro i h
    unfold skp skd
    rw [h i (by omega) (by omega), ih (i + 1) (fun j h1 h2 => h j (by omega) (by omega))]
    by_cases q : d i = 32 ∨ d i = 10
    · rw [if_pos q, if_pos (show blk (d i) from q)]
    · rw [if_neg q, if_neg (show ¬ blk (d i) from q)]
theorem ext_eq (c d : GF) (t : Int32) (n : Nat) : ∀ i, (∀ j, i ≤ j → j < i + n → c j = d j) → ext c t i n = ext d t i n := by
  induction n with
  | zero => intro i _; rfl
  | succ n ih =>
    intro i h
    unfold ext
    rw [h i (by omega) (by omega), ih (i + 1) (fun j h1 h2 => h j (by omega) (by omega))]
def dS (e : Nat) : Nat := skd cT e (129 - e)
def dE (e : Nat) : Nat := tE cT 129 (dS e)
def dT (ty : Int32) (e : Nat) : Int32 := if 129 ≤ dS e then 0 else if ((typ (cT (dS e)) = 1 ∨ typ (cT (dS e)) = 2) ∧ (ty = 1 ∨ ty = 2) ∧ dS e = e) ∨ (typ (cT (dS e)) = 2 ∧ 2 < dE e - dS e) then 4 else typ (cT (dS e))
theorem tE_eq {s : Nat} (hs : s ≤ 129) : tE cS 129 s = tE cT 129 s := by
  unfold tE
  by_cases h : 129 ≤ s
  · rw [if_pos h, if_pos h]
  · rw [if_neg h, if_neg h, cS_at (by omega), ext_eq cS cT _ _ _ (fun j h1 h2 => cS_at (by omega))]
theorem nS_eq {e : Nat} (he : e ≤ 129) : nS cS 129 e = dS e := skd_eq cS cT _ _ (fun j h1 h2 => cS_at (by omega))
theorem nE_eq {e : Nat} (he : e ≤ 129) : nE cS 129 e = dE e := by
  have h := (nS_le (c := cS) he).2
  rw [nS_eq he] at h
  unfold nE dE
  rw [nS_eq he]
  exact tE_eq h
theorem nT_eq {ty : Int32} {e : Nat} (he : e ≤ 129) : nT cS 129 ty e = dT ty e := by
  have h := (nS_le (c := cS) he).2
  rw [nS_eq he] at h
  unfold nT dT
  rw [nS_eq he, nE_eq he]
  by_cases q : 129 ≤ dS e
  · rw [if_pos q, if_pos q]
  · rw [if_neg q, if_neg q, cS_at (by omega)]
theorem tk_0 : uN cS 129 (0, 0) = (1, 8) ∧ uT cS 129 (0, 0) = 1 ∧ uS cS 129 (0, 0) = 0 ∧ uE cS 129 (0, 0) = 8 := by
  have a : uT cS 129 (0, 0) = 1 := (nT_eq (ty := 0) (e := 0) (by decide)).trans (by decide +kernel)
  have b : uE cS 129 (0, 0) = 8 := (nE_eq (e := 0) (by decide)).trans (by decide +kernel)
  exact ⟨by unfold uN; rw [a, b], a, (nS_eq (e := 0) (by decide)).trans (by decide +kernel), b⟩
theorem tk_1 : uN cS 129 (1, 8) = (2, 10) ∧ uT cS 129 (1, 8) = 2 ∧ uS cS 129 (1, 8) = 9 ∧ uE cS 129 (1, 8) = 10 := by
  have a : uT cS 129 (1, 8) = 2 := (nT_eq (ty := 1) (e := 8) (by decide)).trans (by decide +kernel)
  have b : uE cS 129 (1, 8) = 10 := (nE_eq (e := 8) (by decide)).trans (by decide +kernel)
  exact ⟨by unfold uN; rw [a, b], a, (nS_eq (e := 8) (by decide)).trans (by decide +kernel), b⟩
theorem tk_2 : uN cS 129 (2, 10) = (2, 12) ∧ uT cS 129 (2, 10) = 2 ∧ uS cS 129 (2, 10) = 11 ∧ uE cS 129 (2, 10) = 12 := by
  have a : uT cS 129 (2, 10) = 2 := (nT_eq (ty := 2) (e := 10) (by decide)).trans (by decide +kernel)
  have b : uE cS 129 (2, 10) = 12 := (nE_eq (e := 10) (by decide)).trans (by decide +kernel)
  exact ⟨by unfold uN; rw [a, b], a, (nS_eq (e := 10) (by decide)).trans (by decide +kernel), b⟩
theorem tk_3 : uN cS 129 (2, 12) = (2, 14) ∧ uT cS 129 (2, 12) = 2 ∧ uS cS 129 (2, 12) = 13 ∧ uE cS 129 (2, 12) = 14 := by
  have a : uT cS 129 (2, 12) = 2 := (nT_eq (ty := 2) (e := 12) (by decide)).trans (by decide +kernel)
  have b : uE cS 129 (2, 12) = 14 := (nE_eq (e := 12) (by decide)).trans (by decide +kernel)
  exact ⟨by unfold uN; rw [a, b], a, (nS_eq (e := 12) (by decide)).trans (by decide +kernel), b⟩
theorem tk_4 : uN cS 129 (2, 14) = (3, 15) ∧ uT cS 129 (2, 14) = 3 ∧ uS cS 129 (2, 14) = 14 ∧ uE cS 129 (2, 14) = 15 := by
  have a : uT cS 129 (2, 14) = 3 := (nT_eq (ty := 2) (e := 14) (by decide)).trans (by decide +kernel)
  have b : uE cS 129 (2, 14) = 15 := (nE_eq (e := 14) (by decide)).trans (by decide +kernel)
  exact ⟨by unfold uN; rw [a, b], a, (nS_eq (e := 14) (by decide)).trans (by decide +kernel), b⟩
theorem tk_5 : uN cS 129 (3, 15) = (1, 19) ∧ uT cS 129 (3, 15) = 1 ∧ uS cS 129 (3, 15) = 16 ∧ uE cS 129 (3, 15) = 19 := by
  have a : uT cS 129 (3, 15) = 1 := (nT_eq (ty := 3) (e := 15) (by decide)).trans (by decide +kernel)
  have b : uE cS 129 (3, 15) = 19 := (nE_eq (e := 15) (by decide)).trans (by decide +kernel)
  exact ⟨by unfold uN; rw [a, b], a, (nS_eq (e := 15) (by decide)).trans (by decide +kernel), b⟩
theorem tk_6 : uN cS 129 (1, 19) = (2, 21) ∧ uT cS 129 (1, 19) = 2 ∧ uS cS 129 (1, 19) = 20 ∧ uE cS 129 (1, 19) = 21 := by
  have a : uT cS 129 (1, 19) = 2 := (nT_eq (ty := 1) (e := 19) (by decide)).trans (by decide +kernel)
  have b : uE cS 129 (1, 19) = 21 := (nE_eq (e := 19) (by decide)).trans (by decide +kernel)
  exact ⟨by unfold uN; rw [a, b], a, (nS_eq (e := 19) (by decide)).trans (by decide +kernel), b⟩
theorem tk_7 : uN cS 129 (2, 21) = (2, 23) ∧ uT cS 129 (2, 21) = 2 ∧ uS cS 129 (2, 21) = 22 ∧ uE cS 129 (2, 21) = 23 := by
  have a : uT cS 129 (2, 21) = 2 := (nT_eq (ty := 2) (e := 21) (by decide)).trans (by decide +kernel)
  have b : uE cS 129 (2, 21) = 23 := (nE_eq (e := 21) (by decide)).trans (by decide +kernel)
  exact ⟨by unfold uN; rw [a, b], a, (nS_eq (e := 21) (by decide)).trans (by decide +kernel), b⟩
theorem tk_8 : uN cS 129 (2, 23) = (2, 25) ∧ uT cS 129 (2, 23) = 2 ∧ uS cS 129 (2, 23) = 24 ∧ uE cS 129 (2, 23) = 25 := by
  have a : uT cS 129 (2, 23) = 2 := (nT_eq (ty := 2) (e := 23) (by decide)).trans (by decide +kernel)
  have b : uE cS 129 (2, 23) = 25 := (nE_eq (e := 23) (by decide)).trans (by decide +kernel)
  exact ⟨by unfold uN; rw [a, b], a, (nS_eq (e := 23) (by decide)).trans (by decide +kernel), b⟩
theorem tk_9 : uN cS 129 (2, 25) = (3, 26) ∧ uT cS 129 (2, 25) = 3 ∧ uS cS 129 (2, 25) = 25 ∧ uE cS 129 (2, 25) = 26 := by
  have a : uT cS 129 (2, 25) = 3 := (nT_eq (ty := 2) (e := 25) (by decide)).trans (by decide +kernel)
  have b : uE cS 129 (2, 25) = 26 := (nE_eq (e := 25) (by decide)).trans (by decide +kernel)
  exact ⟨by unfold uN; rw [a, b], a, (nS_eq (e := 25) (by decide)).trans (by decide +kernel), b⟩
theorem tk_10 : uN cS 129 (3, 26) = (1, 30) ∧ uT cS 129 (3, 26) = 1 ∧ uS cS 129 (3, 26) = 27 ∧ uE cS 129 (3, 26) = 30 := by
  have a : uT cS 129 (3, 26) = 1 := (nT_eq (ty := 3) (e := 26) (by decide)).trans (by decide +kernel)
  have b : uE cS 129 (3, 26) = 30 := (nE_eq (e := 26) (by decide)).trans (by decide +kernel)
  exact ⟨by unfold uN; rw [a, b], a, (nS_eq (e := 26) (by decide)).trans (by decide +kernel), b⟩
theorem tk_11 : uN cS 129 (1, 30) = (2, 32) ∧ uT cS 129 (1, 30) = 2 ∧ uS cS 129 (1, 30) = 31 ∧ uE cS 129 (1, 30) = 32 := by
  have a : uT cS 129 (1, 30) = 2 := (nT_eq (ty := 1) (e := 30) (by decide)).trans (by decide +kernel)
  have b : uE cS 129 (1, 30) = 32 := (nE_eq (e := 30) (by decide)).trans (by decide +kernel)
  exact ⟨by unfold uN; rw [a, b], a, (nS_eq (e := 30) (by decide)).trans (by decide +kernel), b⟩
theorem tk_12 : uN cS 129 (2, 32) = (2, 34) ∧ uT cS 129 (2, 32) = 2 ∧ uS cS 129 (2, 32) = 33 ∧ uE cS 129 (2, 32) = 34 := by
  have a : uT cS 129 (2, 32) = 2 := (nT_eq (ty := 2) (e := 32) (by decide)).trans (by decide +kernel)
  have b : uE cS 129 (2, 32) = 34 := (nE_eq (e := 32) (by decide)).trans (by decide +kernel)
  exact ⟨by unfold uN; rw [a, b], a, (nS_eq (e := 32) (by decide)).trans (by decide +kernel), b⟩
theorem tk_13 : uN cS 129 (2, 34) = (2, 36) ∧ uT cS 129 (2, 34) = 2 ∧ uS cS 129 (2, 34) = 35 ∧ uE cS 129 (2, 34) = 36 := by
  have a : uT cS 129 (2, 34) = 2 := (nT_eq (ty := 2) (e := 34) (by decide)).trans (by decide +kernel)
  have b : uE cS 129 (2, 34) = 36 := (nE_eq (e := 34) (by decide)).trans (by decide +kernel)
  exact ⟨by unfold uN; rw [a, b], a, (nS_eq (e := 34) (by decide)).trans (by decide +kernel), b⟩
theorem tk_14 : uN cS 129 (2, 36) = (3, 37) ∧ uT cS 129 (2, 36) = 3 ∧ uS cS 129 (2, 36) = 36 ∧ uE cS 129 (2, 36) = 37 := by
  have a : uT cS 129 (2, 36) = 3 := (nT_eq (ty := 2) (e := 36) (by decide)).trans (by decide +kernel)
  have b : uE cS 129 (2, 36) = 37 := (nE_eq (e := 36) (by decide)).trans (by decide +kernel)
  exact ⟨by unfold uN; rw [a, b], a, (nS_eq (e := 36) (by decide)).trans (by decide +kernel), b⟩
theorem tk_15 : uN cS 129 (3, 37) = (1, 41) ∧ uT cS 129 (3, 37) = 1 ∧ uS cS 129 (3, 37) = 38 ∧ uE cS 129 (3, 37) = 41 := by
  have a : uT cS 129 (3, 37) = 1 := (nT_eq (ty := 3) (e := 37) (by decide)).trans (by decide +kernel)
  have b : uE cS 129 (3, 37) = 41 := (nE_eq (e := 37) (by decide)).trans (by decide +kernel)
  exact ⟨by unfold uN; rw [a, b], a, (nS_eq (e := 37) (by decide)).trans (by decide +kernel), b⟩
theorem tk_16 : uN cS 129 (1, 41) = (2, 43) ∧ uT cS 129 (1, 41) = 2 ∧ uS cS 129 (1, 41) = 42 ∧ uE cS 129 (1, 41) = 43 := by
  have a : uT cS 129 (1, 41) = 2 := (nT_eq (ty := 1) (e := 41) (by decide)).trans (by decide +kernel)
  have b : uE cS 129 (1, 41) = 43 := (nE_eq (e := 41) (by decide)).trans (by decide +kernel)
  exact ⟨by unfold uN; rw [a, b], a, (nS_eq (e := 41) (by decide)).trans (by decide +kernel), b⟩
theorem tk_17 : uN cS 129 (2, 43) = (1, 45) ∧ uT cS 129 (2, 43) = 1 ∧ uS cS 129 (2, 43) = 44 ∧ uE cS 129 (2, 43) = 45 := by
  have a : uT cS 129 (2, 43) = 1 := (nT_eq (ty := 2) (e := 43) (by decide)).trans (by decide +kernel)
  have b : uE cS 129 (2, 43) = 45 := (nE_eq (e := 43) (by decide)).trans (by decide +kernel)
  exact ⟨by unfold uN; rw [a, b], a, (nS_eq (e := 43) (by decide)).trans (by decide +kernel), b⟩
theorem tk_18 : uN cS 129 (1, 45) = (3, 46) ∧ uT cS 129 (1, 45) = 3 ∧ uS cS 129 (1, 45) = 45 ∧ uE cS 129 (1, 45) = 46 := by
  have a : uT cS 129 (1, 45) = 3 := (nT_eq (ty := 1) (e := 45) (by decide)).trans (by decide +kernel)
  have b : uE cS 129 (1, 45) = 46 := (nE_eq (e := 45) (by decide)).trans (by decide +kernel)
  exact ⟨by unfold uN; rw [a, b], a, (nS_eq (e := 45) (by decide)).trans (by decide +kernel), b⟩
theorem tk_19 : uN cS 129 (3, 46) = (1, 50) ∧ uT cS 129 (3, 46) = 1 ∧ uS cS 129 (3, 46) = 47 ∧ uE cS 129 (3, 46) = 50 := by
  have a : uT cS 129 (3, 46) = 1 := (nT_eq (ty := 3) (e := 46) (by decide)).trans (by decide +kernel)
  have b : uE cS 129 (3, 46) = 50 := (nE_eq (e := 46) (by decide)).trans (by decide +kernel)
  exact ⟨by unfold uN; rw [a, b], a, (nS_eq (e := 46) (by decide)).trans (by decide +kernel), b⟩
theorem tk_20 : uN cS 129 (1, 50) = (2, 52) ∧ uT cS 129 (1, 50) = 2 ∧ uS cS 129 (1, 50) = 51 ∧ uE cS 129 (1, 50) = 52 := by
  have a : uT cS 129 (1, 50) = 2 := (nT_eq (ty := 1) (e := 50) (by decide)).trans (by decide +kernel)
  have b : uE cS 129 (1, 50) = 52 := (nE_eq (e := 50) (by decide)).trans (by decide +kernel)
  exact ⟨by unfold uN; rw [a, b], a, (nS_eq (e := 50) (by decide)).trans (by decide +kernel), b⟩
theorem tk_21 : uN cS 129 (2, 52) = (1, 54) ∧ uT cS 129 (2, 52) = 1 ∧ uS cS 129 (2, 52) = 53 ∧ uE cS 129 (2, 52) = 54 := by
  have a : uT cS 129 (2, 52) = 1 := (nT_eq (ty := 2) (e := 52) (by decide)).trans (by decide +kernel)
  have b : uE cS 129 (2, 52) = 54 := (nE_eq (e := 52) (by decide)).trans (by decide +kernel)
  exact ⟨by unfold uN; rw [a, b], a, (nS_eq (e := 52) (by decide)).trans (by decide +kernel), b⟩
theorem tk_22 : uN cS 129 (1, 54) = (3, 55) ∧ uT cS 129 (1, 54) = 3 ∧ uS cS 129 (1, 54) = 54 ∧ uE cS 129 (1, 54) = 55 := by
  have a : uT cS 129 (1, 54) = 3 := (nT_eq (ty := 1) (e := 54) (by decide)).trans (by decide +kernel)
  have b : uE cS 129 (1, 54) = 55 := (nE_eq (e := 54) (by decide)).trans (by decide +kernel)
  exact ⟨by unfold uN; rw [a, b], a, (nS_eq (e := 54) (by decide)).trans (by decide +kernel), b⟩
theorem tk_23 : uN cS 129 (3, 55) = (1, 60) ∧ uT cS 129 (3, 55) = 1 ∧ uS cS 129 (3, 55) = 56 ∧ uE cS 129 (3, 55) = 60 := by
  have a : uT cS 129 (3, 55) = 1 := (nT_eq (ty := 3) (e := 55) (by decide)).trans (by decide +kernel)
  have b : uE cS 129 (3, 55) = 60 := (nE_eq (e := 55) (by decide)).trans (by decide +kernel)
  exact ⟨by unfold uN; rw [a, b], a, (nS_eq (e := 55) (by decide)).trans (by decide +kernel), b⟩
theorem tk_24 : uN cS 129 (1, 60) = (2, 62) ∧ uT cS 129 (1, 60) = 2 ∧ uS cS 129 (1, 60) = 61 ∧ uE cS 129 (1, 60) = 62 := by
  have a : uT cS 129 (1, 60) = 2 := (nT_eq (ty := 1) (e := 60) (by decide)).trans (by decide +kernel)
  have b : uE cS 129 (1, 60) = 62 := (nE_eq (e := 60) (by decide)).trans (by decide +kernel)
  exact ⟨by unfold uN; rw [a, b], a, (nS_eq (e := 60) (by decide)).trans (by decide +kernel), b⟩
theorem tk_25 : uN cS 129 (2, 62) = (3, 63) ∧ uT cS 129 (2, 62) = 3 ∧ uS cS 129 (2, 62) = 62 ∧ uE cS 129 (2, 62) = 63 := by
  have a : uT cS 129 (2, 62) = 3 := (nT_eq (ty := 2) (e := 62) (by decide)).trans (by decide +kernel)
  have b : uE cS 129 (2, 62) = 63 := (nE_eq (e := 62) (by decide)).trans (by decide +kernel)
  exact ⟨by unfold uN; rw [a, b], a, (nS_eq (e := 62) (by decide)).trans (by decide +kernel), b⟩
theorem tk_26 : uN cS 129 (3, 63) = (1, 69) ∧ uT cS 129 (3, 63) = 1 ∧ uS cS 129 (3, 63) = 64 ∧ uE cS 129 (3, 63) = 69 := by
  have a : uT cS 129 (3, 63) = 1 := (nT_eq (ty := 3) (e := 63) (by decide)).trans (by decide +kernel)
  have b : uE cS 129 (3, 63) = 69 := (nE_eq (e := 63) (by decide)).trans (by decide +kernel)
  exact ⟨by unfold uN; rw [a, b], a, (nS_eq (e := 63) (by decide)).trans (by decide +kernel), b⟩
theorem tk_27 : uN cS 129 (1, 69) = (2, 71) ∧ uT cS 129 (1, 69) = 2 ∧ uS cS 129 (1, 69) = 70 ∧ uE cS 129 (1, 69) = 71 := by
  have a : uT cS 129 (1, 69) = 2 := (nT_eq (ty := 1) (e := 69) (by decide)).trans (by decide +kernel)
  have b : uE cS 129 (1, 69) = 71 := (nE_eq (e := 69) (by decide)).trans (by decide +kernel)
  exact ⟨by unfold uN; rw [a, b], a, (nS_eq (e := 69) (by decide)).trans (by decide +kernel), b⟩
theorem tk_28 : uN cS 129 (2, 71) = (2, 73) ∧ uT cS 129 (2, 71) = 2 ∧ uS cS 129 (2, 71) = 72 ∧ uE cS 129 (2, 71) = 73 := by
  have a : uT cS 129 (2, 71) = 2 := (nT_eq (ty := 2) (e := 71) (by decide)).trans (by decide +kernel)
  have b : uE cS 129 (2, 71) = 73 := (nE_eq (e := 71) (by decide)).trans (by decide +kernel)
  exact ⟨by unfold uN; rw [a, b], a, (nS_eq (e := 71) (by decide)).trans (by decide +kernel), b⟩
theorem tk_29 : uN cS 129 (2, 73) = (3, 74) ∧ uT cS 129 (2, 73) = 3 ∧ uS cS 129 (2, 73) = 73 ∧ uE cS 129 (2, 73) = 74 := by
  have a : uT cS 129 (2, 73) = 3 := (nT_eq (ty := 2) (e := 73) (by decide)).trans (by decide +kernel)
  have b : uE cS 129 (2, 73) = 74 := (nE_eq (e := 73) (by decide)).trans (by decide +kernel)
  exact ⟨by unfold uN; rw [a, b], a, (nS_eq (e := 73) (by decide)).trans (by decide +kernel), b⟩
theorem tk_30 : uN cS 129 (3, 74) = (1, 81) ∧ uT cS 129 (3, 74) = 1 ∧ uS cS 129 (3, 74) = 75 ∧ uE cS 129 (3, 74) = 81 := by
  have a : uT cS 129 (3, 74) = 1 := (nT_eq (ty := 3) (e := 74) (by decide)).trans (by decide +kernel)
  have b : uE cS 129 (3, 74) = 81 := (nE_eq (e := 74) (by decide)).trans (by decide +kernel)
  exact ⟨by unfold uN; rw [a, b], a, (nS_eq (e := 74) (by decide)).trans (by decide +kernel), b⟩
theorem tk_31 : uN cS 129 (1, 81) = (2, 83) ∧ uT cS 129 (1, 81) = 2 ∧ uS cS 129 (1, 81) = 82 ∧ uE cS 129 (1, 81) = 83 := by
  have a : uT cS 129 (1, 81) = 2 := (nT_eq (ty := 1) (e := 81) (by decide)).trans (by decide +kernel)
  have b : uE cS 129 (1, 81) = 83 := (nE_eq (e := 81) (by decide)).trans (by decide +kernel)
  exact ⟨by unfold uN; rw [a, b], a, (nS_eq (e := 81) (by decide)).trans (by decide +kernel), b⟩
theorem tk_32 : uN cS 129 (2, 83) = (1, 85) ∧ uT cS 129 (2, 83) = 1 ∧ uS cS 129 (2, 83) = 84 ∧ uE cS 129 (2, 83) = 85 := by
  have a : uT cS 129 (2, 83) = 1 := (nT_eq (ty := 2) (e := 83) (by decide)).trans (by decide +kernel)
  have b : uE cS 129 (2, 83) = 85 := (nE_eq (e := 83) (by decide)).trans (by decide +kernel)
  exact ⟨by unfold uN; rw [a, b], a, (nS_eq (e := 83) (by decide)).trans (by decide +kernel), b⟩
theorem tk_33 : uN cS 129 (1, 85) = (3, 86) ∧ uT cS 129 (1, 85) = 3 ∧ uS cS 129 (1, 85) = 85 ∧ uE cS 129 (1, 85) = 86 := by
  have a : uT cS 129 (1, 85) = 3 := (nT_eq (ty := 1) (e := 85) (by decide)).trans (by decide +kernel)
  have b : uE cS 129 (1, 85) = 86 := (nE_eq (e := 85) (by decide)).trans (by decide +kernel)
  exact ⟨by unfold uN; rw [a, b], a, (nS_eq (e := 85) (by decide)).trans (by decide +kernel), b⟩
theorem tk_34 : uN cS 129 (3, 86) = (1, 90) ∧ uT cS 129 (3, 86) = 1 ∧ uS cS 129 (3, 86) = 87 ∧ uE cS 129 (3, 86) = 90 := by
  have a : uT cS 129 (3, 86) = 1 := (nT_eq (ty := 3) (e := 86) (by decide)).trans (by decide +kernel)
  have b : uE cS 129 (3, 86) = 90 := (nE_eq (e := 86) (by decide)).trans (by decide +kernel)
  exact ⟨by unfold uN; rw [a, b], a, (nS_eq (e := 86) (by decide)).trans (by decide +kernel), b⟩
theorem tk_35 : uN cS 129 (1, 90) = (2, 92) ∧ uT cS 129 (1, 90) = 2 ∧ uS cS 129 (1, 90) = 91 ∧ uE cS 129 (1, 90) = 92 := by
  have a : uT cS 129 (1, 90) = 2 := (nT_eq (ty := 1) (e := 90) (by decide)).trans (by decide +kernel)
  have b : uE cS 129 (1, 90) = 92 := (nE_eq (e := 90) (by decide)).trans (by decide +kernel)
  exact ⟨by unfold uN; rw [a, b], a, (nS_eq (e := 90) (by decide)).trans (by decide +kernel), b⟩
theorem tk_36 : uN cS 129 (2, 92) = (1, 94) ∧ uT cS 129 (2, 92) = 1 ∧ uS cS 129 (2, 92) = 93 ∧ uE cS 129 (2, 92) = 94 := by
  have a : uT cS 129 (2, 92) = 1 := (nT_eq (ty := 2) (e := 92) (by decide)).trans (by decide +kernel)
  have b : uE cS 129 (2, 92) = 94 := (nE_eq (e := 92) (by decide)).trans (by decide +kernel)
  exact ⟨by unfold uN; rw [a, b], a, (nS_eq (e := 92) (by decide)).trans (by decide +kernel), b⟩
theorem tk_37 : uN cS 129 (1, 94) = (3, 95) ∧ uT cS 129 (1, 94) = 3 ∧ uS cS 129 (1, 94) = 94 ∧ uE cS 129 (1, 94) = 95 := by
  have a : uT cS 129 (1, 94) = 3 := (nT_eq (ty := 1) (e := 94) (by decide)).trans (by decide +kernel)
  have b : uE cS 129 (1, 94) = 95 := (nE_eq (e := 94) (by decide)).trans (by decide +kernel)
  exact ⟨by unfold uN; rw [a, b], a, (nS_eq (e := 94) (by decide)).trans (by decide +kernel), b⟩
theorem tk_38 : uN cS 129 (3, 95) = (1, 101) ∧ uT cS 129 (3, 95) = 1 ∧ uS cS 129 (3, 95) = 96 ∧ uE cS 129 (3, 95) = 101 := by
  have a : uT cS 129 (3, 95) = 1 := (nT_eq (ty := 3) (e := 95) (by decide)).trans (by decide +kernel)
  have b : uE cS 129 (3, 95) = 101 := (nE_eq (e := 95) (by decide)).trans (by decide +kernel)
  exact ⟨by unfold uN; rw [a, b], a, (nS_eq (e := 95) (by decide)).trans (by decide +kernel), b⟩
theorem tk_39 : uN cS 129 (1, 101) = (2, 103) ∧ uT cS 129 (1, 101) = 2 ∧ uS cS 129 (1, 101) = 102 ∧ uE cS 129 (1, 101) = 103 := by
  have a : uT cS 129 (1, 101) = 2 := (nT_eq (ty := 1) (e := 101) (by decide)).trans (by decide +kernel)
  have b : uE cS 129 (1, 101) = 103 := (nE_eq (e := 101) (by decide)).trans (by decide +kernel)
  exact ⟨by unfold uN; rw [a, b], a, (nS_eq (e := 101) (by decide)).trans (by decide +kernel), b⟩
theorem tk_40 : uN cS 129 (2, 103) = (2, 105) ∧ uT cS 129 (2, 103) = 2 ∧ uS cS 129 (2, 103) = 104 ∧ uE cS 129 (2, 103) = 105 := by
  have a : uT cS 129 (2, 103) = 2 := (nT_eq (ty := 2) (e := 103) (by decide)).trans (by decide +kernel)
  have b : uE cS 129 (2, 103) = 105 := (nE_eq (e := 103) (by decide)).trans (by decide +kernel)
  exact ⟨by unfold uN; rw [a, b], a, (nS_eq (e := 103) (by decide)).trans (by decide +kernel), b⟩
theorem tk_41 : uN cS 129 (2, 105) = (2, 107) ∧ uT cS 129 (2, 105) = 2 ∧ uS cS 129 (2, 105) = 106 ∧ uE cS 129 (2, 105) = 107 := by
  have a : uT cS 129 (2, 105) = 2 := (nT_eq (ty := 2) (e := 105) (by decide)).trans (by decide +kernel)
  have b : uE cS 129 (2, 105) = 107 := (nE_eq (e := 105) (by decide)).trans (by decide +kernel)
  exact ⟨by unfold uN; rw [a, b], a, (nS_eq (e := 105) (by decide)).trans (by decide +kernel), b⟩
theorem tk_42 : uN cS 129 (2, 107) = (3, 108) ∧ uT cS 129 (2, 107) = 3 ∧ uS cS 129 (2, 107) = 107 ∧ uE cS 129 (2, 107) = 108 := by
  have a : uT cS 129 (2, 107) = 3 := (nT_eq (ty := 2) (e := 107) (by decide)).trans (by decide +kernel)
  have b : uE cS 129 (2, 107) = 108 := (nE_eq (e := 107) (by decide)).trans (by decide +kernel)
  exact ⟨by unfold uN; rw [a, b], a, (nS_eq (e := 107) (by decide)).trans (by decide +kernel), b⟩
theorem tk_43 : uN cS 129 (3, 108) = (1, 114) ∧ uT cS 129 (3, 108) = 1 ∧ uS cS 129 (3, 108) = 109 ∧ uE cS 129 (3, 108) = 114 := by
  have a : uT cS 129 (3, 108) = 1 := (nT_eq (ty := 3) (e := 108) (by decide)).trans (by decide +kernel)
  have b : uE cS 129 (3, 108) = 114 := (nE_eq (e := 108) (by decide)).trans (by decide +kernel)
  exact ⟨by unfold uN; rw [a, b], a, (nS_eq (e := 108) (by decide)).trans (by decide +kernel), b⟩
theorem tk_44 : uN cS 129 (1, 114) = (2, 116) ∧ uT cS 129 (1, 114) = 2 ∧ uS cS 129 (1, 114) = 115 ∧ uE cS 129 (1, 114) = 116 := by
  have a : uT cS 129 (1, 114) = 2 := (nT_eq (ty := 1) (e := 114) (by decide)).trans (by decide +kernel)
  have b : uE cS 129 (1, 114) = 116 := (nE_eq (e := 114) (by decide)).trans (by decide +kernel)
  exact ⟨by unfold uN; rw [a, b], a, (nS_eq (e := 114) (by decide)).trans (by decide +kernel), b⟩
theorem tk_45 : uN cS 129 (2, 116) = (2, 118) ∧ uT cS 129 (2, 116) = 2 ∧ uS cS 129 (2, 116) = 117 ∧ uE cS 129 (2, 116) = 118 := by
  have a : uT cS 129 (2, 116) = 2 := (nT_eq (ty := 2) (e := 116) (by decide)).trans (by decide +kernel)
  have b : uE cS 129 (2, 116) = 118 := (nE_eq (e := 116) (by decide)).trans (by decide +kernel)
  exact ⟨by unfold uN; rw [a, b], a, (nS_eq (e := 116) (by decide)).trans (by decide +kernel), b⟩
theorem tk_46 : uN cS 129 (2, 118) = (2, 120) ∧ uT cS 129 (2, 118) = 2 ∧ uS cS 129 (2, 118) = 119 ∧ uE cS 129 (2, 118) = 120 := by
  have a : uT cS 129 (2, 118) = 2 := (nT_eq (ty := 2) (e := 118) (by decide)).trans (by decide +kernel)
  have b : uE cS 129 (2, 118) = 120 := (nE_eq (e := 118) (by decide)).trans (by decide +kernel)
  exact ⟨by unfold uN; rw [a, b], a, (nS_eq (e := 118) (by decide)).trans (by decide +kernel), b⟩
theorem tk_47 : uN cS 129 (2, 120) = (3, 121) ∧ uT cS 129 (2, 120) = 3 ∧ uS cS 129 (2, 120) = 120 ∧ uE cS 129 (2, 120) = 121 := by
  have a : uT cS 129 (2, 120) = 3 := (nT_eq (ty := 2) (e := 120) (by decide)).trans (by decide +kernel)
  have b : uE cS 129 (2, 120) = 121 := (nE_eq (e := 120) (by decide)).trans (by decide +kernel)
  exact ⟨by unfold uN; rw [a, b], a, (nS_eq (e := 120) (by decide)).trans (by decide +kernel), b⟩
theorem tk_48 : uN cS 129 (3, 121) = (1, 125) ∧ uT cS 129 (3, 121) = 1 ∧ uS cS 129 (3, 121) = 122 ∧ uE cS 129 (3, 121) = 125 := by
  have a : uT cS 129 (3, 121) = 1 := (nT_eq (ty := 3) (e := 121) (by decide)).trans (by decide +kernel)
  have b : uE cS 129 (3, 121) = 125 := (nE_eq (e := 121) (by decide)).trans (by decide +kernel)
  exact ⟨by unfold uN; rw [a, b], a, (nS_eq (e := 121) (by decide)).trans (by decide +kernel), b⟩
theorem tk_49 : uN cS 129 (1, 125) = (2, 127) ∧ uT cS 129 (1, 125) = 2 ∧ uS cS 129 (1, 125) = 126 ∧ uE cS 129 (1, 125) = 127 := by
  have a : uT cS 129 (1, 125) = 2 := (nT_eq (ty := 1) (e := 125) (by decide)).trans (by decide +kernel)
  have b : uE cS 129 (1, 125) = 127 := (nE_eq (e := 125) (by decide)).trans (by decide +kernel)
  exact ⟨by unfold uN; rw [a, b], a, (nS_eq (e := 125) (by decide)).trans (by decide +kernel), b⟩
theorem tk_50 : uN cS 129 (2, 127) = (1, 129) ∧ uT cS 129 (2, 127) = 1 ∧ uS cS 129 (2, 127) = 128 ∧ uE cS 129 (2, 127) = 129 := by
  have a : uT cS 129 (2, 127) = 1 := (nT_eq (ty := 2) (e := 127) (by decide)).trans (by decide +kernel)
  have b : uE cS 129 (2, 127) = 129 := (nE_eq (e := 127) (by decide)).trans (by decide +kernel)
  exact ⟨by unfold uN; rw [a, b], a, (nS_eq (e := 127) (by decide)).trans (by decide +kernel), b⟩
theorem tk_51 : uN cS 129 (1, 129) = (0, 129) ∧ uT cS 129 (1, 129) = 0 ∧ uS cS 129 (1, 129) = 129 ∧ uE cS 129 (1, 129) = 129 := by
  have a : uT cS 129 (1, 129) = 0 := (nT_eq (ty := 1) (e := 129) (by decide)).trans (by decide +kernel)
  have b : uE cS 129 (1, 129) = 129 := (nE_eq (e := 129) (by decide)).trans (by decide +kernel)
  exact ⟨by unfold uN; rw [a, b], a, (nS_eq (e := 129) (by decide)).trans (by decide +kernel), b⟩
theorem nuV_eq {s n : Nat} (h : s + n ≤ 129) : nuV cS s n = nuV cT s n := by
  induction n with
  | zero => rfl
  | succ n ih => show (nuV cS s n * 10 + cS (s + n)) - 48 = (nuV cT s n * 10 + cT (s + n)) - 48; rw [ih (by omega), cS_at (by omega)]
theorem num_S {q q' : Cur} {s e : Nat} {lo hi : Int32} (v : Int32) (h : uN cS 129 q = q' ∧ uT cS 129 q = 2 ∧ uS cS 129 q = s ∧ uE cS 129 q = e) (he : e ≤ 129 ∧ s ≤ e) (hv : nuV cT s (e - s) = v) (h1 : lo ≤ v) (h2 : v ≤ hi) : numR cS 129 q lo hi = .inr v := by
  unfold numR uV
  rw [h.2.2.1, h.2.2.2, nuV_eq (by omega), hv, cif_t h.2.1, cif_t ⟨h1, h2⟩]
theorem tag_S {q q' : Cur} {s e : Nat} (v : Int32) (h : uN cS 129 q = q' ∧ uT cS 129 q = 1 ∧ uS cS 129 q = s ∧ uE cS 129 q = e) (he : e - s = 1 ∧ s < 129) (hv : cT s - 97 = v ∧ cT s < 113) : tagR cS 129 q = .inr v := by
  unfold tagR
  rw [h.2.2.1, h.2.2.2, cS_at (by omega), hv.1, cif_t ⟨h.2.1, he.1, hv.2⟩]
theorem isW_S {q q' : Cur} {s e w : Nat} (h : uN cS 129 q = q' ∧ uT cS 129 q = 1 ∧ uS cS 129 q = s ∧ uE cS 129 q = e) (he : s + (e - s) ≤ 129) (hl : e - s = sLEN.getD w 0) (hv : ∀ i : Fin (e - s), cT (s + i.val) = jByt w i.val) : isW cS 129 w q := by
  refine ⟨h.2.1, by rw [h.2.2.1, h.2.2.2]; exact hl, fun i hi => ?_⟩
  rw [h.2.2.1, cS_at (by omega)]
  exact hv ⟨i, by omega⟩
theorem isW_N {q q' : Cur} {s e w : Nat} (h : uN cS 129 q = q' ∧ uT cS 129 q = 1 ∧ uS cS 129 q = s ∧ uE cS 129 q = e) (i : Nat) (hi : s + i < 129) (hv : ¬ (e - s = sLEN.getD w 0 ∧ (i < sLEN.getD w 0 → cT (s + i) = jByt w i))) : ¬ isW cS 129 w q := by
  intro ⟨_, h2, h3⟩
  rw [h.2.2.1, h.2.2.2] at h2
  refine hv ⟨h2, fun hi2 => ?_⟩
  have := h3 i hi2
  rwa [h.2.2.1, cS_at (by omega)] at this
def gS0 : GF := hdG (fun _ => 0) 3 2 1
theorem hd_S : headR cS 129 (fun _ => 0) = .inr (gS0, (2, 14)) := by
  unfold headR cur0
  rw [cif_t (isW_S tk_0 (by decide) (by decide +kernel) (by decide +kernel)), tk_0.1, num_S 3 tk_1 (by decide) (by decide +kernel) (by decide) (by decide), tk_1.1]
  show (sb (numR cS 129 (2, 10) 0 4) _) = _
  rw [num_S 2 tk_2 (by decide) (by decide +kernel) (by decide) (by decide), tk_2.1]
  show (sb (numR cS 129 (2, 12) 0 4) _) = _
  rw [num_S 1 tk_3 (by decide) (by decide +kernel) (by decide) (by decide), tk_3.1]
  rfl
def gS1 : GF := cntG gS0 4 0 0 5
theorem ln_1 : lineR cS 129 gS0 (3, 15) = .inr (gS1, (2, 25)) := by
  unfold lineR
  rw [cif_t (isW_S tk_5 (by decide) (by decide +kernel) (by decide +kernel)), tk_5.1]
  unfold lCnt
  rw [num_S 0 tk_6 (by decide) (by decide +kernel) (by decide) (by decide +kernel)]
  show sb (numR cS 129 (uN cS 129 (1, 19)) 0 (gS0 1 - 1)) _ = _
  rw [tk_6.1, num_S 0 tk_7 (by decide) (by decide +kernel) (by decide) (by decide +kernel)]
  show sb (numR cS 129 (uN cS 129 (2, 21)) 1 99) _ = _
  rw [tk_7.1, num_S 5 tk_8 (by decide) (by decide +kernel) (by decide) (by decide +kernel), tk_8.1]
  rfl
def gS2 : GF := cntG gS1 20 1 0 2
theorem ln_2 : lineR cS 129 gS1 (3, 26) = .inr (gS2, (2, 36)) := by
  unfold lineR
  rw [cif_f (isW_N tk_10 0 (by decide) (by decide +kernel)), cif_t (isW_S tk_10 (by decide) (by decide +kernel) (by decide +kernel)), tk_10.1]
  unfold lCnt
  rw [num_S 1 tk_11 (by decide) (by decide +kernel) (by decide) (by decide +kernel)]
  show sb (numR cS 129 (uN cS 129 (1, 30)) 0 (gS1 1 - 1)) _ = _
  rw [tk_11.1, num_S 0 tk_12 (by decide) (by decide +kernel) (by decide) (by decide +kernel)]
  show sb (numR cS 129 (uN cS 129 (2, 32)) 1 99) _ = _
  rw [tk_12.1, num_S 2 tk_13 (by decide) (by decide +kernel) (by decide) (by decide +kernel), tk_13.1]
  rfl
def gS3 : GF := put gS2 0 (newN (row gS2 0) (36 + 4 * 0) 0 0 4)
theorem ln_3 : lineR cS 129 gS2 (3, 37) = .inr (gS3, (1, 45)) := by
  unfold lineR
  rw [cif_f (isW_N tk_15 0 (by decide) (by decide +kernel)), cif_f (isW_N tk_15 0 (by decide) (by decide +kernel)), cif_t (isW_S tk_15 (by decide) (by decide +kernel) (by decide +kernel)), tk_15.1]
  unfold lAdd
  rw [num_S 0 tk_16 (by decide) (by decide +kernel) (by decide) (by decide +kernel)]
  show sb (tagR cS 129 (uN cS 129 (1, 41))) _ = _
  rw [tk_16.1, tag_S 0 tk_17 (by decide) (by decide +kernel), tk_17.1]
  rfl
def gS4 : GF := put gS3 1 (newN (row gS3 1) (36 + 4 * 1) 1 0 4)
theorem ln_4 : lineR cS 129 gS3 (3, 46) = .inr (gS4, (1, 54)) := by
  unfold lineR
  rw [cif_f (isW_N tk_19 0 (by decide) (by decide +kernel)), cif_f (isW_N tk_19 0 (by decide) (by decide +kernel)), cif_t (isW_S tk_19 (by decide) (by decide +kernel) (by decide +kernel)), tk_19.1]
  unfold lAdd
  rw [num_S 1 tk_20 (by decide) (by decide +kernel) (by decide) (by decide +kernel)]
  show sb (tagR cS 129 (uN cS 129 (1, 50))) _ = _
  rw [tk_20.1, tag_S 1 tk_21 (by decide) (by decide +kernel), tk_21.1]
  rfl
def gS5 : GF := sendG gS4 0
theorem ln_5 : lineR cS 129 gS4 (3, 55) = .inr (gS5, (2, 62)) := by
  unfold lineR
  rw [cif_f (isW_N tk_23 0 (by decide) (by decide +kernel)), cif_f (isW_N tk_23 0 (by decide) (by decide +kernel)), cif_f (isW_N tk_23 0 (by decide) (by decide +kernel)), cif_f (isW_N tk_23 0 (by decide) (by decide +kernel)), cif_f (isW_N tk_23 0 (by decide) (by decide +kernel)), cif_f (isW_N tk_23 0 (by decide) (by decide +kernel)), cif_t (isW_S tk_23 (by decide) (by decide +kernel) (by decide +kernel))]
  unfold lSen
  rw [if_neg (by decide +kernel), tk_23.1, num_S 0 tk_24 (by decide) (by decide +kernel) (by decide) (by decide +kernel), tk_24.1]
  rfl
def gS6 : GF := put gS5 1 (absR (row gS5 1) (row gS5 0))
theorem ln_6 : lineR cS 129 gS5 (3, 63) = .inr (gS6, (2, 73)) := by
  unfold lineR
  rw [cif_f (isW_N tk_26 0 (by decide) (by decide +kernel)), cif_f (isW_N tk_26 0 (by decide) (by decide +kernel)), cif_f (isW_N tk_26 0 (by decide) (by decide +kernel)), cif_f (isW_N tk_26 0 (by decide) (by decide +kernel)), cif_f (isW_N tk_26 0 (by decide) (by decide +kernel)), cif_t (isW_S tk_26 (by decide) (by decide +kernel) (by decide +kernel)), tk_26.1]
  unfold lMer
  rw [num_S 1 tk_27 (by decide) (by decide +kernel) (by decide) (by decide +kernel)]
  show sb (numR cS 129 (uN cS 129 (1, 69)) 0 (gS5 0 - 1)) _ = _
  rw [tk_27.1, num_S 0 tk_28 (by decide) (by decide +kernel) (by decide) (by decide +kernel), tk_28.1]
  rfl
def gS7 : GF := put gS6 1 (zap (row gS6 1) (36 + 4 * 0) 4)
theorem ln_7 : lineR cS 129 gS6 (3, 74) = .inr (gS7, (1, 85)) := by
  unfold lineR
  rw [cif_f (isW_N tk_30 0 (by decide) (by decide +kernel)), cif_f (isW_N tk_30 0 (by decide) (by decide +kernel)), cif_f (isW_N tk_30 0 (by decide) (by decide +kernel)), cif_t (isW_S tk_30 (by decide) (by decide +kernel) (by decide +kernel)), tk_30.1]
  unfold lRem
  rw [num_S 1 tk_31 (by decide) (by decide +kernel) (by decide) (by decide +kernel)]
  show sb (tagR cS 129 (uN cS 129 (1, 81))) _ = _
  rw [tk_31.1, tag_S 0 tk_32 (by decide) (by decide +kernel), tk_32.1]
  unfold sb
  dsimp only
  rw [if_neg (show ¬ lve (row gS6 (tn 1)) (36 + 4 * tn 0) = 0 by decide +kernel)]
  rfl
def gS8 : GF := put gS7 0 (newN (row gS7 0) (36 + 4 * 0) 0 0 4)
theorem ln_8 : lineR cS 129 gS7 (3, 86) = .inr (gS8, (1, 94)) := by
  unfold lineR
  rw [cif_f (isW_N tk_34 0 (by decide) (by decide +kernel)), cif_f (isW_N tk_34 0 (by decide) (by decide +kernel)), cif_t (isW_S tk_34 (by decide) (by decide +kernel) (by decide +kernel)), tk_34.1]
  unfold lAdd
  rw [num_S 0 tk_35 (by decide) (by decide +kernel) (by decide) (by decide +kernel)]
  show sb (tagR cS 129 (uN cS 129 (1, 90))) _ = _
  rw [tk_35.1, tag_S 0 tk_36 (by decide) (by decide +kernel), tk_36.1]
  rfl
def gS9 : GF := put gS8 0 (newN (row gS8 0) (100 + 4 * 0) 0 7 4)
theorem ln_9 : lineR cS 129 gS8 (3, 95) = .inr (gS9, (2, 107)) := by
  unfold lineR
  rw [cif_f (isW_N tk_38 0 (by decide) (by decide +kernel)), cif_f (isW_N tk_38 0 (by decide) (by decide +kernel)), cif_f (isW_N tk_38 0 (by decide) (by decide +kernel)), cif_f (isW_N tk_38 0 (by decide) (by decide +kernel)), cif_t (isW_S tk_38 (by decide) (by decide +kernel) (by decide +kernel)), tk_38.1]
  unfold lWri
  rw [num_S 0 tk_39 (by decide) (by decide +kernel) (by decide) (by decide +kernel)]
  show sb (numR cS 129 (uN cS 129 (1, 101)) 0 (gS8 2 - 1)) _ = _
  rw [tk_39.1, num_S 0 tk_40 (by decide) (by decide +kernel) (by decide) (by decide +kernel)]
  show sb (numR cS 129 (uN cS 129 (2, 103)) 0 99) _ = _
  rw [tk_40.1, num_S 7 tk_41 (by decide) (by decide +kernel) (by decide) (by decide +kernel), tk_41.1]
  rfl
def gS10 : GF := put gS9 2 (newN (row gS9 2) (100 + 4 * 0) 2 9 4)
theorem ln_10 : lineR cS 129 gS9 (3, 108) = .inr (gS10, (2, 120)) := by
  unfold lineR
  rw [cif_f (isW_N tk_43 0 (by decide) (by decide +kernel)), cif_f (isW_N tk_43 0 (by decide) (by decide +kernel)), cif_f (isW_N tk_43 0 (by decide) (by decide +kernel)), cif_f (isW_N tk_43 0 (by decide) (by decide +kernel)), cif_t (isW_S tk_43 (by decide) (by decide +kernel) (by decide +kernel)), tk_43.1]
  unfold lWri
  rw [num_S 2 tk_44 (by decide) (by decide +kernel) (by decide) (by decide +kernel)]
  show sb (numR cS 129 (uN cS 129 (1, 114)) 0 (gS9 2 - 1)) _ = _
  rw [tk_44.1, num_S 0 tk_45 (by decide) (by decide +kernel) (by decide) (by decide +kernel)]
  show sb (numR cS 129 (uN cS 129 (2, 116)) 0 99) _ = _
  rw [tk_45.1, num_S 9 tk_46 (by decide) (by decide +kernel) (by decide) (by decide +kernel), tk_46.1]
  rfl
def gS11 : GF := put gS10 2 (newN (row gS10 2) (36 + 4 * 2) 2 0 4)
theorem ln_11 : lineR cS 129 gS10 (3, 121) = .inr (gS11, (1, 129)) := by
  unfold lineR
  rw [cif_f (isW_N tk_48 0 (by decide) (by decide +kernel)), cif_f (isW_N tk_48 0 (by decide) (by decide +kernel)), cif_t (isW_S tk_48 (by decide) (by decide +kernel) (by decide +kernel)), tk_48.1]
  unfold lAdd
  rw [num_S 2 tk_49 (by decide) (by decide +kernel) (by decide) (by decide +kernel)]
  show sb (tagR cS 129 (uN cS 129 (1, 125))) _ = _
  rw [tk_49.1, tag_S 2 tk_50 (by decide) (by decide +kernel), tk_50.1]
  rfl
theorem text_S : textR cS 129 (fun _ => 0) = .inr gS11 := by
  unfold textR
  rw [hd_S]
  show linesR cS 129 130 gS0 (2, 14) = _
  conv => lhs; unfold linesR
  rw [cif_f (show ¬ uT cS 129 (2, 14) = 0 by rw [tk_4.2.1]; decide), cif_t tk_4.2.1, tk_4.1, ln_1]
  show linesR cS 129 129 gS1 (2, 25) = _
  conv => lhs; unfold linesR
  rw [cif_f (show ¬ uT cS 129 (2, 25) = 0 by rw [tk_9.2.1]; decide), cif_t tk_9.2.1, tk_9.1, ln_2]
  show linesR cS 129 128 gS2 (2, 36) = _
  conv => lhs; unfold linesR
  rw [cif_f (show ¬ uT cS 129 (2, 36) = 0 by rw [tk_14.2.1]; decide), cif_t tk_14.2.1, tk_14.1, ln_3]
  show linesR cS 129 127 gS3 (1, 45) = _
  conv => lhs; unfold linesR
  rw [cif_f (show ¬ uT cS 129 (1, 45) = 0 by rw [tk_18.2.1]; decide), cif_t tk_18.2.1, tk_18.1, ln_4]
  show linesR cS 129 126 gS4 (1, 54) = _
  conv => lhs; unfold linesR
  rw [cif_f (show ¬ uT cS 129 (1, 54) = 0 by rw [tk_22.2.1]; decide), cif_t tk_22.2.1, tk_22.1, ln_5]
  show linesR cS 129 125 gS5 (2, 62) = _
  conv => lhs; unfold linesR
  rw [cif_f (show ¬ uT cS 129 (2, 62) = 0 by rw [tk_25.2.1]; decide), cif_t tk_25.2.1, tk_25.1, ln_6]
  show linesR cS 129 124 gS6 (2, 73) = _
  conv => lhs; unfold linesR
  rw [cif_f (show ¬ uT cS 129 (2, 73) = 0 by rw [tk_29.2.1]; decide), cif_t tk_29.2.1, tk_29.1, ln_7]
  show linesR cS 129 123 gS7 (1, 85) = _
  conv => lhs; unfold linesR
  rw [cif_f (show ¬ uT cS 129 (1, 85) = 0 by rw [tk_33.2.1]; decide), cif_t tk_33.2.1, tk_33.1, ln_8]
  show linesR cS 129 122 gS8 (1, 94) = _
  conv => lhs; unfold linesR
  rw [cif_f (show ¬ uT cS 129 (1, 94) = 0 by rw [tk_37.2.1]; decide), cif_t tk_37.2.1, tk_37.1, ln_9]
  show linesR cS 129 121 gS9 (2, 107) = _
  conv => lhs; unfold linesR
  rw [cif_f (show ¬ uT cS 129 (2, 107) = 0 by rw [tk_42.2.1]; decide), cif_t tk_42.2.1, tk_42.1, ln_10]
  show linesR cS 129 120 gS10 (2, 120) = _
  conv => lhs; unfold linesR
  rw [cif_f (show ¬ uT cS 129 (2, 120) = 0 by rw [tk_47.2.1]; decide), cif_t tk_47.2.1, tk_47.1, ln_11]
  show linesR cS 129 119 gS11 (1, 129) = _
  unfold linesR
  rw [cif_t tk_51.2.1]

/-! THE BEGINNING: the class's object and the reference's, made -/
def Fo (P : Nat → Prop) (M M' : Mem) : Prop := mZ M ≤ mZ M' ∧ ∀ a, a < mZ M → (mK M' a = mK M a ∧ mN M' a = mN M a) ∧ (¬ P a → (∀ f, mR M' f a = mR M f a) ∧ (∀ f, mI M' f a = mI M f a) ∧ mA M' a = mA M a ∧ mB M' a = mB M a ∧ mL M' a = mL M a)
theorem Fo.fr {P : Nat → Prop} {M M' : Mem} (h : Fr P M M') : Fo P M M' := ⟨h.1, fun a ha => ⟨⟨(h.2 a ha).1.1, (h.2 a ha).1.2.1⟩, fun hn => ⟨(h.2 a ha).1.2.2, (h.2 a ha).2 hn⟩⟩⟩
theorem Fo.mono {P Q : Nat → Prop} {M M' : Mem} (h : Fo P M M') (hq : ∀ a, P a → Q a) : Fo Q M M' := ⟨h.1, fun a ha => ⟨(h.2 a ha).1, fun hn => (h.2 a ha).2 (fun e => hn (hq a e))⟩⟩
theorem Fo.tr {P : Nat → Prop} {M M' M2 : Mem} (h : Fo P M M') (k : Fo P M' M2) : Fo P M M2 := by
  refine ⟨Nat.le_trans h.1 k.1, fun a ha => ?_⟩
  obtain ⟨a1, a2⟩ := h.2 a ha
  obtain ⟨b1, b2⟩ := k.2 a (Nat.lt_of_lt_of_le ha h.1)
  refine ⟨⟨b1.1.trans a1.1, b1.2.trans a1.2⟩, fun hn => ?_⟩
  obtain ⟨c1, c2, c3, c4, c5⟩ := a2 hn
  obtain ⟨d1, d2, d3, d4, d5⟩ := b2 hn
  exact ⟨fun f => (d1 f).trans (c1 f), fun f => (d2 f).trans (c2 f), d3.trans c3, d4.trans c4, d5.trans c5⟩
theorem Fo.wR {P : Nat → Prop} {M : Mem} {f b : Nat} {v : Option Nat} (h : P b) : Fo P M (wR M f b v) := ⟨Nat.le_refl _, fun a _ => ⟨⟨rfl, rfl⟩, fun hn => ⟨fun g => by rw [mR_wR, if_neg (fun e => hn (by rw [e.2]; exact h))], fun _ => rfl, rfl, rfl, rfl⟩⟩⟩
theorem Fo.wI {P : Nat → Prop} {M : Mem} {f b : Nat} {v : Int32} (h : P b) : Fo P M (wI M f b v) := Fo.fr (Fr.wI h)
theorem Fo.wA {P : Nat → Prop} {M : Mem} {b : Nat} {v : GF} (h : P b) : Fo P M (wA M b v) := Fo.fr (Fr.wA h)
theorem Fo.newO {P : Nat → Prop} {M : Mem} {k : Nat} : Fo P M (Jvm.Pilot.COfflineNotesLaw_law_r8929_57547b.newO k M) := by
  refine ⟨Nat.le_succ _, fun a ha => ⟨⟨?_, rfl⟩, fun _ => ⟨fun f => ?_, fun f => ?_, rfl, rfl, rfl⟩⟩⟩
  · show va_up (mK M) (mZ M) k a = _
    unfold va_up; rw [if_neg (by omega)]
  · show (if a = mZ M then none else mR M f a) = _
    rw [if_neg (by omega)]
  · show (if a = mZ M then 0 else mI M f a) = _
    rw [if_neg (by omega)]
theorem Fo.newA {P : Nat → Prop} {M : Mem} {k n : Nat} : Fo P M (Jvm.Pilot.COfflineNotesLaw_law_r8929_57547b.newA k n M) := by
  refine ⟨Nat.le_succ _, fun a ha => ⟨⟨?_, ?_⟩, fun _ => ⟨fun f => rfl, fun f => rfl, ?_, ?_, ?_⟩⟩⟩
  · show va_up (mK M) (mZ M) k a = _
    unfold va_up; rw [if_neg (by omega)]
  · show va_up (mN M) (mZ M) n a = _
    unfold va_up; rw [if_neg (by omega)]
  · show va_up (mA M) (mZ M) _ a = _
    unfold va_up; rw [if_neg (by omega)]
  · show va_up (mB M) (mZ M) _ a = _
    unfold va_up; rw [if_neg (by omega)]
  · show va_up (mL M) (mZ M) _ a = _
    unfold va_up; rw [if_neg (by omega)]
theorem foR {M : Mem} {f b : Nat} {v : Option Nat} : Fo (fun a => a = b) M (wR M f b v) := Fo.wR rfl
theorem foI {M : Mem} {f b : Nat} {v : Int32} : Fo (fun a => a = b) M (wI M f b v) := Fo.wI rfl
theorem newO_K {k : Nat} {M : Mem} : mK (newO k M) (mZ M) = k := by show va_up (mK M) (mZ M) k (mZ M) = k; unfold va_up; rw [if_pos rfl]
theorem newO_I {k f : Nat} {M : Mem} : mI (newO k M) f (mZ M) = 0 := if_pos rfl
theorem newA_K {k n : Nat} {M : Mem} : mK (newA k n M) (mZ M) = k ∧ mN (newA k n M) (mZ M) = n ∧ mA (newA k n M) (mZ M) = (fun _ => 0) ∧ mB (newA k n M) (mZ M) = (fun _ => none) ∧ mL (newA k n M) (mZ M) = (fun _ => 0) := by
  refine ⟨?_, ?_, ?_, ?_, ?_⟩
  · show va_up (mK M) (mZ M) k (mZ M) = k; unfold va_up; rw [if_pos rfl]
  · show va_up (mN M) (mZ M) n (mZ M) = n; unfold va_up; rw [if_pos rfl]
  · show va_up (mA M) (mZ M) _ (mZ M) = _; unfold va_up; rw [if_pos rfl]
  · show va_up (mB M) (mZ M) _ (mZ M) = _; unfold va_up; rw [if_pos rfl]
  · show va_up (mL M) (mZ M) _ (mZ M) = _; unfold va_up; rw [if_pos rfl]
theorem St.fo {P : Nat → Prop} {M M' : Mem} {s c : Nat} (h : St M s c) (f : Fo P M M') (hs : s < mZ M ∧ ¬ P s) (hc : c < mZ M) : St M' s c := h.same (f.2 s hs.1).1.1 ((f.2 s hs.1).2 hs.2).1 (f.2 c hc).1.1 (f.2 c hc).1.2
theorem WS.fo {P : Nat → Prop} {M M' : Mem} {w : Nat} {p : Nat → Nat} (h : WS M w p) (f : Fo P M M') (hz : w + 24 ≤ mZ M) (hP : ∀ i, i < 24 → ¬ P (w + i)) : WS M' w p := h.same (fun i hi => ⟨(f.2 _ (by omega)).1.1, (f.2 _ (by omega)).1.2, ((f.2 _ (by omega)).2 (hP i hi)).1⟩) ⟨((f.2 _ (by omega)).2 (hP 1 (by omega))).2.2.2.1, ((f.2 _ (by omega)).2 (hP 2 (by omega))).2.2.2.1⟩
theorem RelP.fo {P : Nat → Prop} {M M' : Mem} {w : Nat} {p : Nat → Nat} {g : GF} (h : RelP M w p g) (f : Fo P M M') (hz : w + 24 ≤ mZ M) (hP : ∀ i, i < 24 → ¬ P (w + i)) : RelP M' w p g := h.same (fun i hi => ⟨(f.2 _ (by omega)).1.1, (f.2 _ (by omega)).1.2, ((f.2 _ (by omega)).2 (hP i hi)).1⟩) (fun i hi => ⟨((f.2 _ (by omega)).2 (hP i hi)).2.1, ((f.2 _ (by omega)).2 (hP i hi)).2.2.1, ((f.2 _ (by omega)).2 (hP i hi)).2.2.2.1⟩)
theorem Hs.fo {P : Nat → Prop} {M M' : Mem} {a b : Nat} (h : Hs M a b) (f : Fo P M M') (ha : a < mZ M ∧ ¬ P a) (hb : b < mZ M) : Hs M' a b := by
  obtain ⟨h1, h2, h3, h4⟩ := h
  exact ⟨(f.2 a ha.1).1.1.trans h1, (((f.2 a ha.1).2 ha.2).1 _).trans h2, (f.2 b hb).1.1.trans h3, (f.2 b hb).1.2.trans h4⟩
theorem bnew_eq {γ : Type} {k : Nat} {M : Mem} {g : Nat → Mem → Option γ} : bnew k M g = g (mZ M) (newO k M) := rfl
theorem bnewa_eq {γ : Type} {k n : Nat} {M : Mem} {g : Nat → Mem → Option γ} : bnewa k n M g = g (mZ M) (newA k n M) := rfl
theorem sR_ok {M : Mem} {k f a : Nat} {v : Option Nat} (h : mK M a = k) : sR k f a v M = some (wR M f a v) := by rw [sR_w, if_pos h]
theorem sI_ok {M : Mem} {k f a : Nat} {v : Int32} (h : mK M a = k) : sI k f a v M = some (wI M f a v) := by rw [sI_w, if_pos h]
section IN
variable {M : Mem} {x : Nat}
/-- stage 1: two rows of letters -/
theorem in_1 (hx : x = mZ M) {γ : Type} {K : Mem → Option γ} : ∃ A, (bnewa 8 600 (newO 5 M) fun v1 M2 => (sR 5 128 x (some v1) M2).bind fun M3 => (sI 5 129 x 0 M3).bind fun M4 => (sI 5 130 x 0 M4).bind fun M5 => (sI 5 131 x (-1) M5).bind fun M6 => bnewa 8 32 M6 fun v7 M8 => (sR 5 132 x (some v7) M8).bind fun M9 => (sI 5 133 x 0 M9).bind fun M10 => K M10) = K A ∧ Fo (fun _ => False) M A ∧ mZ A = x + 3 ∧ mK A x = 5 ∧ (mR A 128 x = some (x + 1) ∧ mR A 132 x = some (x + 2)) ∧ (mI A 129 x = 0 ∧ mI A 130 x = 0 ∧ mI A 131 x = -1 ∧ mI A 133 x = 0) ∧ (mK A (x + 1) = 8 ∧ mN A (x + 1) = 600 ∧ mK A (x + 2) = 8 ∧ mN A (x + 2) = 32) := by
  have k0 : mK (newO 5 M) x = 5 := by rw [hx]; exact newO_K
  let B1 := newA 8 600 (newO 5 M)
  have z1 : mZ (newO 5 M) = x + 1 := by rw [hx]; rfl
  have f1 : Fo (fun _ => False) (newO 5 M) B1 := Fo.newA
  have k1 : mK B1 x = 5 := (f1.2 x (by omega)).1.1.trans k0
  let B5 := wI (wI (wI (wR B1 128 x (some (x + 1))) 129 x 0) 130 x 0) 131 x (-1)
  let B6 := newA 8 32 B5
  have z5 : mZ B5 = x + 2 := by show mZ (newO 5 M) + 1 = _; rw [z1]
  have f6 : Fo (fun _ => False) B5 B6 := Fo.newA
  have k6 : mK B6 x = 5 := (f6.2 x (by omega)).1.1.trans k1
  have a1 := newA_K (k := 8) (n := 600) (M := newO 5 M)
  rw [z1] at a1
  have a2 := newA_K (k := 8) (n := 32) (M := B5)
  rw [z5] at a2
  let A := wI (wR B6 132 x (some (x + 2))) 133 x 0
  have eI : ∀ f, mI A f x = if f = 133 then 0 else if f = 131 then -1 else if f = 130 then 0 else if f = 129 then 0 else mI (newO 5 M) f x := fun f => by
    show mI (wI B6 133 x 0) f x = _
    rw [mI_wI, show mI B6 f x = mI B5 f x from ((f6.2 x (by omega)).2 id).2.1 f]
    show _ = _
    simp only [and_true, mI_wI, B5]
    rfl
  have eR : ∀ f, mR A f x = if f = 132 then some (x + 2) else if f = 128 then some (x + 1) else mR (newO 5 M) f x := fun f => by
    show mR (wR B6 132 x (some (x + 2))) f x = _
    rw [mR_wR, show mR B6 f x = mR B5 f x from ((f6.2 x (by omega)).2 id).1 f]
    show (if f = 132 ∧ x = x then _ else mR (wR B1 128 x (some (x + 1))) f x) = _
    simp only [and_true, mR_wR]
    rfl
  refine ⟨A, ?_, ?_, by show mZ B5 + 1 = _; rw [z5], k6, ⟨by rw [eR]; rfl, by rw [eR]; rfl⟩, ⟨by rw [eI]; rfl, by rw [eI]; rfl, by rw [eI]; rfl, by rw [eI]; rfl⟩, ?_, ?_, a2.1, a2.2.1⟩
  · rw [bnewa_eq, z1, sR_ok k1, Option.bind_some, sI_ok (show mK (wR B1 128 x (some (x + 1))) x = 5 from k1), Option.bind_some, sI_ok (show mK (wI (wR B1 128 x (some (x + 1))) 129 x 0) x = 5 from k1), Option.bind_some, sI_ok (show mK (wI (wI (wR B1 128 x (some (x + 1))) 129 x 0) 130 x 0) x = 5 from k1), Option.bind_some, bnewa_eq]
    show ((sR 5 132 x (some (mZ B5)) B6).bind fun M9 => (sI 5 133 x 0 M9).bind fun M10 => K M10) = _
    rw [z5, sR_ok k6, Option.bind_some, sI_ok (show mK (wR B6 132 x (some (x + 2))) x = 5 from k6), Option.bind_some]
  · have g1 : Fo (fun a => a = x) M A := ((Fo.newO.tr Fo.newA).tr ((foR.tr foI).tr (foI.tr foI))).tr (Fo.newA.tr (foR.tr foI))
    exact ⟨g1.1, fun a ha => ⟨(g1.2 a ha).1, fun _ => (g1.2 a ha).2 (by omega)⟩⟩
  · exact ((f6.2 (x + 1) (by omega)).1.1).trans a1.1
  · exact ((f6.2 (x + 1) (by omega)).1.2).trans a1.2.1
/-- the class's object made -/
def CI (x : Nat) (M : Mem) : Prop := (mK M x = 5 ∧ mR M 128 x = some (x + 1) ∧ mR M 132 x = some (x + 2) ∧ mR M 136 x = some (x + 27) ∧ mR M 137 x = some (x + 29) ∧ mR M 138 x = some (x + 30) ∧ mR M 139 x = some (x + 32)) ∧
  (mK M (x + 1) = 8 ∧ mN M (x + 1) = 600 ∧ mK M (x + 2) = 8 ∧ mN M (x + 2) = 32) ∧ Hs M (x + 27) (x + 28) ∧ (mK M (x + 29) = 11 ∧ mN M (x + 29) = 2) ∧ St M (x + 30) (x + 31) ∧ St M (x + 32) (x + 33) ∧
  (mR M 134 x = some (x + 34) ∧ mR M 135 x = some (x + 3) ∧ mB M (x + 28) = (fun _ => none) ∧ mB M (x + 29) = (fun _ => none)) ∧ WS M (x + 3) id ∧ RelP M (x + 34) id gS11 ∧ (mI M 1 (x + 27) = 0 ∧ mI M 2 (x + 27) = 0) ∧ (mI M 129 x = 0 ∧ mI M 130 x = 0 ∧ mI M 131 x = -1 ∧ mI M 133 x = 0)
theorem fo0 {P : Nat → Prop} {M0 M1 : Mem} (h : Fo (fun _ => False) M0 M1) : Fo P M0 M1 := h.mono (fun _ h => h.elim)
theorem fo_lo {P : Nat → Prop} {M0 M1 : Mem} {n : Nat} (h : Fo P M0 M1) (hz : mZ M0 ≤ n) (hn : ∀ a, a < n → P a → a = x) : Fo (fun a => a = x) M0 M1 := ⟨h.1, fun a ha => ⟨(h.2 a ha).1, fun hx => (h.2 a ha).2 (fun e => hx (hn a (by omega) e))⟩⟩
theorem in_2 {A : Mem} (zA : mZ A = x + 3) (kA : mK A x = 5) {γ : Type} {K : Mem → Option γ} : ∃ C, (bnew 4 A fun v11 M12 => (f_X3_init v11 M12).bind fun M14 => (sR 5 135 x (some v11) M14).bind fun M15 => bnew 1 M15 fun v16 M17 => (f_X0_init v16 M17).bind fun M19 => (sR 5 136 x (some v16) M19).bind fun M20 => K M20) = K C ∧ Fo (fun a => a = x) A C ∧ mZ C = x + 29 ∧ WS C (x + 3) id ∧ Hs C (x + 27) (x + 28) ∧ mB C (x + 28) = (fun _ => none) ∧ (mI C 1 (x + 27) = 0 ∧ mI C 2 (x + 27) = 0) ∧ (∀ f, mR C f x = if f = 136 then some (x + 27) else if f = 135 then some (x + 3) else mR A f x) ∧ ∀ f, mI C f x = mI A f x := by
  obtain ⟨B, sB, fB0, wB0, zB⟩ := X3_init (M := A) (w := x + 3) zA.symm
  have fB : Fo (fun _ => False) A B := Fo.fr fB0
  have kB : mK B x = 5 := (fB.2 x (by omega)).1.1.trans kA
  obtain ⟨C0, eC0⟩ : ∃ C, C = wR B 135 x (some (x + 3)) := ⟨_, rfl⟩
  have zC0 : mZ C0 = x + 27 := by rw [eC0]; show mZ B = _; rw [zB]
  obtain ⟨C1, eC1⟩ : ∃ C, C = newO 1 C0 := ⟨_, rfl⟩
  have kC1 : mK C1 (x + 27) = 1 := by have := newO_K (k := 1) (M := C0); rwa [zC0, ← eC1] at this
  have zC1 : mZ C1 = x + 28 := by rw [eC1]; show mZ C0 + 1 = _; rw [zC0]
  obtain ⟨C2, eC2⟩ : ∃ C, C = newA 11 10 C1 := ⟨_, rfl⟩
  have aC2 := newA_K (k := 11) (n := 10) (M := C1)
  rw [zC1, ← eC2] at aC2
  have f2 : Fo (fun _ => False) C1 C2 := by rw [eC2]; exact Fo.newA
  have kC2 : mK C2 (x + 27) = 1 := (f2.2 (x + 27) (by omega)).1.1.trans kC1
  have zC2 : mZ C2 = x + 29 := by rw [eC2]; show mZ C1 + 1 = _; rw [zC1]
  obtain ⟨C3, eC3⟩ : ∃ C, C = wI (wI (wR C2 0 (x + 27) (some (x + 28))) 1 (x + 27) 0) 2 (x + 27) 0 := ⟨_, rfl⟩
  have zC3 : mZ C3 = x + 29 := by rw [eC3]; exact zC2
  have sC : f_X0_init (x + 27) C1 = some C3 := by
    unfold f_X0_init
    rw [bnewa_eq, zC1, ← eC2, sR_ok kC2, Option.bind_some, sI_ok (show mK (wR C2 0 (x + 27) (some (x + 28))) (x + 27) = 1 from kC2), Option.bind_some, sI_ok (show mK (wI (wR C2 0 (x + 27) (some (x + 28))) 1 (x + 27) 0) (x + 27) = 1 from kC2), Option.bind_some, ← eC3]
  have f3 : Fo (fun a => a = x + 27) C2 C3 := by rw [eC3]; exact (foR.tr foI).tr foI
  have f1 : Fo (fun _ => False) C0 C1 := by rw [eC1]; exact Fo.newO
  have fC : Fo (fun a => a = x + 27) C0 C3 := ((fo0 f1).tr (fo0 f2)).tr f3
  have f0 : Fo (fun a => a = x) B C0 := by rw [eC0]; exact foR
  have kC0 : mK C0 x = 5 := by rw [eC0]; exact kB
  have kC3 : mK C3 x = 5 := (fC.2 x (by omega)).1.1.trans kC0
  have hsC : Hs C3 (x + 27) (x + 28) := by
    rw [eC3]
    exact ⟨kC2, by show mR (wR C2 0 (x + 27) (some (x + 28))) 0 (x + 27) = _; rw [mR_wR, if_pos ⟨rfl, rfl⟩], aC2.1, aC2.2.1⟩
  have f4 : Fo (fun a => a = x) C3 (wR C3 136 x (some (x + 27))) := foR
  have fBC : Fo (fun a => a = x) B (wR C3 136 x (some (x + 27))) := fo_lo (n := x + 27) (P := fun a => a = x ∨ a = x + 27) (((f0.mono (fun a h => Or.inl h)).tr (fC.mono (fun a h => Or.inr h))).tr (f4.mono (fun a h => Or.inl h))) (by omega) (fun a h e => by omega)
  refine ⟨wR C3 136 x (some (x + 27)), ?_, (fo0 fB).tr fBC, zC3, wB0.fo fBC (by omega) (fun i hi => by omega), hsC.fo f4 ⟨by omega, by omega⟩ (by omega), ?_, ⟨?_, ?_⟩, fun f => ?_, fun f => ?_⟩
  · rw [bnew_eq, zA, sB, Option.bind_some, sR_ok kB, Option.bind_some, ← eC0, bnew_eq, zC0, ← eC1, sC, Option.bind_some, sR_ok kC3, Option.bind_some]
  · show mB C3 (x + 28) = _
    rw [eC3]; exact aC2.2.2.2.1
  · show mI C3 1 (x + 27) = 0
    rw [eC3, mI_wI, if_neg (by omega), mI_wI, if_pos ⟨rfl, rfl⟩]
  · show mI C3 2 (x + 27) = 0
    rw [eC3, mI_wI, if_pos ⟨rfl, rfl⟩]
  · rw [mR_wR, ((fC.2 x (by omega)).2 (by omega)).1 f, eC0, mR_wR, ((fB.2 x (by omega)).2 id).1 f]
    simp only [and_true]
  · show mI C3 f x = _
    rw [((fC.2 x (by omega)).2 (by omega)).2.1 f, eC0]
    exact ((fB.2 x (by omega)).2 id).2.1 f
theorem in_3 {C : Mem} (zC : mZ C = x + 29) (kC : mK C x = 5) {γ : Type} {K : Mem → Option γ} : ∃ G, (bnewa 11 2 C fun v21 M22 => (sR 5 137 x (some v21) M22).bind fun M23 => bnew 3 M23 fun v24 M25 => (f_X2_init v24 M25).bind fun M27 => (sR 5 138 x (some v24) M27).bind fun M28 => bnew 3 M28 fun v29 M30 => (f_X2_init v29 M30).bind fun M32 => (sR 5 139 x (some v29) M32).bind fun M33 => K M33) = K G ∧ Fo (fun a => a = x) C G ∧ mZ G = x + 34 ∧ (mK G (x + 29) = 11 ∧ mN G (x + 29) = 2 ∧ mB G (x + 29) = (fun _ => none)) ∧ St G (x + 30) (x + 31) ∧ St G (x + 32) (x + 33) ∧ (∀ f, mR G f x = if f = 139 then some (x + 32) else if f = 138 then some (x + 30) else if f = 137 then some (x + 29) else mR C f x) ∧ ∀ f, mI G f x = mI C f x := by
  obtain ⟨D1, eD1⟩ : ∃ D, D = newA 11 2 C := ⟨_, rfl⟩
  have aD := newA_K (k := 11) (n := 2) (M := C)
  rw [zC, ← eD1] at aD
  have fD1 : Fo (fun _ => False) C D1 := by rw [eD1]; exact Fo.newA
  have kD1 : mK D1 x = 5 := (fD1.2 x (by omega)).1.1.trans kC
  have zD1 : mZ D1 = x + 30 := by rw [eD1]; show mZ C + 1 = _; rw [zC]
  obtain ⟨D2, eD2⟩ : ∃ D, D = wR D1 137 x (some (x + 29)) := ⟨_, rfl⟩
  have zD2 : mZ D2 = x + 30 := by rw [eD2]; exact zD1
  have kD2 : mK D2 x = 5 := by rw [eD2]; exact kD1
  have f2 : Fo (fun a => a = x) D1 D2 := by rw [eD2]; exact foR
  obtain ⟨E0, eE0⟩ : ∃ D, D = mkS D2 := ⟨_, rfl⟩
  have sE := mkS_St D2
  rw [zD2, ← eE0] at sE
  have fE : Fo (fun _ => False) D2 E0 := by rw [eE0]; exact Fo.fr (mkS_fr D2)
  have zE0 : mZ E0 = x + 32 := by rw [eE0]; show mZ D2 + 1 + 1 = _; rw [zD2]
  have kE : mK E0 x = 5 := (fE.2 x (by omega)).1.1.trans kD2
  obtain ⟨E1, eE1⟩ : ∃ D, D = wR E0 138 x (some (x + 30)) := ⟨_, rfl⟩
  have zE1 : mZ E1 = x + 32 := by rw [eE1]; exact zE0
  have kE1 : mK E1 x = 5 := by rw [eE1]; exact kE
  have f3 : Fo (fun a => a = x) E0 E1 := by rw [eE1]; exact foR
  obtain ⟨G0, eG0⟩ : ∃ D, D = mkS E1 := ⟨_, rfl⟩
  have sG := mkS_St E1
  rw [zE1, ← eG0] at sG
  have fG : Fo (fun _ => False) E1 G0 := by rw [eG0]; exact Fo.fr (mkS_fr E1)
  have zG0 : mZ G0 = x + 34 := by rw [eG0]; show mZ E1 + 1 + 1 = _; rw [zE1]
  have kG : mK G0 x = 5 := (fG.2 x (by omega)).1.1.trans kE1
  have f4 : Fo (fun a => a = x) G0 (wR G0 139 x (some (x + 32))) := foR
  have t3 : Fo (fun a => a = x) E0 (wR G0 139 x (some (x + 32))) := (f3.tr (fo0 fG)).tr f4
  have t1 : Fo (fun a => a = x) D1 (wR G0 139 x (some (x + 32))) := (f2.tr (fo0 fE)).tr t3
  have b29 := t1.2 (x + 29) (by omega)
  refine ⟨wR G0 139 x (some (x + 32)), ?_, (fo0 fD1).tr t1, zG0, ⟨b29.1.1.trans aD.1, b29.1.2.trans aD.2.1, (b29.2 (by omega)).2.2.2.1.trans aD.2.2.2.1⟩, sE.fo t3 ⟨by omega, by omega⟩ (by omega), sG.fo f4 ⟨by omega, by omega⟩ (by omega), fun f => ?_, fun f => ?_⟩
  · rw [bnewa_eq, zC, ← eD1, sR_ok kD1, Option.bind_some, ← eD2]
    rw [X2_new (M := D2) (K := fun v24 M27 => (sR 5 138 x (some v24) M27).bind fun M28 => bnew 3 M28 fun v29 M30 => (f_X2_init v29 M30).bind fun M32 => (sR 5 139 x (some v29) M32).bind fun M33 => K M33)]
    rw [zD2, ← eE0, sR_ok kE, Option.bind_some, ← eE1]
    rw [X2_new (M := E1) (K := fun v29 M32 => (sR 5 139 x (some v29) M32).bind fun M33 => K M33)]
    rw [zE1, ← eG0, sR_ok kG, Option.bind_some]
  · rw [mR_wR, ((fG.2 x (by omega)).2 id).1 f, eE1, mR_wR, ((fE.2 x (by omega)).2 id).1 f, eD2, mR_wR, ((fD1.2 x (by omega)).2 id).1 f]
    simp only [and_true]
  · show mI G0 f x = _
    rw [((fG.2 x (by omega)).2 id).2.1 f, eE1]
    show mI E0 f x = _
    rw [((fE.2 x (by omega)).2 id).2.1 f, eD2]
    show mI D1 f x = _
    exact ((fD1.2 x (by omega)).2 id).2.1 f
theorem in_4 {G : Mem} (zG : mZ G = x + 34) (kG : mK G x = 5) : ∃ Z, (bnew 4 G fun v34 M35 => (f_X3_init v34 M35).bind fun M37 => bnew 2 M37 fun v38 M39 => bn (jTca 0 M39) fun v40 M41 => (jLen 0).bind fun v42 => (f_X1_init v38 v40 v42 v34 M41).bind fun M44 => (cK 2 v38 M44 (f_X1_parse v38 M44)).bind fun M46 => (sR 5 134 x (some v34) M46).bind fun M47 => some M47) = some Z ∧ Fo (fun a => a = x) G Z ∧ mZ Z = x + 60 ∧ RelP Z (x + 34) id gS11 ∧ (∀ f, mR Z f x = if f = 134 then some (x + 34) else mR G f x) ∧ ∀ f, mI Z f x = mI G f x := by
  obtain ⟨Hm, sH, fH0, wH, zH⟩ := X3_init (M := G) (w := x + 34) zG.symm
  have fH : Fo (fun _ => False) G Hm := Fo.fr fH0
  have kH : mK Hm x = 5 := (fH.2 x (by omega)).1.1.trans kG
  obtain ⟨J0, eJ0⟩ : ∃ D, D = newO 2 Hm := ⟨_, rfl⟩
  have zJ0 : mZ J0 = x + 59 := by rw [eJ0]; show mZ Hm + 1 = _; rw [zH]
  have kJ0 : mK J0 (x + 58) = 2 := by have := newO_K (k := 2) (M := Hm); rwa [zH, ← eJ0] at this
  have fJ0 : Fo (fun _ => False) Hm J0 := by rw [eJ0]; exact Fo.newO
  obtain ⟨J1, eJ1⟩ : ∃ D, D = jTcM J0 := ⟨_, rfl⟩
  have fJ1 : Fo (fun _ => False) J0 J1 := by
    rw [eJ1]
    refine ⟨Nat.le_succ _, fun a ha => ⟨⟨?_, ?_⟩, fun _ => ⟨fun f => rfl, fun f => rfl, ?_, ?_, ?_⟩⟩⟩
    · show va_up (mK J0) (mZ J0) 8 a = _
      unfold va_up; rw [if_neg (by omega)]
    · show va_up (mN J0) (mZ J0) 129 a = _
      unfold va_up; rw [if_neg (by omega)]
    · show va_up (mA J0) (mZ J0) _ a = _
      unfold va_up; rw [if_neg (by omega)]
    · show va_up (mB J0) (mZ J0) _ a = _
      unfold va_up; rw [if_neg (by omega)]
    · show va_up (mL J0) (mZ J0) _ a = _
      unfold va_up; rw [if_neg (by omega)]
  have kJ1 : mK J1 (x + 58) = 2 := (fJ1.2 (x + 58) (by omega)).1.1.trans kJ0
  have aJ : mK J1 (x + 59) = 8 ∧ mN J1 (x + 59) = 129 ∧ mA J1 (x + 59) = cS := by
    rw [eJ1]
    refine ⟨?_, ?_, ?_⟩
    · show va_up (mK J0) (mZ J0) 8 (x + 59) = 8; unfold va_up; rw [if_pos zJ0.symm]
    · show va_up (mN J0) (mZ J0) 129 (x + 59) = 129; unfold va_up; rw [if_pos zJ0.symm]
    · show va_up (mA J0) (mZ J0) _ (x + 59) = _; unfold va_up; rw [if_pos zJ0.symm]; rfl
  have zJ1 : mZ J1 = x + 60 := by rw [eJ1]; show mZ J0 + 1 = _; rw [zJ0]
  obtain ⟨P, eP⟩ : ∃ D, D = wR (wI (wR (wI (wI (wI (wI (wI J1 35 (x + 58) 0) 36 (x + 58) 0) 37 (x + 58) 0) 38 (x + 58) 0) 39 (x + 58) (-1)) 32 (x + 58) (some (x + 59))) 33 (x + 58) (nI 129)) 34 (x + 58) (some (x + 34)) := ⟨_, rfl⟩
  have sP : f_X1_init (x + 58) (x + 59) (nI 129) (x + 34) J1 = some P := by
    rw [eP]
    simp only [f_X1_init, sI_w, sR_w, mK_wI, mK_wR, kJ1, if_true, Option.bind_some]
  have fP : Fo (fun a => a = x + 58) J1 P := by rw [eP]; exact (((foI.tr foI).tr (foI.tr foI)).tr ((foI.tr foR).tr (foI.tr foR)))
  have fHP : Fo (fun _ => False) Hm P := by
    have t : Fo (fun a => a = x + 58) Hm P := ((fo0 fJ0).tr (fo0 fJ1)).tr fP
    exact ⟨t.1, fun a ha => ⟨(t.2 a ha).1, fun _ => (t.2 a ha).2 (by omega)⟩⟩
  have zP : mZ P = x + 60 := by rw [eP]; exact zJ1
  have kP : mK P x = 5 := (fHP.2 x (by omega)).1.1.trans kH
  have kP2 : mK P (x + 58) = 2 := by rw [eP]; exact kJ1
  have wP : WS P (x + 34) id := wH.fo fHP (by omega) (fun _ _ h => h)
  obtain ⟨g0, r0⟩ := RelP.some wP
  have eIP : ∀ f, f = 33 ∨ (35 ≤ f ∧ f ≤ 39) → mI P f (x + 58) = if f = 33 then nI 129 else if f = 39 then -1 else 0 := fun f hf => by
    rw [eP]
    show mI (wI (wI (wI (wI (wI (wI J1 35 (x + 58) 0) 36 (x + 58) 0) 37 (x + 58) 0) 38 (x + 58) 0) 39 (x + 58) (-1)) 33 (x + 58) (nI 129)) f (x + 58) = _
    simp only [mI_wI, and_true]
    rcases (show f = 33 ∨ f = 35 ∨ f = 36 ∨ f = 37 ∨ f = 38 ∨ f = 39 by omega) with rfl | rfl | rfl | rfl | rfl | rfl <;> rfl
  have ps : PS P (x + 58) (x + 59) 129 (x + 34) cS 0 0 0 0 (-1) := by
    refine ⟨⟨kP2, ?_, by rw [eIP 33 (by omega)]; rfl, ?_⟩, ⟨by rw [eP]; exact aJ.1, by rw [eP]; show 129 ≤ mN J1 (x + 59); rw [aJ.2.1]; exact Nat.le_refl _, by omega, fun i _ => by rw [eP]; show mA J1 (x + 59) i = _; rw [aJ.2.2]⟩, by rw [eIP 35 (by omega)]; rfl, by rw [eIP 36 (by omega)]; rfl, by rw [eIP 37 (by omega)]; rfl, by rw [eIP 38 (by omega)]; rfl, by rw [eIP 39 (by omega)]; rfl⟩
    · rw [eP, mR_wR, if_neg (by omega), mR_wI, mR_wR, if_pos ⟨rfl, rfl⟩]
    · rw [eP, mR_wR, if_pos ⟨rfl, rfl⟩]
  have cg : CG (x + 58) (x + 59) 129 (x + 34) cS id P g0 cur0 := ⟨⟨0, ps, Nat.zero_le _, Nat.zero_le _⟩, r0, by omega, by omega, by omega, by omega, by omega, by omega⟩
  obtain ⟨Q, y1, y2, y3⟩ := c_parse (z := fun _ => 0) (fun _ _ => rfl) cg
  obtain ⟨qq, _, relQ, _⟩ := y3.2 gS11 text_S
  have fQ : Fo (fun a => inW (x + 34) a ∨ a = x + 58) P Q := Fo.fr y2.1
  have zQ : mZ Q = x + 60 := y2.2.2.2.trans zP
  have kQ : mK Q x = 5 := (fQ.2 x (by omega)).1.1.trans kP
  have f4 : Fo (fun a => a = x) Q (wR Q 134 x (some (x + 34))) := foR
  have nx : ¬ (inW (x + 34) x ∨ x = x + 58) := by unfold inW; omega
  refine ⟨wR Q 134 x (some (x + 34)), ?_, ?_, zQ, relQ.fo f4 (by omega) (fun i hi => by omega), fun f => ?_, fun f => ?_⟩
  · have tj : jTca 0 J0 = some (x + 59, J1) := by unfold jTca; rw [if_pos rfl, zJ0, eJ1]
    have lj : jLen 0 = some (nI 129) := by decide +kernel
    rw [bnew_eq, zG, sH, Option.bind_some, bnew_eq, zH, ← eJ0, tj, bn_some, lj, Option.bind_some, sP, Option.bind_some, cK_ok kP2, y1, Option.bind_some, sR_ok kQ, Option.bind_some]
  · refine fo_lo (n := x + 34) (P := fun a => a = x ∨ (inW (x + 34) a ∨ a = x + 58)) (((fo0 fH).tr (fo0 fHP)).tr ((fQ.mono (fun a h => Or.inr h)).tr (f4.mono (fun a h => Or.inl h)))) (by omega) (fun a h e => e.elim id (fun e => by unfold inW at e; omega))
  · rw [mR_wR, ((fQ.2 x (by omega)).2 nx).1 f, ((fHP.2 x (by omega)).2 id).1 f, ((fH.2 x (by omega)).2 id).1 f]
    simp only [and_true]
  · show mI Q f x = _
    rw [((fQ.2 x (by omega)).2 nx).2.1 f, ((fHP.2 x (by omega)).2 id).2.1 f]
    exact ((fH.2 x (by omega)).2 id).2.1 f
theorem c_init (hx : x = mZ M) : ∃ M', f_X4_init x (newO 5 M) = some M' ∧ Fo (fun _ => False) M M' ∧ mZ M' = x + 60 ∧ CI x M' := by
  obtain ⟨A, sA, fA, zA, kA, ⟨rA1, rA2⟩, ⟨iA1, iA2, iA3, iA4⟩, hA1, hA2, hA3, hA4⟩ := in_1 hx (K := fun M10 => bnew 4 M10 fun v11 M12 => (f_X3_init v11 M12).bind fun M14 => (sR 5 135 x (some v11) M14).bind fun M15 => bnew 1 M15 fun v16 M17 => (f_X0_init v16 M17).bind fun M19 => (sR 5 136 x (some v16) M19).bind fun M20 => bnewa 11 2 M20 fun v21 M22 => (sR 5 137 x (some v21) M22).bind fun M23 => bnew 3 M23 fun v24 M25 => (f_X2_init v24 M25).bind fun M27 => (sR 5 138 x (some v24) M27).bind fun M28 => bnew 3 M28 fun v29 M30 => (f_X2_init v29 M30).bind fun M32 => (sR 5 139 x (some v29) M32).bind fun M33 => bnew 4 M33 fun v34 M35 => (f_X3_init v34 M35).bind fun M37 => bnew 2 M37 fun v38 M39 => bn (jTca 0 M39) fun v40 M41 => (jLen 0).bind fun v42 => (f_X1_init v38 v40 v42 v34 M41).bind fun M44 => (cK 2 v38 M44 (f_X1_parse v38 M44)).bind fun M46 => (sR 5 134 x (some v34) M46).bind fun M47 => some M47)
  obtain ⟨C, sC, fC, zC, wC, hC, bC, ⟨iC1, iC2⟩, rC, iC⟩ := in_2 zA kA (K := fun M20 => bnewa 11 2 M20 fun v21 M22 => (sR 5 137 x (some v21) M22).bind fun M23 => bnew 3 M23 fun v24 M25 => (f_X2_init v24 M25).bind fun M27 => (sR 5 138 x (some v24) M27).bind fun M28 => bnew 3 M28 fun v29 M30 => (f_X2_init v29 M30).bind fun M32 => (sR 5 139 x (some v29) M32).bind fun M33 => bnew 4 M33 fun v34 M35 => (f_X3_init v34 M35).bind fun M37 => bnew 2 M37 fun v38 M39 => bn (jTca 0 M39) fun v40 M41 => (jLen 0).bind fun v42 => (f_X1_init v38 v40 v42 v34 M41).bind fun M44 => (cK 2 v38 M44 (f_X1_parse v38 M44)).bind fun M46 => (sR 5 134 x (some v34) M46).bind fun M47 => some M47)
  have kC : mK C x = 5 := (fC.2 x (by omega)).1.1.trans kA
  obtain ⟨G, sG, fG, zG, ⟨kG1, kG2, kG3⟩, stG1, stG2, rG, iG⟩ := in_3 zC kC (K := fun M33 => bnew 4 M33 fun v34 M35 => (f_X3_init v34 M35).bind fun M37 => bnew 2 M37 fun v38 M39 => bn (jTca 0 M39) fun v40 M41 => (jLen 0).bind fun v42 => (f_X1_init v38 v40 v42 v34 M41).bind fun M44 => (cK 2 v38 M44 (f_X1_parse v38 M44)).bind fun M46 => (sR 5 134 x (some v34) M46).bind fun M47 => some M47)
  have kG : mK G x = 5 := (fG.2 x (by omega)).1.1.trans kC
  obtain ⟨Z, sZ, fZ, zZ, relZ, rZ, iZ⟩ := in_4 zG kG
  have fCZ : Fo (fun a => a = x) C Z := fG.tr fZ
  have fAZ : Fo (fun a => a = x) A Z := fC.tr fCZ
  have a1 := fAZ.2 (x + 1) (by omega)
  have a2 := fAZ.2 (x + 2) (by omega)
  have c27 := (fCZ.2 (x + 27) (by omega)).2 (by omega)
  have c28 := (fCZ.2 (x + 28) (by omega)).2 (by omega)
  have g29 := fZ.2 (x + 29) (by omega)
  have eR : ∀ f, mR Z f x = if f = 134 then some (x + 34) else if f = 139 then some (x + 32) else if f = 138 then some (x + 30) else if f = 137 then some (x + 29) else if f = 136 then some (x + 27) else if f = 135 then some (x + 3) else mR A f x := fun f => by rw [rZ, rG, rC]
  have eI : ∀ f, mI Z f x = mI A f x := fun f => by rw [iZ, iG, iC]
  refine ⟨Z, ?_, ?_, zZ, ⟨(fAZ.2 x (by omega)).1.1.trans kA, by rw [eR]; exact rA1, by rw [eR]; exact rA2, by rw [eR]; rfl, by rw [eR]; rfl, by rw [eR]; rfl, by rw [eR]; rfl⟩, ⟨a1.1.1.trans hA1, a1.1.2.trans hA2, a2.1.1.trans hA3, a2.1.2.trans hA4⟩, hC.fo fCZ ⟨by omega, by omega⟩ (by omega), ⟨g29.1.1.trans kG1, g29.1.2.trans kG2⟩, stG1.fo fZ ⟨by omega, by omega⟩ (by omega), stG2.fo fZ ⟨by omega, by omega⟩ (by omega), ⟨by rw [eR]; rfl, by rw [eR]; rfl, c28.2.2.2.1.trans bC, (g29.2 (by omega)).2.2.2.1.trans kG3⟩, wC.fo fCZ (by omega) (fun i hi => by omega), relZ, ⟨(c27.2.1 1).trans iC1, (c27.2.1 2).trans iC2⟩, ⟨(eI _).trans iA1, (eI _).trans iA2, (eI _).trans iA3, (eI _).trans iA4⟩⟩
  · unfold f_X4_init
    exact ((sA.trans sC).trans sG).trans sZ
  · have t : Fo (fun a => a = x) M Z := (fo0 fA).tr fAZ
    exact ⟨t.1, fun a ha => ⟨(t.2 a ha).1, fun _ => (t.2 a ha).2 (by omega)⟩⟩
end IN

