/-! THE FIRST TEXT (written by genstart.py) -/
def cS : GF := fun k => if k < 129 then jByt 0 k else 0
def cT (k : Nat) : Int32 := ([114, 101, 112, 108, 105, 99, 97, 115, 32, 51, 32, 50, 32, 49, 59, 32, 105, 110, 99, 32, 48, 32, 48, 32, 53, 59, 32, 100, 101, 99, 32, 49, 32, 48, 32, 50, 59, 32, 97, 100, 100, 32, 48, 32, 97, 59, 32, 97, 100, 100, 32, 49, 32, 98, 59, 32, 115, 101, 110, 100, 32, 48, 59, 32, 109, 101, 114, 103, 101, 32, 49, 32, 48, 59, 32, 114, 101, 109, 111, 118, 101, 32, 49, 32, 97, 59, 32, 97, 100, 100, 32, 48, 32, 97, 59, 32, 119, 114, 105, 116, 101, 32, 48, 32, 48, 32, 55, 59, 32, 119, 114, 105, 116, 101, 32, 50, 32, 48, 32, 57, 59, 32, 97, 100, 100, 32, 50, 32, 99] : List Int32).getD k 0
theorem cS_all : ∀ k : Fin 130, cS k.val = cT k.val := by decide +kernel
theorem cS_at {k : Nat} (h : k < 130) : cS k = cT k := cS_all ⟨k, h⟩
def skd (c : GF) : Nat → Nat → Nat
  | i, 0 => i
  | i, n + 1 => if c i = 32 ∨ c i = 10 then skd c (i + 1) n else i
theorem skd_eq (c d : GF) (n : Nat) : ∀ i, (∀ j, i ≤ j → j < i + n → c j = d j) → skp c i n = skd d i n := by
  induction n with
  | zero => intro i _; rfl
  | succ n ih =>
    intro i h
    unfold skp skd
    rw [h i (by omega) (by omega), ih (i + 1) (fun j h1 h2 => h j (by omega) (by omega))]
    by_cases q : d i = 32 ∨ d i = 10
    · rw [if_pos q, if_pos (show blk (d i) from q)]
    · rw [if_neg q, if_neg (show ¬ blk (d i) from q)]
theorem ext_eq (c d : GF) (t : Int32) (n : Nat) : ∀ i, (∀ j, i ≤ j → j < i + n → c j = d j) → ext c t i n = ext d t i n := by
  induction n with
  | zero => intro i _; rfl
  | succ n ih =>
    intro i h
    unfold ext
    rw [h i (by omega) (by omega), ih (i + 1) (fun j h1 h2 => h j (by omega) (by omega))]
def dS (e : Nat) : Nat := skd cT e (129 - e)
def dE (e : Nat) : Nat := tE cT 129 (dS e)
def dT (ty : Int32) (e : Nat) : Int32 := if 129 ≤ dS e then 0 else if ((typ (cT (dS e)) = 1 ∨ typ (cT (dS e)) = 2) ∧ (ty = 1 ∨ ty = 2) ∧ dS e = e) ∨ (typ (cT (dS e)) = 2 ∧ 2 < dE e - dS e) then 4 else typ (cT (dS e))
theorem tE_eq {s : Nat} (hs : s ≤ 129) : tE cS 129 s = tE cT 129 s := by
  unfold tE
  by_cases h : 129 ≤ s
  · rw [if_pos h, if_pos h]
  · rw [if_neg h, if_neg h, cS_at (by omega), ext_eq cS cT _ _ _ (fun j h1 h2 => cS_at (by omega))]
theorem nS_eq {e : Nat} (he : e ≤ 129) : nS cS 129 e = dS e := skd_eq cS cT _ _ (fun j h1 h2 => cS_at (by omega))
theorem nE_eq {e : Nat} (he : e ≤ 129) : nE cS 129 e = dE e := by
  have h := (nS_le (c := cS) he).2
  rw [nS_eq he] at h
  unfold nE dE
  rw [nS_eq he]
  exact tE_eq h
theorem nT_eq {ty : Int32} {e : Nat} (he : e ≤ 129) : nT cS 129 ty e = dT ty e := by
  have h := (nS_le (c := cS) he).2
  rw [nS_eq he] at h
  unfold nT dT
  rw [nS_eq he, nE_eq he]
  by_cases q : 129 ≤ dS e
  · rw [if_pos q, if_pos q]
  · rw [if_neg q, if_neg q, cS_at (by omega)]
theorem tk_0 : uN cS 129 (0, 0) = (1, 8) ∧ uT cS 129 (0, 0) = 1 ∧ uS cS 129 (0, 0) = 0 ∧ uE cS 129 (0, 0) = 8 := by
  have a : uT cS 129 (0, 0) = 1 := (nT_eq (ty := 0) (e := 0) (by decide)).trans (by decide +kernel)
  have b : uE cS 129 (0, 0) = 8 := (nE_eq (e := 0) (by decide)).trans (by decide +kernel)
  exact ⟨by unfold uN; rw [a, b], a, (nS_eq (e := 0) (by decide)).trans (by decide +kernel), b⟩
theorem tk_1 : uN cS 129 (1, 8) = (2, 10) ∧ uT cS 129 (1, 8) = 2 ∧ uS cS 129 (1, 8) = 9 ∧ uE cS 129 (1, 8) = 10 := by
  have a : uT cS 129 (1, 8) = 2 := (nT_eq (ty := 1) (e := 8) (by decide)).trans (by decide +kernel)
  have b : uE cS 129 (1, 8) = 10 := (nE_eq (e := 8) (by decide)).trans (by decide +kernel)
  exact ⟨by unfold uN; rw [a, b], a, (nS_eq (e := 8) (by decide)).trans (by decide +kernel), b⟩
theorem tk_2 : uN cS 129 (2, 10) = (2, 12) ∧ uT cS 129 (2, 10) = 2 ∧ uS cS 129 (2, 10) = 11 ∧ uE cS 129 (2, 10) = 12 := by
  have a : uT cS 129 (2, 10) = 2 := (nT_eq (ty := 2) (e := 10) (by decide)).trans (by decide +kernel)
  have b : uE cS 129 (2, 10) = 12 := (nE_eq (e := 10) (by decide)).trans (by decide +kernel)
  exact ⟨by unfold uN; rw [a, b], a, (nS_eq (e := 10) (by decide)).trans (by decide +kernel), b⟩
theorem tk_3 : uN cS 129 (2, 12) = (2, 14) ∧ uT cS 129 (2, 12) = 2 ∧ uS cS 129 (2, 12) = 13 ∧ uE cS 129 (2, 12) = 14 := by
  have a : uT cS 129 (2, 12) = 2 := (nT_eq (ty := 2) (e := 12) (by decide)).trans (by decide +kernel)
  have b : uE cS 129 (2, 12) = 14 := (nE_eq (e := 12) (by decide)).trans (by decide +kernel)
  exact ⟨by unfold uN; rw [a, b], a, (nS_eq (e := 12) (by decide)).trans (by decide +kernel), b⟩
theorem tk_4 : uN cS 129 (2, 14) = (3, 15) ∧ uT cS 129 (2, 14) = 3 ∧ uS cS 129 (2, 14) = 14 ∧ uE cS 129 (2, 14) = 15 := by
  have a : uT cS 129 (2, 14) = 3 := (nT_eq (ty := 2) (e := 14) (by decide)).trans (by decide +kernel)
  have b : uE cS 129 (2, 14) = 15 := (nE_eq (e := 14) (by decide)).trans (by decide +kernel)
  exact ⟨by unfold uN; rw [a, b], a, (nS_eq (e := 14) (by decide)).trans (by decide +kernel), b⟩
theorem tk_5 : uN cS 129 (3, 15) = (1, 19) ∧ uT cS 129 (3, 15) = 1 ∧ uS cS 129 (3, 15) = 16 ∧ uE cS 129 (3, 15) = 19 := by
  have a : uT cS 129 (3, 15) = 1 := (nT_eq (ty := 3) (e := 15) (by decide)).trans (by decide +kernel)
  have b : uE cS 129 (3, 15) = 19 := (nE_eq (e := 15) (by decide)).trans (by decide +kernel)
  exact ⟨by unfold uN; rw [a, b], a, (nS_eq (e := 15) (by decide)).trans (by decide +kernel), b⟩
theorem tk_6 : uN cS 129 (1, 19) = (2, 21) ∧ uT cS 129 (1, 19) = 2 ∧ uS cS 129 (1, 19) = 20 ∧ uE cS 129 (1, 19) = 21 := by
  have a : uT cS 129 (1, 19) = 2 := (nT_eq (ty := 1) (e := 19) (by decide)).trans (by decide +kernel)
  have b : uE cS 129 (1, 19) = 21 := (nE_eq (e := 19) (by decide)).trans (by decide +kernel)
  exact ⟨by unfold uN; rw [a, b], a, (nS_eq (e := 19) (by decide)).trans (by decide +kernel), b⟩
theorem tk_7 : uN cS 129 (2, 21) = (2, 23) ∧ uT cS 129 (2, 21) = 2 ∧ uS cS 129 (2, 21) = 22 ∧ uE cS 129 (2, 21) = 23 := by
  have a : uT cS 129 (2, 21) = 2 := (nT_eq (ty := 2) (e := 21) (by decide)).trans (by decide +kernel)
  have b : uE cS 129 (2, 21) = 23 := (nE_eq (e := 21) (by decide)).trans (by decide +kernel)
  exact ⟨by unfold uN; rw [a, b], a, (nS_eq (e := 21) (by decide)).trans (by decide +kernel), b⟩
theorem tk_8 : uN cS 129 (2, 23) = (2, 25) ∧ uT cS 129 (2, 23) = 2 ∧ uS cS 129 (2, 23) = 24 ∧ uE cS 129 (2, 23) = 25 := by
  have a : uT cS 129 (2, 23) = 2 := (nT_eq (ty := 2) (e := 23) (by decide)).trans (by decide +kernel)
  have b : uE cS 129 (2, 23) = 25 := (nE_eq (e := 23) (by decide)).trans (by decide +kernel)
  exact ⟨by unfold uN; rw [a, b], a, (nS_eq (e := 23) (by decide)).trans (by decide +kernel), b⟩
theorem tk_9 : uN cS 129 (2, 25) = (3, 26) ∧ uT cS 129 (2, 25) = 3 ∧ uS cS 129 (2, 25) = 25 ∧ uE cS 129 (2, 25) = 26 := by
  have a : uT cS 129 (2, 25) = 3 := (nT_eq (ty := 2) (e := 25) (by decide)).trans (by decide +kernel)
  have b : uE cS 129 (2, 25) = 26 := (nE_eq (e := 25) (by decide)).trans (by decide +kernel)
  exact ⟨by unfold uN; rw [a, b], a, (nS_eq (e := 25) (by decide)).trans (by decide +kernel), b⟩
theorem tk_10 : uN cS 129 (3, 26) = (1, 30) ∧ uT cS 129 (3, 26) = 1 ∧ uS cS 129 (3, 26) = 27 ∧ uE cS 129 (3, 26) = 30 := by
  have a : uT cS 129 (3, 26) = 1 := (nT_eq (ty := 3) (e := 26) (by decide)).trans (by decide +kernel)
  have b : uE cS 129 (3, 26) = 30 := (nE_eq (e := 26) (by decide)).trans (by decide +kernel)
  exact ⟨by unfold uN; rw [a, b], a, (nS_eq (e := 26) (by decide)).trans (by decide +kernel), b⟩
theorem tk_11 : uN cS 129 (1, 30) = (2, 32) ∧ uT cS 129 (1, 30) = 2 ∧ uS cS 129 (1, 30) = 31 ∧ uE cS 129 (1, 30) = 32 := by
  have a : uT cS 129 (1, 30) = 2 := (nT_eq (ty := 1) (e := 30) (by decide)).trans (by decide +kernel)
  have b : uE cS 129 (1, 30) = 32 := (nE_eq (e := 30) (by decide)).trans (by decide +kernel)
  exact ⟨by unfold uN; rw [a, b], a, (nS_eq (e := 30) (by decide)).trans (by decide +kernel), b⟩
theorem tk_12 : uN cS 129 (2, 32) = (2, 34) ∧ uT cS 129 (2, 32) = 2 ∧ uS cS 129 (2, 32) = 33 ∧ uE cS 129 (2, 32) = 34 := by
  have a : uT cS 129 (2, 32) = 2 := (nT_eq (ty := 2) (e := 32) (by decide)).trans (by decide +kernel)
  have b : uE cS 129 (2, 32) = 34 := (nE_eq (e := 32) (by decide)).trans (by decide +kernel)
  exact ⟨by unfold uN; rw [a, b], a, (nS_eq (e := 32) (by decide)).trans (by decide +kernel), b⟩
theorem tk_13 : uN cS 129 (2, 34) = (2, 36) ∧ uT cS 129 (2, 34) = 2 ∧ uS cS 129 (2, 34) = 35 ∧ uE cS 129 (2, 34) = 36 := by
  have a : uT cS 129 (2, 34) = 2 := (nT_eq (ty := 2) (e := 34) (by decide)).trans (by decide +kernel)
  have b : uE cS 129 (2, 34) = 36 := (nE_eq (e := 34) (by decide)).trans (by decide +kernel)
  exact ⟨by unfold uN; rw [a, b], a, (nS_eq (e := 34) (by decide)).trans (by decide +kernel), b⟩
theorem tk_14 : uN cS 129 (2, 36) = (3, 37) ∧ uT cS 129 (2, 36) = 3 ∧ uS cS 129 (2, 36) = 36 ∧ uE cS 129 (2, 36) = 37 := by
  have a : uT cS 129 (2, 36) = 3 := (nT_eq (ty := 2) (e := 36) (by decide)).trans (by decide +kernel)
  have b : uE cS 129 (2, 36) = 37 := (nE_eq (e := 36) (by decide)).trans (by decide +kernel)
  exact ⟨by unfold uN; rw [a, b], a, (nS_eq (e := 36) (by decide)).trans (by decide +kernel), b⟩
theorem tk_15 : uN cS 129 (3, 37) = (1, 41) ∧ uT cS 129 (3, 37) = 1 ∧ uS cS 129 (3, 37) = 38 ∧ uE cS 129 (3, 37) = 41 := by
  have a : uT cS 129 (3, 37) = 1 := (nT_eq (ty := 3) (e := 37) (by decide)).trans (by decide +kernel)
  have b : uE cS 129 (3, 37) = 41 := (nE_eq (e := 37) (by decide)).trans (by decide +kernel)
  exact ⟨by unfold uN; rw [a, b], a, (nS_eq (e := 37) (by decide)).trans (by decide +kernel), b⟩
theorem tk_16 : uN cS 129 (1, 41) = (2, 43) ∧ uT cS 129 (1, 41) = 2 ∧ uS cS 129 (1, 41) = 42 ∧ uE cS 129 (1, 41) = 43 := by
  have a : uT cS 129 (1, 41) = 2 := (nT_eq (ty := 1) (e := 41) (by decide)).trans (by decide +kernel)
  have b : uE cS 129 (1, 41) = 43 := (nE_eq (e := 41) (by decide)).trans (by decide +kernel)
  exact ⟨by unfold uN; rw [a, b], a, (nS_eq (e := 41) (by decide)).trans (by decide +kernel), b⟩
theorem tk_17 : uN cS 129 (2, 43) = (1, 45) ∧ uT cS 129 (2, 43) = 1 ∧ uS cS 129 (2, 43) = 44 ∧ uE cS 129 (2, 43) = 45 := by
  have a : uT cS 129 (2, 43) = 1 := (nT_eq (ty := 2) (e := 43) (by decide)).trans (by decide +kernel)
  have b : uE cS 129 (2, 43) = 45 := (nE_eq (e := 43) (by decide)).trans (by decide +kernel)
  exact ⟨by unfold uN; rw [a, b], a, (nS_eq (e := 43) (by decide)).trans (by decide +kernel), b⟩
theorem tk_18 : uN cS 129 (1, 45) = (3, 46) ∧ uT cS 129 (1, 45) = 3 ∧ uS cS 129 (1, 45) = 45 ∧ uE cS 129 (1, 45) = 46 := by
  have a : uT cS 129 (1, 45) = 3 := (nT_eq (ty := 1) (e := 45) (by decide)).trans (by decide +kernel)
  have b : uE cS 129 (1, 45) = 46 := (nE_eq (e := 45) (by decide)).trans (by decide +kernel)
  exact ⟨by unfold uN; rw [a, b], a, (nS_eq (e := 45) (by decide)).trans (by decide +kernel), b⟩
theorem tk_19 : uN cS 129 (3, 46) = (1, 50) ∧ uT cS 129 (3, 46) = 1 ∧ uS cS 129 (3, 46) = 47 ∧ uE cS 129 (3, 46) = 50 := by
  have a : uT cS 129 (3, 46) = 1 := (nT_eq (ty := 3) (e := 46) (by decide)).trans (by decide +kernel)
  have b : uE cS 129 (3, 46) = 50 := (nE_eq (e := 46) (by decide)).trans (by decide +kernel)
  exact ⟨by unfold uN; rw [a, b], a, (nS_eq (e := 46) (by decide)).trans (by decide +kernel), b⟩
theorem tk_20 : uN cS 129 (1, 50) = (2, 52) ∧ uT cS 129 (1, 50) = 2 ∧ uS cS 129 (1, 50) = 51 ∧ uE cS 129 (1, 50) = 52 := by
  have a : uT cS 129 (1, 50) = 2 := (nT_eq (ty := 1) (e := 50) (by decide)).trans (by decide +kernel)
  have b : uE cS 129 (1, 50) = 52 := (nE_eq (e := 50) (by decide)).trans (by decide +kernel)
  exact ⟨by unfold uN; rw [a, b], a, (nS_eq (e := 50) (by decide)).trans (by decide +kernel), b⟩
theorem tk_21 : uN cS 129 (2, 52) = (1, 54) ∧ uT cS 129 (2, 52) = 1 ∧ uS cS 129 (2, 52) = 53 ∧ uE cS 129 (2, 52) = 54 := by
  have a : uT cS 129 (2, 52) = 1 := (nT_eq (ty := 2) (e := 52) (by decide)).trans (by decide +kernel)
  have b : uE cS 129 (2, 52) = 54 := (nE_eq (e := 52) (by decide)).trans (by decide +kernel)
  exact ⟨by unfold uN; rw [a, b], a, (nS_eq (e := 52) (by decide)).trans (by decide +kernel), b⟩
theorem tk_22 : uN cS 129 (1, 54) = (3, 55) ∧ uT cS 129 (1, 54) = 3 ∧ uS cS 129 (1, 54) = 54 ∧ uE cS 129 (1, 54) = 55 := by
  have a : uT cS 129 (1, 54) = 3 := (nT_eq (ty := 1) (e := 54) (by decide)).trans (by decide +kernel)
  have b : uE cS 129 (1, 54) = 55 := (nE_eq (e := 54) (by decide)).trans (by decide +kernel)
  exact ⟨by unfold uN; rw [a, b], a, (nS_eq (e := 54) (by decide)).trans (by decide +kernel), b⟩
theorem tk_23 : uN cS 129 (3, 55) = (1, 60) ∧ uT cS 129 (3, 55) = 1 ∧ uS cS 129 (3, 55) = 56 ∧ uE cS 129 (3, 55) = 60 := by
  have a : uT cS 129 (3, 55) = 1 := (nT_eq (ty := 3) (e := 55) (by decide)).trans (by decide +kernel)
  have b : uE cS 129 (3, 55) = 60 := (nE_eq (e := 55) (by decide)).trans (by decide +kernel)
  exact ⟨by unfold uN; rw [a, b], a, (nS_eq (e := 55) (by decide)).trans (by decide +kernel), b⟩
theorem tk_24 : uN cS 129 (1, 60) = (2, 62) ∧ uT cS 129 (1, 60) = 2 ∧ uS cS 129 (1, 60) = 61 ∧ uE cS 129 (1, 60) = 62 := by
  have a : uT cS 129 (1, 60) = 2 := (nT_eq (ty := 1) (e := 60) (by decide)).trans (by decide +kernel)
  have b : uE cS 129 (1, 60) = 62 := (nE_eq (e := 60) (by decide)).trans (by decide +kernel)
  exact ⟨by unfold uN; rw [a, b], a, (nS_eq (e := 60) (by decide)).trans (by decide +kernel), b⟩
theorem tk_25 : uN cS 129 (2, 62) = (3, 63) ∧ uT cS 129 (2, 62) = 3 ∧ uS cS 129 (2, 62) = 62 ∧ uE cS 129 (2, 62) = 63 := by
  have a : uT cS 129 (2, 62) = 3 := (nT_eq (ty := 2) (e := 62) (by decide)).trans (by decide +kernel)
  have b : uE cS 129 (2, 62) = 63 := (nE_eq (e := 62) (by decide)).trans (by decide +kernel)
  exact ⟨by unfold uN; rw [a, b], a, (nS_eq (e := 62) (by decide)).trans (by decide +kernel), b⟩
theorem tk_26 : uN cS 129 (3, 63) = (1, 69) ∧ uT cS 129 (3, 63) = 1 ∧ uS cS 129 (3, 63) = 64 ∧ uE cS 129 (3, 63) = 69 := by
  have a : uT cS 129 (3, 63) = 1 := (nT_eq (ty := 3) (e := 63) (by decide)).trans (by decide +kernel)
  have b : uE cS 129 (3, 63) = 69 := (nE_eq (e := 63) (by decide)).trans (by decide +kernel)
  exact ⟨by unfold uN; rw [a, b], a, (nS_eq (e := 63) (by decide)).trans (by decide +kernel), b⟩
theorem tk_27 : uN cS 129 (1, 69) = (2, 71) ∧ uT cS 129 (1, 69) = 2 ∧ uS cS 129 (1, 69) = 70 ∧ uE cS 129 (1, 69) = 71 := by
  have a : uT cS 129 (1, 69) = 2 := (nT_eq (ty := 1) (e := 69) (by decide)).trans (by decide +kernel)
  have b : uE cS 129 (1, 69) = 71 := (nE_eq (e := 69) (by decide)).trans (by decide +kernel)
  exact ⟨by unfold uN; rw [a, b], a, (nS_eq (e := 69) (by decide)).trans (by decide +kernel), b⟩
theorem tk_28 : uN cS 129 (2, 71) = (2, 73) ∧ uT cS 129 (2, 71) = 2 ∧ uS cS 129 (2, 71) = 72 ∧ uE cS 129 (2, 71) = 73 := by
  have a : uT cS 129 (2, 71) = 2 := (nT_eq (ty := 2) (e := 71) (by decide)).trans (by decide +kernel)
  have b : uE cS 129 (2, 71) = 73 := (nE_eq (e := 71) (by decide)).trans (by decide +kernel)
  exact ⟨by unfold uN; rw [a, b], a, (nS_eq (e := 71) (by decide)).trans (by decide +kernel), b⟩
theorem tk_29 : uN cS 129 (2, 73) = (3, 74) ∧ uT cS 129 (2, 73) = 3 ∧ uS cS 129 (2, 73) = 73 ∧ uE cS 129 (2, 73) = 74 := by
  have a : uT cS 129 (2, 73) = 3 := (nT_eq (ty := 2) (e := 73) (by decide)).trans (by decide +kernel)
  have b : uE cS 129 (2, 73) = 74 := (nE_eq (e := 73) (by decide)).trans (by decide +kernel)
  exact ⟨by unfold uN; rw [a, b], a, (nS_eq (e := 73) (by decide)).trans (by decide +kernel), b⟩
theorem tk_30 : uN cS 129 (3, 74) = (1, 81) ∧ uT cS 129 (3, 74) = 1 ∧ uS cS 129 (3, 74) = 75 ∧ uE cS 129 (3, 74) = 81 := by
  have a : uT cS 129 (3, 74) = 1 := (nT_eq (ty := 3) (e := 74) (by decide)).trans (by decide +kernel)
  have b : uE cS 129 (3, 74) = 81 := (nE_eq (e := 74) (by decide)).trans (by decide +kernel)
  exact ⟨by unfold uN; rw [a, b], a, (nS_eq (e := 74) (by decide)).trans (by decide +kernel), b⟩
theorem tk_31 : uN cS 129 (1, 81) = (2, 83) ∧ uT cS 129 (1, 81) = 2 ∧ uS cS 129 (1, 81) = 82 ∧ uE cS 129 (1, 81) = 83 := by
  have a : uT cS 129 (1, 81) = 2 := (nT_eq (ty := 1) (e := 81) (by decide)).trans (by decide +kernel)
  have b : uE cS 129 (1, 81) = 83 := (nE_eq (e := 81) (by decide)).trans (by decide +kernel)
  exact ⟨by unfold uN; rw [a, b], a, (nS_eq (e := 81) (by decide)).trans (by decide +kernel), b⟩
theorem tk_32 : uN cS 129 (2, 83) = (1, 85) ∧ uT cS 129 (2, 83) = 1 ∧ uS cS 129 (2, 83) = 84 ∧ uE cS 129 (2, 83) = 85 := by
  have a : uT cS 129 (2, 83) = 1 := (nT_eq (ty := 2) (e := 83) (by decide)).trans (by decide +kernel)
  have b : uE cS 129 (2, 83) = 85 := (nE_eq (e := 83) (by decide)).trans (by decide +kernel)
  exact ⟨by unfold uN; rw [a, b], a, (nS_eq (e := 83) (by decide)).trans (by decide +kernel), b⟩
theorem tk_33 : uN cS 129 (1, 85) = (3, 86) ∧ uT cS 129 (1, 85) = 3 ∧ uS cS 129 (1, 85) = 85 ∧ uE cS 129 (1, 85) = 86 := by
  have a : uT cS 129 (1, 85) = 3 := (nT_eq (ty := 1) (e := 85) (by decide)).trans (by decide +kernel)
  have b : uE cS 129 (1, 85) = 86 := (nE_eq (e := 85) (by decide)).trans (by decide +kernel)
  exact ⟨by unfold uN; rw [a, b], a, (nS_eq (e := 85) (by decide)).trans (by decide +kernel), b⟩
theorem tk_34 : uN cS 129 (3, 86) = (1, 90) ∧ uT cS 129 (3, 86) = 1 ∧ uS cS 129 (3, 86) = 87 ∧ uE cS 129 (3, 86) = 90 := by
  have a : uT cS 129 (3, 86) = 1 := (nT_eq (ty := 3) (e := 86) (by decide)).trans (by decide +kernel)
  have b : uE cS 129 (3, 86) = 90 := (nE_eq (e := 86) (by decide)).trans (by decide +kernel)
  exact ⟨by unfold uN; rw [a, b], a, (nS_eq (e := 86) (by decide)).trans (by decide +kernel), b⟩
theorem tk_35 : uN cS 129 (1, 90) = (2, 92) ∧ uT cS 129 (1, 90) = 2 ∧ uS cS 129 (1, 90) = 91 ∧ uE cS 129 (1, 90) = 92 := by
  have a : uT cS 129 (1, 90) = 2 := (nT_eq (ty := 1) (e := 90) (by decide)).trans (by decide +kernel)
  have b : uE cS 129 (1, 90) = 92 := (nE_eq (e := 90) (by decide)).trans (by decide +kernel)
  exact ⟨by unfold uN; rw [a, b], a, (nS_eq (e := 90) (by decide)).trans (by decide +kernel), b⟩
theorem tk_36 : uN cS 129 (2, 92) = (1, 94) ∧ uT cS 129 (2, 92) = 1 ∧ uS cS 129 (2, 92) = 93 ∧ uE cS 129 (2, 92) = 94 := by
  have a : uT cS 129 (2, 92) = 1 := (nT_eq (ty := 2) (e := 92) (by decide)).trans (by decide +kernel)
  have b : uE cS 129 (2, 92) = 94 := (nE_eq (e := 92) (by decide)).trans (by decide +kernel)
  exact ⟨by unfold uN; rw [a, b], a, (nS_eq (e := 92) (by decide)).trans (by decide +kernel), b⟩
theorem tk_37 : uN cS 129 (1, 94) = (3, 95) ∧ uT cS 129 (1, 94) = 3 ∧ uS cS 129 (1, 94) = 94 ∧ uE cS 129 (1, 94) = 95 := by
  have a : uT cS 129 (1, 94) = 3 := (nT_eq (ty := 1) (e := 94) (by decide)).trans (by decide +kernel)
  have b : uE cS 129 (1, 94) = 95 := (nE_eq (e := 94) (by decide)).trans (by decide +kernel)
  exact ⟨by unfold uN; rw [a, b], a, (nS_eq (e := 94) (by decide)).trans (by decide +kernel), b⟩
theorem tk_38 : uN cS 129 (3, 95) = (1, 101) ∧ uT cS 129 (3, 95) = 1 ∧ uS cS 129 (3, 95) = 96 ∧ uE cS 129 (3, 95) = 101 := by
  have a : uT cS 129 (3, 95) = 1 := (nT_eq (ty := 3) (e := 95) (by decide)).trans (by decide +kernel)
  have b : uE cS 129 (3, 95) = 101 := (nE_eq (e := 95) (by decide)).trans (by decide +kernel)
  exact ⟨by unfold uN; rw [a, b], a, (nS_eq (e := 95) (by decide)).trans (by decide +kernel), b⟩
theorem tk_39 : uN cS 129 (1, 101) = (2, 103) ∧ uT cS 129 (1, 101) = 2 ∧ uS cS 129 (1, 101) = 102 ∧ uE cS 129 (1, 101) = 103 := by
  have a : uT cS 129 (1, 101) = 2 := (nT_eq (ty := 1) (e := 101) (by decide)).trans (by decide +kernel)
  have b : uE cS 129 (1, 101) = 103 := (nE_eq (e := 101) (by decide)).trans (by decide +kernel)
  exact ⟨by unfold uN; rw [a, b], a, (nS_eq (e := 101) (by decide)).trans (by decide +kernel), b⟩
theorem tk_40 : uN cS 129 (2, 103) = (2, 105) ∧ uT cS 129 (2, 103) = 2 ∧ uS cS 129 (2, 103) = 104 ∧ uE cS 129 (2, 103) = 105 := by
  have a : uT cS 129 (2, 103) = 2 := (nT_eq (ty := 2) (e := 103) (by decide)).trans (by decide +kernel)
  have b : uE cS 129 (2, 103) = 105 := (nE_eq (e := 103) (by decide)).trans (by decide +kernel)
  exact ⟨by unfold uN; rw [a, b], a, (nS_eq (e := 103) (by decide)).trans (by decide +kernel), b⟩
theorem tk_41 : uN cS 129 (2, 105) = (2, 107) ∧ uT cS 129 (2, 105) = 2 ∧ uS cS 129 (2, 105) = 106 ∧ uE cS 129 (2, 105) = 107 := by
  have a : uT cS 129 (2, 105) = 2 := (nT_eq (ty := 2) (e := 105) (by decide)).trans (by decide +kernel)
  have b : uE cS 129 (2, 105) = 107 := (nE_eq (e := 105) (by decide)).trans (by decide +kernel)
  exact ⟨by unfold uN; rw [a, b], a, (nS_eq (e := 105) (by decide)).trans (by decide +kernel), b⟩
theorem tk_42 : uN cS 129 (2, 107) = (3, 108) ∧ uT cS 129 (2, 107) = 3 ∧ uS cS 129 (2, 107) = 107 ∧ uE cS 129 (2, 107) = 108 := by
  have a : uT cS 129 (2, 107) = 3 := (nT_eq (ty := 2) (e := 107) (by decide)).trans (by decide +kernel)
  have b : uE cS 129 (2, 107) = 108 := (nE_eq (e := 107) (by decide)).trans (by decide +kernel)
  exact ⟨by unfold uN; rw [a, b], a, (nS_eq (e := 107) (by decide)).trans (by decide +kernel), b⟩
theorem tk_43 : uN cS 129 (3, 108) = (1, 114) ∧ uT cS 129 (3, 108) = 1 ∧ uS cS 129 (3, 108) = 109 ∧ uE cS 129 (3, 108) = 114 := by
  have a : uT cS 129 (3, 108) = 1 := (nT_eq (ty := 3) (e := 108) (by decide)).trans (by decide +kernel)
  have b : uE cS 129 (3, 108) = 114 := (nE_eq (e := 108) (by decide)).trans (by decide +kernel)
  exact ⟨by unfold uN; rw [a, b], a, (nS_eq (e := 108) (by decide)).trans (by decide +kernel), b⟩
theorem tk_44 : uN cS 129 (1, 114) = (2, 116) ∧ uT cS 129 (1, 114) = 2 ∧ uS cS 129 (1, 114) = 115 ∧ uE cS 129 (1, 114) = 116 := by
  have a : uT cS 129 (1, 114) = 2 := (nT_eq (ty := 1) (e := 114) (by decide)).trans (by decide +kernel)
  have b : uE cS 129 (1, 114) = 116 := (nE_eq (e := 114) (by decide)).trans (by decide +kernel)
  exact ⟨by unfold uN; rw [a, b], a, (nS_eq (e := 114) (by decide)).trans (by decide +kernel), b⟩
theorem tk_45 : uN cS 129 (2, 116) = (2, 118) ∧ uT cS 129 (2, 116) = 2 ∧ uS cS 129 (2, 116) = 117 ∧ uE cS 129 (2, 116) = 118 := by
  have a : uT cS 129 (2, 116) = 2 := (nT_eq (ty := 2) (e := 116) (by decide)).trans (by decide +kernel)
  have b : uE cS 129 (2, 116) = 118 := (nE_eq (e := 116) (by decide)).trans (by decide +kernel)
  exact ⟨by unfold uN; rw [a, b], a, (nS_eq (e := 116) (by decide)).trans (by decide +kernel), b⟩
theorem tk_46 : uN cS 129 (2, 118) = (2, 120) ∧ uT cS 129 (2, 118) = 2 ∧ uS cS 129 (2, 118) = 119 ∧ uE cS 129 (2, 118) = 120 := by
  have a : uT cS 129 (2, 118) = 2 := (nT_eq (ty := 2) (e := 118) (by decide)).trans (by decide +kernel)
  have b : uE cS 129 (2, 118) = 120 := (nE_eq (e := 118) (by decide)).trans (by decide +kernel)
  exact ⟨by unfold uN; rw [a, b], a, (nS_eq (e := 118) (by decide)).trans (by decide +kernel), b⟩
theorem tk_47 : uN cS 129 (2, 120) = (3, 121) ∧ uT cS 129 (2, 120) = 3 ∧ uS cS 129 (2, 120) = 120 ∧ uE cS 129 (2, 120) = 121 := by
  have a : uT cS 129 (2, 120) = 3 := (nT_eq (ty := 2) (e := 120) (by decide)).trans (by decide +kernel)
  have b : uE cS 129 (2, 120) = 121 := (nE_eq (e := 120) (by decide)).trans (by decide +kernel)
  exact ⟨by unfold uN; rw [a, b], a, (nS_eq (e := 120) (by decide)).trans (by decide +kernel), b⟩
theorem tk_48 : uN cS 129 (3, 121) = (1, 125) ∧ uT cS 129 (3, 121) = 1 ∧ uS cS 129 (3, 121) = 122 ∧ uE cS 129 (3, 121) = 125 := by
  have a : uT cS 129 (3, 121) = 1 := (nT_eq (ty := 3) (e := 121) (by decide)).trans (by decide +kernel)
  have b : uE cS 129 (3, 121) = 125 := (nE_eq (e := 121) (by decide)).trans (by decide +kernel)
  exact ⟨by unfold uN; rw [a, b], a, (nS_eq (e := 121) (by decide)).trans (by decide +kernel), b⟩
theorem tk_49 : uN cS 129 (1, 125) = (2, 127) ∧ uT cS 129 (1, 125) = 2 ∧ uS cS 129 (1, 125) = 126 ∧ uE cS 129 (1, 125) = 127 := by
  have a : uT cS 129 (1, 125) = 2 := (nT_eq (ty := 1) (e := 125) (by decide)).trans (by decide +kernel)
  have b : uE cS 129 (1, 125) = 127 := (nE_eq (e := 125) (by decide)).trans (by decide +kernel)
  exact ⟨by unfold uN; rw [a, b], a, (nS_eq (e := 125) (by decide)).trans (by decide +kernel), b⟩
theorem tk_50 : uN cS 129 (2, 127) = (1, 129) ∧ uT cS 129 (2, 127) = 1 ∧ uS cS 129 (2, 127) = 128 ∧ uE cS 129 (2, 127) = 129 := by
  have a : uT cS 129 (2, 127) = 1 := (nT_eq (ty := 2) (e := 127) (by decide)).trans (by decide +kernel)
  have b : uE cS 129 (2, 127) = 129 := (nE_eq (e := 127) (by decide)).trans (by decide +kernel)
  exact ⟨by unfold uN; rw [a, b], a, (nS_eq (e := 127) (by decide)).trans (by decide +kernel), b⟩
theorem tk_51 : uN cS 129 (1, 129) = (0, 129) ∧ uT cS 129 (1, 129) = 0 ∧ uS cS 129 (1, 129) = 129 ∧ uE cS 129 (1, 129) = 129 := by
  have a : uT cS 129 (1, 129) = 0 := (nT_eq (ty := 1) (e := 129) (by decide)).trans (by decide +kernel)
  have b : uE cS 129 (1, 129) = 129 := (nE_eq (e := 129) (by decide)).trans (by decide +kernel)
  exact ⟨by unfold uN; rw [a, b], a, (nS_eq (e := 129) (by decide)).trans (by decide +kernel), b⟩
theorem nuV_eq {s n : Nat} (h : s + n ≤ 129) : nuV cS s n = nuV cT s n := by
  induction n with
  | zero => rfl
  | succ n ih => show (nuV cS s n * 10 + cS (s + n)) - 48 = (nuV cT s n * 10 + cT (s + n)) - 48; rw [ih (by omega), cS_at (by omega)]
theorem num_S {q q' : Cur} {s e : Nat} {lo hi : Int32} (v : Int32) (h : uN cS 129 q = q' ∧ uT cS 129 q = 2 ∧ uS cS 129 q = s ∧ uE cS 129 q = e) (he : e ≤ 129 ∧ s ≤ e) (hv : nuV cT s (e - s) = v) (h1 : lo ≤ v) (h2 : v ≤ hi) : numR cS 129 q lo hi = .inr v := by
  unfold numR uV
  rw [h.2.2.1, h.2.2.2, nuV_eq (by omega), hv, cif_t h.2.1, cif_t ⟨h1, h2⟩]
theorem tag_S {q q' : Cur} {s e : Nat} (v : Int32) (h : uN cS 129 q = q' ∧ uT cS 129 q = 1 ∧ uS cS 129 q = s ∧ uE cS 129 q = e) (he : e - s = 1 ∧ s < 129) (hv : cT s - 97 = v ∧ cT s < 113) : tagR cS 129 q = .inr v := by
  unfold tagR
  rw [h.2.2.1, h.2.2.2, cS_at (by omega), hv.1, cif_t ⟨h.2.1, he.1, hv.2⟩]
theorem isW_S {q q' : Cur} {s e w : Nat} (h : uN cS 129 q = q' ∧ uT cS 129 q = 1 ∧ uS cS 129 q = s ∧ uE cS 129 q = e) (he : s + (e - s) ≤ 129) (hl : e - s = sLEN.getD w 0) (hv : ∀ i : Fin (e - s), cT (s + i.val) = jByt w i.val) : isW cS 129 w q := by
  refine ⟨h.2.1, by rw [h.2.2.1, h.2.2.2]; exact hl, fun i hi => ?_⟩
  rw [h.2.2.1, cS_at (by omega)]
  exact hv ⟨i, by omega⟩
theorem isW_N {q q' : Cur} {s e w : Nat} (h : uN cS 129 q = q' ∧ uT cS 129 q = 1 ∧ uS cS 129 q = s ∧ uE cS 129 q = e) (i : Nat) (hi : s + i < 129) (hv : ¬ (e - s = sLEN.getD w 0 ∧ (i < sLEN.getD w 0 → cT (s + i) = jByt w i))) : ¬ isW cS 129 w q := by
  intro ⟨_, h2, h3⟩
  rw [h.2.2.1, h.2.2.2] at h2
  refine hv ⟨h2, fun hi2 => ?_⟩
  have := h3 i hi2
  rwa [h.2.2.1, cS_at (by omega)] at this
def gS0 : GF := hdG (fun _ => 0) 3 2 1
theorem hd_S : headR cS 129 (fun _ => 0) = .inr (gS0, (2, 14)) := by
  unfold headR cur0
  rw [cif_t (isW_S tk_0 (by decide) (by decide +kernel) (by decide +kernel)), tk_0.1, num_S 3 tk_1 (by decide) (by decide +kernel) (by decide) (by decide), tk_1.1]
  show (sb (numR cS 129 (2, 10) 0 4) _) = _
  rw [num_S 2 tk_2 (by decide) (by decide +kernel) (by decide) (by decide), tk_2.1]
  show (sb (numR cS 129 (2, 12) 0 4) _) = _
  rw [num_S 1 tk_3 (by decide) (by decide +kernel) (by decide) (by decide), tk_3.1]
  rfl
def gS1 : GF := cntG gS0 4 0 0 5
theorem ln_1 : lineR cS 129 gS0 (3, 15) = .inr (gS1, (2, 25)) := by
  unfold lineR
  rw [cif_t (isW_S tk_5 (by decide) (by decide +kernel) (by decide +kernel)), tk_5.1]
  unfold lCnt
  rw [num_S 0 tk_6 (by decide) (by decide +kernel) (by decide) (by decide +kernel)]
  show sb (numR cS 129 (uN cS 129 (1, 19)) 0 (gS0 1 - 1)) _ = _
  rw [tk_6.1, num_S 0 tk_7 (by decide) (by decide +kernel) (by decide) (by decide +kernel)]
  show sb (numR cS 129 (uN cS 129 (2, 21)) 1 99) _ = _
  rw [tk_7.1, num_S 5 tk_8 (by decide) (by decide +kernel) (by decide) (by decide +kernel), tk_8.1]
  rfl
def gS2 : GF := cntG gS1 20 1 0 2
theorem ln_2 : lineR cS 129 gS1 (3, 26) = .inr (gS2, (2, 36)) := by
  unfold lineR
  rw [cif_f (isW_N tk_10 0 (by decide) (by decide +kernel)), cif_t (isW_S tk_10 (by decide) (by decide +kernel) (by decide +kernel)), tk_10.1]
  unfold lCnt
  rw [num_S 1 tk_11 (by decide) (by decide +kernel) (by decide) (by decide +kernel)]
  show sb (numR cS 129 (uN cS 129 (1, 30)) 0 (gS1 1 - 1)) _ = _
  rw [tk_11.1, num_S 0 tk_12 (by decide) (by decide +kernel) (by decide) (by decide +kernel)]
  show sb (numR cS 129 (uN cS 129 (2, 32)) 1 99) _ = _
  rw [tk_12.1, num_S 2 tk_13 (by decide) (by decide +kernel) (by decide) (by decide +kernel), tk_13.1]
  rfl
def gS3 : GF := put gS2 0 (newN (row gS2 0) (36 + 4 * 0) 0 0 4)
theorem ln_3 : lineR cS 129 gS2 (3, 37) = .inr (gS3, (1, 45)) := by
  unfold lineR
  rw [cif_f (isW_N tk_15 0 (by decide) (by decide +kernel)), cif_f (isW_N tk_15 0 (by decide) (by decide +kernel)), cif_t (isW_S tk_15 (by decide) (by decide +kernel) (by decide +kernel)), tk_15.1]
  unfold lAdd
  rw [num_S 0 tk_16 (by decide) (by decide +kernel) (by decide) (by decide +kernel)]
  show sb (tagR cS 129 (uN cS 129 (1, 41))) _ = _
  rw [tk_16.1, tag_S 0 tk_17 (by decide) (by decide +kernel), tk_17.1]
  rfl
def gS4 : GF := put gS3 1 (newN (row gS3 1) (36 + 4 * 1) 1 0 4)
theorem ln_4 : lineR cS 129 gS3 (3, 46) = .inr (gS4, (1, 54)) := by
  unfold lineR
  rw [cif_f (isW_N tk_19 0 (by decide) (by decide +kernel)), cif_f (isW_N tk_19 0 (by decide) (by decide +kernel)), cif_t (isW_S tk_19 (by decide) (by decide +kernel) (by decide +kernel)), tk_19.1]
  unfold lAdd
  rw [num_S 1 tk_20 (by decide) (by decide +kernel) (by decide) (by decide +kernel)]
  show sb (tagR cS 129 (uN cS 129 (1, 50))) _ = _
  rw [tk_20.1, tag_S 1 tk_21 (by decide) (by decide +kernel), tk_21.1]
  rfl
def gS5 : GF := sendG gS4 0
theorem ln_5 : lineR cS 129 gS4 (3, 55) = .inr (gS5, (2, 62)) := by
  unfold lineR
  rw [cif_f (isW_N tk_23 0 (by decide) (by decide +kernel)), cif_f (isW_N tk_23 0 (by decide) (by decide +kernel)), cif_f (isW_N tk_23 0 (by decide) (by decide +kernel)), cif_f (isW_N tk_23 0 (by decide) (by decide +kernel)), cif_f (isW_N tk_23 0 (by decide) (by decide +kernel)), cif_f (isW_N tk_23 0 (by decide) (by decide +kernel)), cif_t (isW_S tk_23 (by decide) (by decide +kernel) (by decide +kernel))]
  unfold lSen
  rw [if_neg (by decide +kernel), tk_23.1, num_S 0 tk_24 (by decide) (by decide +kernel) (by decide) (by decide +kernel), tk_24.1]
  rfl
def gS6 : GF := put gS5 1 (absR (row gS5 1) (row gS5 0))
theorem ln_6 : lineR cS 129 gS5 (3, 63) = .inr (gS6, (2, 73)) := by
  unfold lineR
  rw [cif_f (isW_N tk_26 0 (by decide) (by decide +kernel)), cif_f (isW_N tk_26 0 (by decide) (by decide +kernel)), cif_f (isW_N tk_26 0 (by decide) (by decide +kernel)), cif_f (isW_N tk_26 0 (by decide) (by decide +kernel)), cif_f (isW_N tk_26 0 (by decide) (by decide +kernel)), cif_t (isW_S tk_26 (by decide) (by decide +kernel) (by decide +kernel)), tk_26.1]
  unfold lMer
  rw [num_S 1 tk_27 (by decide) (by decide +kernel) (by decide) (by decide +kernel)]
  show sb (numR cS 129 (uN cS 129 (1, 69)) 0 (gS5 0 - 1)) _ = _
  rw [tk_27.1, num_S 0 tk_28 (by decide) (by decide +kernel) (by decide) (by decide +kernel), tk_28.1]
  rfl
def gS7 : GF := put gS6 1 (zap (row gS6 1) (36 + 4 * 0) 4)
theorem ln_7 : lineR cS 129 gS6 (3, 74) = .inr (gS7, (1, 85)) := by
  unfold lineR
  rw [cif_f (isW_N tk_30 0 (by decide) (by decide +kernel)), cif_f (isW_N tk_30 0 (by decide) (by decide +kernel)), cif_f (isW_N tk_30 0 (by decide) (by decide +kernel)), cif_t (isW_S tk_30 (by decide) (by decide +kernel) (by decide +kernel)), tk_30.1]
  unfold lRem
  rw [num_S 1 tk_31 (by decide) (by decide +kernel) (by decide) (by decide +kernel)]
  show sb (tagR cS 129 (uN cS 129 (1, 81))) _ = _
  rw [tk_31.1, tag_S 0 tk_32 (by decide) (by decide +kernel), tk_32.1]
  unfold sb
  dsimp only
  rw [if_neg (show ¬ lve (row gS6 (tn 1)) (36 + 4 * tn 0) = 0 by decide +kernel)]
  rfl
def gS8 : GF := put gS7 0 (newN (row gS7 0) (36 + 4 * 0) 0 0 4)
theorem ln_8 : lineR cS 129 gS7 (3, 86) = .inr (gS8, (1, 94)) := by
  unfold lineR
  rw [cif_f (isW_N tk_34 0 (by decide) (by decide +kernel)), cif_f (isW_N tk_34 0 (by decide) (by decide +kernel)), cif_t (isW_S tk_34 (by decide) (by decide +kernel) (by decide +kernel)), tk_34.1]
  unfold lAdd
  rw [num_S 0 tk_35 (by decide) (by decide +kernel) (by decide) (by decide +kernel)]
  show sb (tagR cS 129 (uN cS 129 (1, 90))) _ = _
  rw [tk_35.1, tag_S 0 tk_36 (by decide) (by decide +kernel), tk_36.1]
  rfl
def gS9 : GF := put gS8 0 (newN (row gS8 0) (100 + 4 * 0) 0 7 4)
theorem ln_9 : lineR cS 129 gS8 (3, 95) = .inr (gS9, (2, 107)) := by
  unfold lineR
  rw [cif_f (isW_N tk_38 0 (by decide) (by decide +kernel)), cif_f (isW_N tk_38 0 (by decide) (by decide +kernel)), cif_f (isW_N tk_38 0 (by decide) (by decide +kernel)), cif_f (isW_N tk_38 0 (by decide) (by decide +kernel)), cif_t (isW_S tk_38 (by decide) (by decide +kernel) (by decide +kernel)), tk_38.1]
  unfold lWri
  rw [num_S 0 tk_39 (by decide) (by decide +kernel) (by decide) (by decide +kernel)]
  show sb (numR cS 129 (uN cS 129 (1, 101)) 0 (gS8 2 - 1)) _ = _
  rw [tk_39.1, num_S 0 tk_40 (by decide) (by decide +kernel) (by decide) (by decide +kernel)]
  show sb (numR cS 129 (uN cS 129 (2, 103)) 0 99) _ = _
  rw [tk_40.1, num_S 7 tk_41 (by decide) (by decide +kernel) (by decide) (by decide +kernel), tk_41.1]
  rfl
def gS10 : GF := put gS9 2 (newN (row gS9 2) (100 + 4 * 0) 2 9 4)
theorem ln_10 : lineR cS 129 gS9 (3, 108) = .inr (gS10, (2, 120)) := by
  unfold lineR
  rw [cif_f (isW_N tk_43 0 (by decide) (by decide +kernel)), cif_f (isW_N tk_43 0 (by decide) (by decide +kernel)), cif_f (isW_N tk_43 0 (by decide) (by decide +kernel)), cif_f (isW_N tk_43 0 (by decide) (by decide +kernel)), cif_t (isW_S tk_43 (by decide) (by decide +kernel) (by decide +kernel)), tk_43.1]
  unfold lWri
  rw [num_S 2 tk_44 (by decide) (by decide +kernel) (by decide) (by decide +kernel)]
  show sb (numR cS 129 (uN cS 129 (1, 114)) 0 (gS9 2 - 1)) _ = _
  rw [tk_44.1, num_S 0 tk_45 (by decide) (by decide +kernel) (by decide) (by decide +kernel)]
  show sb (numR cS 129 (uN cS 129 (2, 116)) 0 99) _ = _
  rw [tk_45.1, num_S 9 tk_46 (by decide) (by decide +kernel) (by decide) (by decide +kernel), tk_46.1]
  rfl
def gS11 : GF := put gS10 2 (newN (row gS10 2) (36 + 4 * 2) 2 0 4)
theorem ln_11 : lineR cS 129 gS10 (3, 121) = .inr (gS11, (1, 129)) := by
  unfold lineR
  rw [cif_f (isW_N tk_48 0 (by decide) (by decide +kernel)), cif_f (isW_N tk_48 0 (by decide) (by decide +kernel)), cif_t (isW_S tk_48 (by decide) (by decide +kernel) (by decide +kernel)), tk_48.1]
  unfold lAdd
  rw [num_S 2 tk_49 (by decide) (by decide +kernel) (by decide) (by decide +kernel)]
  show sb (tagR cS 129 (uN cS 129 (1, 125))) _ = _
  rw [tk_49.1, tag_S 2 tk_50 (by decide) (by decide +kernel), tk_50.1]
  rfl
theorem text_S : textR cS 129 (fun _ => 0) = .inr gS11 := by
  unfold textR
  rw [hd_S]
  show linesR cS 129 130 gS0 (2, 14) = _
  conv => lhs; unfold linesR
  rw [cif_f (show ¬ uT cS 129 (2, 14) = 0 by rw [tk_4.2.1]; decide), cif_t tk_4.2.1, tk_4.1, ln_1]
  show linesR cS 129 129 gS1 (2, 25) = _
  conv => lhs; unfold linesR
  rw [cif_f (show ¬ uT cS 129 (2, 25) = 0 by rw [tk_9.2.1]; decide), cif_t tk_9.2.1, tk_9.1, ln_2]
  show linesR cS 129 128 gS2 (2, 36) = _
  conv => lhs; unfold linesR
  rw [cif_f (show ¬ uT cS 129 (2, 36) = 0 by rw [tk_14.2.1]; decide), cif_t tk_14.2.1, tk_14.1, ln_3]
  show linesR cS 129 127 gS3 (1, 45) = _
  conv => lhs; unfold linesR
  rw [cif_f (show ¬ uT cS 129 (1, 45) = 0 by rw [tk_18.2.1]; decide), cif_t tk_18.2.1, tk_18.1, ln_4]
  show linesR cS 129 126 gS4 (1, 54) = _
  conv => lhs; unfold linesR
  rw [cif_f (show ¬ uT cS 129 (1, 54) = 0 by rw [tk_22.2.1]; decide), cif_t tk_22.2.1, tk_22.1, ln_5]
  show linesR cS 129 125 gS5 (2, 62) = _
  conv => lhs; unfold linesR
  rw [cif_f (show ¬ uT cS 129 (2, 62) = 0 by rw [tk_25.2.1]; decide), cif_t tk_25.2.1, tk_25.1, ln_6]
  show linesR cS 129 124 gS6 (2, 73) = _
  conv => lhs; unfold linesR
  rw [cif_f (show ¬ uT cS 129 (2, 73) = 0 by rw [tk_29.2.1]; decide), cif_t tk_29.2.1, tk_29.1, ln_7]
  show linesR cS 129 123 gS7 (1, 85) = _
  conv => lhs; unfold linesR
  rw [cif_f (show ¬ uT cS 129 (1, 85) = 0 by rw [tk_33.2.1]; decide), cif_t tk_33.2.1, tk_33.1, ln_8]
  show linesR cS 129 122 gS8 (1, 94) = _
  conv => lhs; unfold linesR
  rw [cif_f (show ¬ uT cS 129 (1, 94) = 0 by rw [tk_37.2.1]; decide), cif_t tk_37.2.1, tk_37.1, ln_9]
  show linesR cS 129 121 gS9 (2, 107) = _
  conv => lhs; unfold linesR
  rw [cif_f (show ¬ uT cS 129 (2, 107) = 0 by rw [tk_42.2.1]; decide), cif_t tk_42.2.1, tk_42.1, ln_10]
  show linesR cS 129 120 gS10 (2, 120) = _
  conv => lhs; unfold linesR
  rw [cif_f (show ¬ uT cS 129 (2, 120) = 0 by rw [tk_47.2.1]; decide), cif_t tk_47.2.1, tk_47.1, ln_11]
  show linesR cS 129 119 gS11 (1, 129) = _
  unfold linesR
  rw [cif_t tk_51.2.1]
