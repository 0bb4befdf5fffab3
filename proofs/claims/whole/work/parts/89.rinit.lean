/-! THE REFERENCE MADE (written by geninit.py) -/
def keyN (n : Nat) : GF := fun j => if j < n then keyF j else 0
theorem keyN_step (n : Nat) : u1 (keyN n) n (keyF n) = keyN (n + 1) := by
  funext q; unfold u1 keyN
  by_cases e : q = n
  · rw [if_pos e, if_pos (by omega), e]
  · rw [if_neg e]; by_cases e2 : q < n
    · rw [if_pos e2, if_pos (by omega)]
    · rw [if_neg e2, if_neg (by omega)]
section RI2
variable {M : Mem} {m : Nat}
theorem ks {B : Mem} {a : Nat} (hk : mK B a = 9) (hn : mN B a = 72) (i : Nat) (hi : i < 72) {v : Int32} (hv : v = keyF i) : sA 9 a (nI i) v (wA B a (keyN i)) = some (wA B a (keyN (i + 1))) := by
  rw [sA_w, if_pos ⟨show mK (wA B a (keyN i)) a = 9 from hk, by rw [show mN (wA B a (keyN i)) a = 72 from hn, inT hi (by omega)]; exact not_false⟩, nI_cl (by omega), wA_self, wA_again]
  show some (wA B a (u1 (keyN i) i v)) = _
  rw [hv, keyN_step]
theorem keys_all {B : Mem} {a : Nat} (hk : mK B a = 9) (hn : mN B a = 72) {γ : Type} {K : Mem → Option γ} : ((sA 9 a 0 114 (wA B a (keyN 0))).bind fun M1 => (sA 9 a 1 101 M1).bind fun M2 => (sA 9 a 2 112 M2).bind fun M3 => (sA 9 a 3 108 M3).bind fun M4 => (sA 9 a 4 105 M4).bind fun M5 => (sA 9 a 5 99 M5).bind fun M6 => (sA 9 a 6 97 M6).bind fun M7 => (sA 9 a 7 115 M7).bind fun M8 => (sA 9 a 8 105 M8).bind fun M9 => (sA 9 a 9 110 M9).bind fun M10 => (sA 9 a 10 99 M10).bind fun M11 => (sA 9 a 11 0 M11).bind fun M12 => (sA 9 a 12 0 M12).bind fun M13 => (sA 9 a 13 0 M13).bind fun M14 => (sA 9 a 14 0 M14).bind fun M15 => (sA 9 a 15 0 M15).bind fun M16 => (sA 9 a 16 100 M16).bind fun M17 => (sA 9 a 17 101 M17).bind fun M18 => (sA 9 a 18 99 M18).bind fun M19 => (sA 9 a 19 0 M19).bind fun M20 => (sA 9 a 20 0 M20).bind fun M21 => (sA 9 a 21 0 M21).bind fun M22 => (sA 9 a 22 0 M22).bind fun M23 => (sA 9 a 23 0 M23).bind fun M24 => (sA 9 a 24 97 M24).bind fun M25 => (sA 9 a 25 100 M25).bind fun M26 => (sA 9 a 26 100 M26).bind fun M27 => (sA 9 a 27 0 M27).bind fun M28 => (sA 9 a 28 0 M28).bind fun M29 => (sA 9 a 29 0 M29).bind fun M30 => (sA 9 a 30 0 M30).bind fun M31 => (sA 9 a 31 0 M31).bind fun M32 => (sA 9 a 32 114 M32).bind fun M33 => (sA 9 a 33 101 M33).bind fun M34 => (sA 9 a 34 109 M34).bind fun M35 => (sA 9 a 35 111 M35).bind fun M36 => (sA 9 a 36 118 M36).bind fun M37 => (sA 9 a 37 101 M37).bind fun M38 => (sA 9 a 38 0 M38).bind fun M39 => (sA 9 a 39 0 M39).bind fun M40 => (sA 9 a 40 119 M40).bind fun M41 => (sA 9 a 41 114 M41).bind fun M42 => (sA 9 a 42 105 M42).bind fun M43 => (sA 9 a 43 116 M43).bind fun M44 => (sA 9 a 44 101 M44).bind fun M45 => (sA 9 a 45 0 M45).bind fun M46 => (sA 9 a 46 0 M46).bind fun M47 => (sA 9 a 47 0 M47).bind fun M48 => (sA 9 a 48 109 M48).bind fun M49 => (sA 9 a 49 101 M49).bind fun M50 => (sA 9 a 50 114 M50).bind fun M51 => (sA 9 a 51 103 M51).bind fun M52 => (sA 9 a 52 101 M52).bind fun M53 => (sA 9 a 53 0 M53).bind fun M54 => (sA 9 a 54 0 M54).bind fun M55 => (sA 9 a 55 0 M55).bind fun M56 => (sA 9 a 56 115 M56).bind fun M57 => (sA 9 a 57 101 M57).bind fun M58 => (sA 9 a 58 110 M58).bind fun M59 => (sA 9 a 59 100 M59).bind fun M60 => (sA 9 a 60 0 M60).bind fun M61 => (sA 9 a 61 0 M61).bind fun M62 => (sA 9 a 62 0 M62).bind fun M63 => (sA 9 a 63 0 M63).bind fun M64 => (sA 9 a 64 100 M64).bind fun M65 => (sA 9 a 65 101 M65).bind fun M66 => (sA 9 a 66 108 M66).bind fun M67 => (sA 9 a 67 105 M67).bind fun M68 => (sA 9 a 68 118 M68).bind fun M69 => (sA 9 a 69 101 M69).bind fun M70 => (sA 9 a 70 114 M70).bind fun M71 => (sA 9 a 71 0 M71).bind fun M72 => K M72) = K (wA B a (keyN 72)) := by
  have s0 : sA 9 a 0 114 (wA B a (keyN 0)) = some (wA B a (keyN 1)) := ks hk hn 0 (by omega) (by decide)
  have s1 : sA 9 a 1 101 (wA B a (keyN 1)) = some (wA B a (keyN 2)) := ks hk hn 1 (by omega) (by decide)
  have s2 : sA 9 a 2 112 (wA B a (keyN 2)) = some (wA B a (keyN 3)) := ks hk hn 2 (by omega) (by decide)
  have s3 : sA 9 a 3 108 (wA B a (keyN 3)) = some (wA B a (keyN 4)) := ks hk hn 3 (by omega) (by decide)
  have s4 : sA 9 a 4 105 (wA B a (keyN 4)) = some (wA B a (keyN 5)) := ks hk hn 4 (by omega) (by decide)
  have s5 : sA 9 a 5 99 (wA B a (keyN 5)) = some (wA B a (keyN 6)) := ks hk hn 5 (by omega) (by decide)
  have s6 : sA 9 a 6 97 (wA B a (keyN 6)) = some (wA B a (keyN 7)) := ks hk hn 6 (by omega) (by decide)
  have s7 : sA 9 a 7 115 (wA B a (keyN 7)) = some (wA B a (keyN 8)) := ks hk hn 7 (by omega) (by decide)
  have s8 : sA 9 a 8 105 (wA B a (keyN 8)) = some (wA B a (keyN 9)) := ks hk hn 8 (by omega) (by decide)
  have s9 : sA 9 a 9 110 (wA B a (keyN 9)) = some (wA B a (keyN 10)) := ks hk hn 9 (by omega) (by decide)
  have s10 : sA 9 a 10 99 (wA B a (keyN 10)) = some (wA B a (keyN 11)) := ks hk hn 10 (by omega) (by decide)
  have s11 : sA 9 a 11 0 (wA B a (keyN 11)) = some (wA B a (keyN 12)) := ks hk hn 11 (by omega) (by decide)
  have s12 : sA 9 a 12 0 (wA B a (keyN 12)) = some (wA B a (keyN 13)) := ks hk hn 12 (by omega) (by decide)
  have s13 : sA 9 a 13 0 (wA B a (keyN 13)) = some (wA B a (keyN 14)) := ks hk hn 13 (by omega) (by decide)
  have s14 : sA 9 a 14 0 (wA B a (keyN 14)) = some (wA B a (keyN 15)) := ks hk hn 14 (by omega) (by decide)
  have s15 : sA 9 a 15 0 (wA B a (keyN 15)) = some (wA B a (keyN 16)) := ks hk hn 15 (by omega) (by decide)
  have s16 : sA 9 a 16 100 (wA B a (keyN 16)) = some (wA B a (keyN 17)) := ks hk hn 16 (by omega) (by decide)
  have s17 : sA 9 a 17 101 (wA B a (keyN 17)) = some (wA B a (keyN 18)) := ks hk hn 17 (by omega) (by decide)
  have s18 : sA 9 a 18 99 (wA B a (keyN 18)) = some (wA B a (keyN 19)) := ks hk hn 18 (by omega) (by decide)
  have s19 : sA 9 a 19 0 (wA B a (keyN 19)) = some (wA B a (keyN 20)) := ks hk hn 19 (by omega) (by decide)
  have s20 : sA 9 a 20 0 (wA B a (keyN 20)) = some (wA B a (keyN 21)) := ks hk hn 20 (by omega) (by decide)
  have s21 : sA 9 a 21 0 (wA B a (keyN 21)) = some (wA B a (keyN 22)) := ks hk hn 21 (by omega) (by decide)
  have s22 : sA 9 a 22 0 (wA B a (keyN 22)) = some (wA B a (keyN 23)) := ks hk hn 22 (by omega) (by decide)
  have s23 : sA 9 a 23 0 (wA B a (keyN 23)) = some (wA B a (keyN 24)) := ks hk hn 23 (by omega) (by decide)
  have s24 : sA 9 a 24 97 (wA B a (keyN 24)) = some (wA B a (keyN 25)) := ks hk hn 24 (by omega) (by decide)
  have s25 : sA 9 a 25 100 (wA B a (keyN 25)) = some (wA B a (keyN 26)) := ks hk hn 25 (by omega) (by decide)
  have s26 : sA 9 a 26 100 (wA B a (keyN 26)) = some (wA B a (keyN 27)) := ks hk hn 26 (by omega) (by decide)
  have s27 : sA 9 a 27 0 (wA B a (keyN 27)) = some (wA B a (keyN 28)) := ks hk hn 27 (by omega) (by decide)
  have s28 : sA 9 a 28 0 (wA B a (keyN 28)) = some (wA B a (keyN 29)) := ks hk hn 28 (by omega) (by decide)
  have s29 : sA 9 a 29 0 (wA B a (keyN 29)) = some (wA B a (keyN 30)) := ks hk hn 29 (by omega) (by decide)
  have s30 : sA 9 a 30 0 (wA B a (keyN 30)) = some (wA B a (keyN 31)) := ks hk hn 30 (by omega) (by decide)
  have s31 : sA 9 a 31 0 (wA B a (keyN 31)) = some (wA B a (keyN 32)) := ks hk hn 31 (by omega) (by decide)
  have s32 : sA 9 a 32 114 (wA B a (keyN 32)) = some (wA B a (keyN 33)) := ks hk hn 32 (by omega) (by decide)
  have s33 : sA 9 a 33 101 (wA B a (keyN 33)) = some (wA B a (keyN 34)) := ks hk hn 33 (by omega) (by decide)
  have s34 : sA 9 a 34 109 (wA B a (keyN 34)) = some (wA B a (keyN 35)) := ks hk hn 34 (by omega) (by decide)
  have s35 : sA 9 a 35 111 (wA B a (keyN 35)) = some (wA B a (keyN 36)) := ks hk hn 35 (by omega) (by decide)
  have s36 : sA 9 a 36 118 (wA B a (keyN 36)) = some (wA B a (keyN 37)) := ks hk hn 36 (by omega) (by decide)
  have s37 : sA 9 a 37 101 (wA B a (keyN 37)) = some (wA B a (keyN 38)) := ks hk hn 37 (by omega) (by decide)
  have s38 : sA 9 a 38 0 (wA B a (keyN 38)) = some (wA B a (keyN 39)) := ks hk hn 38 (by omega) (by decide)
  have s39 : sA 9 a 39 0 (wA B a (keyN 39)) = some (wA B a (keyN 40)) := ks hk hn 39 (by omega) (by decide)
  have s40 : sA 9 a 40 119 (wA B a (keyN 40)) = some (wA B a (keyN 41)) := ks hk hn 40 (by omega) (by decide)
  have s41 : sA 9 a 41 114 (wA B a (keyN 41)) = some (wA B a (keyN 42)) := ks hk hn 41 (by omega) (by decide)
  have s42 : sA 9 a 42 105 (wA B a (keyN 42)) = some (wA B a (keyN 43)) := ks hk hn 42 (by omega) (by decide)
  have s43 : sA 9 a 43 116 (wA B a (keyN 43)) = some (wA B a (keyN 44)) := ks hk hn 43 (by omega) (by decide)
  have s44 : sA 9 a 44 101 (wA B a (keyN 44)) = some (wA B a (keyN 45)) := ks hk hn 44 (by omega) (by decide)
  have s45 : sA 9 a 45 0 (wA B a (keyN 45)) = some (wA B a (keyN 46)) := ks hk hn 45 (by omega) (by decide)
  have s46 : sA 9 a 46 0 (wA B a (keyN 46)) = some (wA B a (keyN 47)) := ks hk hn 46 (by omega) (by decide)
  have s47 : sA 9 a 47 0 (wA B a (keyN 47)) = some (wA B a (keyN 48)) := ks hk hn 47 (by omega) (by decide)
  have s48 : sA 9 a 48 109 (wA B a (keyN 48)) = some (wA B a (keyN 49)) := ks hk hn 48 (by omega) (by decide)
  have s49 : sA 9 a 49 101 (wA B a (keyN 49)) = some (wA B a (keyN 50)) := ks hk hn 49 (by omega) (by decide)
  have s50 : sA 9 a 50 114 (wA B a (keyN 50)) = some (wA B a (keyN 51)) := ks hk hn 50 (by omega) (by decide)
  have s51 : sA 9 a 51 103 (wA B a (keyN 51)) = some (wA B a (keyN 52)) := ks hk hn 51 (by omega) (by decide)
  have s52 : sA 9 a 52 101 (wA B a (keyN 52)) = some (wA B a (keyN 53)) := ks hk hn 52 (by omega) (by decide)
  have s53 : sA 9 a 53 0 (wA B a (keyN 53)) = some (wA B a (keyN 54)) := ks hk hn 53 (by omega) (by decide)
  have s54 : sA 9 a 54 0 (wA B a (keyN 54)) = some (wA B a (keyN 55)) := ks hk hn 54 (by omega) (by decide)
  have s55 : sA 9 a 55 0 (wA B a (keyN 55)) = some (wA B a (keyN 56)) := ks hk hn 55 (by omega) (by decide)
  have s56 : sA 9 a 56 115 (wA B a (keyN 56)) = some (wA B a (keyN 57)) := ks hk hn 56 (by omega) (by decide)
  have s57 : sA 9 a 57 101 (wA B a (keyN 57)) = some (wA B a (keyN 58)) := ks hk hn 57 (by omega) (by decide)
  have s58 : sA 9 a 58 110 (wA B a (keyN 58)) = some (wA B a (keyN 59)) := ks hk hn 58 (by omega) (by decide)
  have s59 : sA 9 a 59 100 (wA B a (keyN 59)) = some (wA B a (keyN 60)) := ks hk hn 59 (by omega) (by decide)
  have s60 : sA 9 a 60 0 (wA B a (keyN 60)) = some (wA B a (keyN 61)) := ks hk hn 60 (by omega) (by decide)
  have s61 : sA 9 a 61 0 (wA B a (keyN 61)) = some (wA B a (keyN 62)) := ks hk hn 61 (by omega) (by decide)
  have s62 : sA 9 a 62 0 (wA B a (keyN 62)) = some (wA B a (keyN 63)) := ks hk hn 62 (by omega) (by decide)
  have s63 : sA 9 a 63 0 (wA B a (keyN 63)) = some (wA B a (keyN 64)) := ks hk hn 63 (by omega) (by decide)
  have s64 : sA 9 a 64 100 (wA B a (keyN 64)) = some (wA B a (keyN 65)) := ks hk hn 64 (by omega) (by decide)
  have s65 : sA 9 a 65 101 (wA B a (keyN 65)) = some (wA B a (keyN 66)) := ks hk hn 65 (by omega) (by decide)
  have s66 : sA 9 a 66 108 (wA B a (keyN 66)) = some (wA B a (keyN 67)) := ks hk hn 66 (by omega) (by decide)
  have s67 : sA 9 a 67 105 (wA B a (keyN 67)) = some (wA B a (keyN 68)) := ks hk hn 67 (by omega) (by decide)
  have s68 : sA 9 a 68 118 (wA B a (keyN 68)) = some (wA B a (keyN 69)) := ks hk hn 68 (by omega) (by decide)
  have s69 : sA 9 a 69 101 (wA B a (keyN 69)) = some (wA B a (keyN 70)) := ks hk hn 69 (by omega) (by decide)
  have s70 : sA 9 a 70 114 (wA B a (keyN 70)) = some (wA B a (keyN 71)) := ks hk hn 70 (by omega) (by decide)
  have s71 : sA 9 a 71 0 (wA B a (keyN 71)) = some (wA B a (keyN 72)) := ks hk hn 71 (by omega) (by decide)
  rw [s0, Option.bind_some, s1, Option.bind_some, s2, Option.bind_some, s3, Option.bind_some, s4, Option.bind_some, s5, Option.bind_some, s6, Option.bind_some, s7, Option.bind_some, s8, Option.bind_some, s9, Option.bind_some, s10, Option.bind_some, s11, Option.bind_some, s12, Option.bind_some, s13, Option.bind_some, s14, Option.bind_some, s15, Option.bind_some, s16, Option.bind_some, s17, Option.bind_some, s18, Option.bind_some, s19, Option.bind_some, s20, Option.bind_some, s21, Option.bind_some, s22, Option.bind_some, s23, Option.bind_some, s24, Option.bind_some, s25, Option.bind_some, s26, Option.bind_some, s27, Option.bind_some, s28, Option.bind_some, s29, Option.bind_some, s30, Option.bind_some, s31, Option.bind_some, s32, Option.bind_some, s33, Option.bind_some, s34, Option.bind_some, s35, Option.bind_some, s36, Option.bind_some, s37, Option.bind_some, s38, Option.bind_some, s39, Option.bind_some, s40, Option.bind_some, s41, Option.bind_some, s42, Option.bind_some, s43, Option.bind_some, s44, Option.bind_some, s45, Option.bind_some, s46, Option.bind_some, s47, Option.bind_some, s48, Option.bind_some, s49, Option.bind_some, s50, Option.bind_some, s51, Option.bind_some, s52, Option.bind_some, s53, Option.bind_some, s54, Option.bind_some, s55, Option.bind_some, s56, Option.bind_some, s57, Option.bind_some, s58, Option.bind_some, s59, Option.bind_some, s60, Option.bind_some, s61, Option.bind_some, s62, Option.bind_some, s63, Option.bind_some, s64, Option.bind_some, s65, Option.bind_some, s66, Option.bind_some, s67, Option.bind_some, s68, Option.bind_some, s69, Option.bind_some, s70, Option.bind_some, s71, Option.bind_some]
/-- the reference's parts -/
def RJ (m : Nat) (M : Mem) : Prop := (mK M m = 6 ∧ mR M 160 m = some (m + 1) ∧ mR M 162 m = some (m + 2) ∧ mR M 163 m = some (m + 3) ∧ mR M 164 m = some (m + 4) ∧ mR M 166 m = some (m + 5) ∧ mR M 168 m = some (m + 6) ∧ mR M 170 m = some (m + 7)) ∧
  ((mK M (m + 1) = 9 ∧ mN M (m + 1) = 72) ∧ (mK M (m + 2) = 9 ∧ mN M (m + 2) = 1594) ∧ (mK M (m + 3) = 9 ∧ mN M (m + 3) = 1330) ∧ (mK M (m + 4) = 9 ∧ mN M (m + 4) = 13300) ∧ (mK M (m + 5) = 9 ∧ mN M (m + 5) = 2660) ∧ (mK M (m + 6) = 7 ∧ mN M (m + 6) = 600) ∧ (mK M (m + 7) = 7 ∧ mN M (m + 7) = 40))
/-- one row more of the reference -/
theorem row_new {B : Mem} {b k n f : Nat} (hm : mK B m = 6) (hz : mZ B = b) (hb : m < b) {γ : Type} {K : Mem → Option γ} : ∃ C, (bnewa k n B fun v M => (sR 6 f m (some v) M).bind K) = K C ∧ Fo (fun a => a = m) B C ∧ mZ C = b + 1 ∧ (mK C b = k ∧ mN C b = n ∧ mA C b = (fun _ => 0)) ∧ (∀ g, mR C g m = if g = f then some b else mR B g m) ∧ ∀ g, mI C g m = mI B g m := by
  obtain ⟨B1, e1⟩ : ∃ D, D = newA k n B := ⟨_, rfl⟩
  have a1 := newA_K (k := k) (n := n) (M := B)
  rw [hz, ← e1] at a1
  have f1 : Fo (fun _ => False) B B1 := by rw [e1]; exact Fo.newA
  have k1 : mK B1 m = 6 := (f1.2 m (by omega)).1.1.trans hm
  have z1 : mZ B1 = b + 1 := by rw [e1]; show mZ B + 1 = _; rw [hz]
  have f2 : Fo (fun a => a = m) B1 (wR B1 f m (some b)) := foR
  refine ⟨wR B1 f m (some b), ?_, (fo0 f1).tr f2, z1, ⟨a1.1, a1.2.1, a1.2.2.1⟩, fun g => ?_, fun g => ?_⟩
  · rw [bnewa_eq, hz, ← e1, sR_ok k1, Option.bind_some]
  · rw [mR_wR, ((f1.2 m (by omega)).2 id).1 g]; simp only [and_true]
  · show mI B1 g m = _
    exact ((f1.2 m (by omega)).2 id).2.1 g
theorem now_w {B : Mem} {w : Nat} {g : GF} (hR : Rn B m w) {i : Nat} (hi : i < 1594) {v : Int32} : sA 9 w (nI i) v (wA B w g) = some (wA B w (u1 g i v)) := by
  rw [sA_w, if_pos ⟨show mK (wA B w g) w = 9 from hR.2.2.1, by rw [show mN (wA B w g) w = 1594 from hR.2.2.2, inT hi (by omega)]; exact not_false⟩, nI_cl (by omega), wA_self, wA_again]; rfl
theorem gS0_eq : u1 (u1 (u1 (fun _ => 0) 0 3) 1 2) 2 1 = gS0 := hdG_eq _ _ _ _
theorem gS1_eq : u1 gS0 (bs 0 + (4 + (4 * 0 + 0))) 5 = gS1 := by
  rw [u1_g (by omega)]
  show _ = put gS0 0 (u1 (row gS0 0) (4 + (4 * 0 + 0)) (row gS0 0 (4 + (4 * 0 + 0)) + 5))
  rw [show row gS0 0 (4 + (4 * 0 + 0)) + 5 = 5 by decide +kernel]
theorem gS2_eq : u1 gS1 (bs 1 + (20 + (4 * 0 + 1))) 2 = gS2 := by
  rw [u1_g (by omega)]
  show _ = put gS1 1 (u1 (row gS1 1) (20 + (4 * 0 + 1)) (row gS1 1 (20 + (4 * 0 + 1)) + 2))
  rw [show row gS1 1 (20 + (4 * 0 + 1)) + 2 = 2 by decide +kernel]
/-- the reference's first deeds -/
theorem r_deeds {B : Mem} {w : Nat} (hR : Rn B m w) : ((gRn 6 162 m (wA B w (fun _ => 0))).bind fun v95 => (sA 9 v95 0 3 (wA B w (fun _ => 0))).bind fun M96 => (gRn 6 162 m M96).bind fun v97 => (sA 9 v97 1 2 M96).bind fun M98 => (gRn 6 162 m M98).bind fun v99 => (sA 9 v99 2 1 M98).bind fun M100 => (gRn 6 162 m M100).bind fun v101 => bn (f_X5_more 0 0 0 M100) fun v102 M103 => (sA 9 v101 v102 5 M103).bind fun M104 => (gRn 6 162 m M104).bind fun v105 => bn (f_X5_less 1 0 1 M104) fun v106 M107 => (sA 9 v105 v106 2 M107).bind fun M108 => bn (cK 6 m M108 (f_X5_adds m 0 0 M108)) fun v109 M110 => bn (cK 6 m M110 (f_X5_adds m 1 1 M110)) fun v111 M112 => (cK 6 m M112 (f_X5_sends m 0 M112)).bind fun M114 => (cK 6 m M114 (f_X5_merges m 1 0 M114)).bind fun M116 => bn (cK 6 m M116 (f_X5_removes m 1 0 M116)) fun v117 M118 => bn (cK 6 m M118 (f_X5_adds m 0 0 M118)) fun v119 M120 => bn (cK 6 m M120 (f_X5_writesValue m 0 0 7 M120)) fun v121 M122 => bn (cK 6 m M122 (f_X5_writesValue m 2 0 9 M122)) fun v123 M124 => bn (cK 6 m M124 (f_X5_adds m 2 2 M124)) fun v125 M126 => some M126) = some (wA B w gS11) := by
  have gw : ∀ g, gRn 6 162 m (wA B w g) = some w := fun g => gW hR
  have km : ∀ g, mK (wA B w g) m = 6 := fun g => hR.1
  have n0 : ∀ g v, sA 9 w 0 v (wA B w g) = some (wA B w (u1 g 0 v)) := fun g v => now_w hR (i := 0) (by omega)
  have n1 : ∀ g v, sA 9 w 1 v (wA B w g) = some (wA B w (u1 g 1 v)) := fun g v => now_w hR (i := 1) (by omega)
  have n2 : ∀ g v, sA 9 w 2 v (wA B w g) = some (wA B w (u1 g 2 v)) := fun g v => now_w hR (i := 2) (by omega)
  have mo : ∀ N : Mem, f_X5_more 0 0 0 N = some (nI (bs 0 + (4 + (4 * 0 + 0))), N) := fun N => X5_more (t := 0) (i := 0) (j := 0)
  have le : ∀ N : Mem, f_X5_less 1 0 1 N = some (nI (bs 1 + (20 + (4 * 0 + 1))), N) := fun N => X5_less (t := 1) (i := 0) (j := 1)
  have s1 : sA 9 w (nI (bs 0 + (4 + (4 * 0 + 0)))) 5 (wA B w gS0) = some (wA B w gS1) := by rw [now_w hR (by rw [bs_eq]; omega), gS1_eq]
  have s2 : sA 9 w (nI (bs 1 + (20 + (4 * 0 + 1)))) 2 (wA B w gS1) = some (wA B w gS2) := by rw [now_w hR (by rw [bs_eq]; omega), gS2_eq]
  have d3 : f_X5_adds m 0 0 (wA B w gS2) = some (row gS2 0 0 + 1, wA B w gS3) := X5_adds (g := gS2) hR (t := 0) (by omega) (i := 0) (by omega)
  have d4 : f_X5_adds m 1 1 (wA B w gS3) = some (row gS3 1 1 + 1, wA B w gS4) := X5_adds (g := gS3) hR (t := 1) (by omega) (i := 1) (by omega)
  have d5 : f_X5_sends m 0 (wA B w gS4) = some (wA B w gS5) := X5_sends (g := gS4) hR (r := 0) (by omega) (by decide +kernel) (by decide +kernel)
  have d6 : f_X5_merges m 1 0 (wA B w gS5) = some (wA B w gS6) := X5_merges (g := gS5) hR (t := 1) (by omega) (u := 0) (by omega)
  have d7 : f_X5_removes m 1 0 (wA B w gS6) = some (nI (lve (row gS6 1) (36 + 4 * 0)), wA B w gS7) := X5_removes (g := gS6) hR (t := 1) (by omega) (i := 0) (by omega)
  have d8 : f_X5_adds m 0 0 (wA B w gS7) = some (row gS7 0 0 + 1, wA B w gS8) := X5_adds (g := gS7) hR (t := 0) (by omega) (i := 0) (by omega)
  have d9 : f_X5_writesValue m 0 0 7 (wA B w gS8) = some (nI (lve (row gS8 0) (100 + 4 * 0)), wA B w gS9) := X5_writesValue (g := gS8) hR (t := 0) (by omega) (i := 0) (by omega)
  have d10 : f_X5_writesValue m 2 0 9 (wA B w gS9) = some (nI (lve (row gS9 2) (100 + 4 * 0)), wA B w gS10) := X5_writesValue (g := gS9) hR (t := 2) (by omega) (i := 0) (by omega)
  have d11 : f_X5_adds m 2 2 (wA B w gS10) = some (row gS10 2 2 + 1, wA B w gS11) := X5_adds (g := gS10) hR (t := 2) (by omega) (i := 2) (by omega)
  rw [gw, Option.bind_some, n0, Option.bind_some, gw, Option.bind_some, n1, Option.bind_some, gw, Option.bind_some, n2, Option.bind_some, gS0_eq, gw, Option.bind_some, mo, bn_some, s1, Option.bind_some, gw, Option.bind_some, le, bn_some, s2, Option.bind_some, cK_ok (km _), d3, bn_some, cK_ok (km _), d4, bn_some, cK_ok (km _), d5, Option.bind_some, cK_ok (km _), d6, Option.bind_some, cK_ok (km _), d7, bn_some, cK_ok (km _), d8, bn_some, cK_ok (km _), d9, bn_some, cK_ok (km _), d10, bn_some, cK_ok (km _), d11, bn_some]
theorem r_init (hm : m = mZ M) : ∃ M', f_X5_init m (newO 6 M) = some M' ∧ Fo (fun _ => False) M M' ∧ mZ M' = m + 8 ∧ RJ m M' ∧ (∀ i, i < 72 → mA M' (m + 1) i = keyF i) ∧ mA M' (m + 2) = gS11 ∧ (mI M' 165 m = 0 ∧ mI M' 167 m = 0 ∧ mI M' 169 m = 0 ∧ mI M' 171 m = 0 ∧ mI M' 172 m = 0 ∧ mI M' 173 m = -1) := by
  obtain ⟨R0, e0⟩ : ∃ D, D = newO 6 M := ⟨_, rfl⟩
  have k0 : mK R0 m = 6 := by rw [e0, hm]; exact newO_K
  have z0 : mZ R0 = m + 1 := by rw [e0, hm]; rfl
  have f0 : Fo (fun _ => False) M R0 := by rw [e0]; exact Fo.newO
  have i0 : ∀ f, mI R0 f m = 0 := fun f => by rw [e0, hm]; exact newO_I
  obtain ⟨R1, e1⟩ : ∃ D, D = newA 9 72 R0 := ⟨_, rfl⟩
  have a1 := newA_K (k := 9) (n := 72) (M := R0)
  rw [z0, ← e1] at a1
  have f1 : Fo (fun _ => False) R0 R1 := by rw [e1]; exact Fo.newA
  have z1 : mZ R1 = m + 2 := by rw [e1]; show mZ R0 + 1 = _; rw [z0]
  have k1 : mK R1 m = 6 := (f1.2 m (by omega)).1.1.trans k0
  obtain ⟨R2, e2⟩ : ∃ D, D = wR (wA R1 (m + 1) (keyN 72)) 160 m (some (m + 1)) := ⟨_, rfl⟩
  have k2 : mK R2 m = 6 := by rw [e2]; exact k1
  have z2 : mZ R2 = m + 2 := by rw [e2]; exact z1
  have q2 : mA R2 (m + 1) = keyN 72 ∧ mK R2 (m + 1) = 9 ∧ mN R2 (m + 1) = 72 := by rw [e2]; exact ⟨wA_self _ _ _, a1.1, a1.2.1⟩
  have i2 : ∀ f, mI R2 f m = 0 := fun f => by rw [e2]; show mI R1 f m = 0; rw [((f1.2 m (by omega)).2 id).2.1 f]; exact i0 f
  have r2 : mR R2 160 m = some (m + 1) := by rw [e2, mR_wR, if_pos ⟨rfl, rfl⟩]
  have f2 : Fo (fun a => a = m ∨ a = m + 1) R1 R2 := by rw [e2]; exact ((Fo.wA (Or.inr rfl)).tr (foR.mono (fun a h => Or.inl h)))
  have key0 : wA R1 (m + 1) (keyN 0) = R1 := by
    have : mA R1 (m + 1) = keyN 0 := by rw [a1.2.2.1]; funext j; exact (if_neg (by omega)).symm
    rw [← this, wA_id]
  obtain ⟨R3, s3, f3, z3, ⟨b31, b32, b33⟩, r3, i3⟩ := row_new (B := R2) (b := m + 2) (k := 9) (n := 1594) (f := 162) k2 z2 (by omega) (K := fun N1 => bnewa 9 1330 N1 fun v M => (sR 6 163 m (some v) M).bind fun N2 => bnewa 9 13300 N2 fun v M => (sR 6 164 m (some v) M).bind fun N3 => bnewa 9 2660 N3 fun v M => (sR 6 166 m (some v) M).bind fun N4 => bnewa 7 600 N4 fun v M => (sR 6 168 m (some v) M).bind fun N5 => bnewa 7 40 N5 fun v M => (sR 6 170 m (some v) M).bind fun M93 => (sI 6 173 m (-1) M93).bind fun M94 => (gRn 6 162 m M94).bind fun v95 => (sA 9 v95 0 3 M94).bind fun M96 => (gRn 6 162 m M96).bind fun v97 => (sA 9 v97 1 2 M96).bind fun M98 => (gRn 6 162 m M98).bind fun v99 => (sA 9 v99 2 1 M98).bind fun M100 => (gRn 6 162 m M100).bind fun v101 => bn (f_X5_more 0 0 0 M100) fun v102 M103 => (sA 9 v101 v102 5 M103).bind fun M104 => (gRn 6 162 m M104).bind fun v105 => bn (f_X5_less 1 0 1 M104) fun v106 M107 => (sA 9 v105 v106 2 M107).bind fun M108 => bn (cK 6 m M108 (f_X5_adds m 0 0 M108)) fun v109 M110 => bn (cK 6 m M110 (f_X5_adds m 1 1 M110)) fun v111 M112 => (cK 6 m M112 (f_X5_sends m 0 M112)).bind fun M114 => (cK 6 m M114 (f_X5_merges m 1 0 M114)).bind fun M116 => bn (cK 6 m M116 (f_X5_removes m 1 0 M116)) fun v117 M118 => bn (cK 6 m M118 (f_X5_adds m 0 0 M118)) fun v119 M120 => bn (cK 6 m M120 (f_X5_writesValue m 0 0 7 M120)) fun v121 M122 => bn (cK 6 m M122 (f_X5_writesValue m 2 0 9 M122)) fun v123 M124 => bn (cK 6 m M124 (f_X5_adds m 2 2 M124)) fun v125 M126 => some M126)
  have k3 : mK R3 m = 6 := (f3.2 m (by omega)).1.1.trans k2
  obtain ⟨R4, s4, f4, z4, ⟨b41, b42, b43⟩, r4, i4⟩ := row_new (B := R3) (b := m + 3) (k := 9) (n := 1330) (f := 163) k3 z3 (by omega) (K := fun N2 => bnewa 9 13300 N2 fun v M => (sR 6 164 m (some v) M).bind fun N3 => bnewa 9 2660 N3 fun v M => (sR 6 166 m (some v) M).bind fun N4 => bnewa 7 600 N4 fun v M => (sR 6 168 m (some v) M).bind fun N5 => bnewa 7 40 N5 fun v M => (sR 6 170 m (some v) M).bind fun M93 => (sI 6 173 m (-1) M93).bind fun M94 => (gRn 6 162 m M94).bind fun v95 => (sA 9 v95 0 3 M94).bind fun M96 => (gRn 6 162 m M96).bind fun v97 => (sA 9 v97 1 2 M96).bind fun M98 => (gRn 6 162 m M98).bind fun v99 => (sA 9 v99 2 1 M98).bind fun M100 => (gRn 6 162 m M100).bind fun v101 => bn (f_X5_more 0 0 0 M100) fun v102 M103 => (sA 9 v101 v102 5 M103).bind fun M104 => (gRn 6 162 m M104).bind fun v105 => bn (f_X5_less 1 0 1 M104) fun v106 M107 => (sA 9 v105 v106 2 M107).bind fun M108 => bn (cK 6 m M108 (f_X5_adds m 0 0 M108)) fun v109 M110 => bn (cK 6 m M110 (f_X5_adds m 1 1 M110)) fun v111 M112 => (cK 6 m M112 (f_X5_sends m 0 M112)).bind fun M114 => (cK 6 m M114 (f_X5_merges m 1 0 M114)).bind fun M116 => bn (cK 6 m M116 (f_X5_removes m 1 0 M116)) fun v117 M118 => bn (cK 6 m M118 (f_X5_adds m 0 0 M118)) fun v119 M120 => bn (cK 6 m M120 (f_X5_writesValue m 0 0 7 M120)) fun v121 M122 => bn (cK 6 m M122 (f_X5_writesValue m 2 0 9 M122)) fun v123 M124 => bn (cK 6 m M124 (f_X5_adds m 2 2 M124)) fun v125 M126 => some M126)
  have k4 : mK R4 m = 6 := (f4.2 m (by omega)).1.1.trans k3
  obtain ⟨R5, s5, f5, z5, ⟨b51, b52, b53⟩, r5, i5⟩ := row_new (B := R4) (b := m + 4) (k := 9) (n := 13300) (f := 164) k4 z4 (by omega) (K := fun N3 => bnewa 9 2660 N3 fun v M => (sR 6 166 m (some v) M).bind fun N4 => bnewa 7 600 N4 fun v M => (sR 6 168 m (some v) M).bind fun N5 => bnewa 7 40 N5 fun v M => (sR 6 170 m (some v) M).bind fun M93 => (sI 6 173 m (-1) M93).bind fun M94 => (gRn 6 162 m M94).bind fun v95 => (sA 9 v95 0 3 M94).bind fun M96 => (gRn 6 162 m M96).bind fun v97 => (sA 9 v97 1 2 M96).bind fun M98 => (gRn 6 162 m M98).bind fun v99 => (sA 9 v99 2 1 M98).bind fun M100 => (gRn 6 162 m M100).bind fun v101 => bn (f_X5_more 0 0 0 M100) fun v102 M103 => (sA 9 v101 v102 5 M103).bind fun M104 => (gRn 6 162 m M104).bind fun v105 => bn (f_X5_less 1 0 1 M104) fun v106 M107 => (sA 9 v105 v106 2 M107).bind fun M108 => bn (cK 6 m M108 (f_X5_adds m 0 0 M108)) fun v109 M110 => bn (cK 6 m M110 (f_X5_adds m 1 1 M110)) fun v111 M112 => (cK 6 m M112 (f_X5_sends m 0 M112)).bind fun M114 => (cK 6 m M114 (f_X5_merges m 1 0 M114)).bind fun M116 => bn (cK 6 m M116 (f_X5_removes m 1 0 M116)) fun v117 M118 => bn (cK 6 m M118 (f_X5_adds m 0 0 M118)) fun v119 M120 => bn (cK 6 m M120 (f_X5_writesValue m 0 0 7 M120)) fun v121 M122 => bn (cK 6 m M122 (f_X5_writesValue m 2 0 9 M122)) fun v123 M124 => bn (cK 6 m M124 (f_X5_adds m 2 2 M124)) fun v125 M126 => some M126)
  have k5 : mK R5 m = 6 := (f5.2 m (by omega)).1.1.trans k4
  obtain ⟨R6, s6, f6, z6, ⟨b61, b62, b63⟩, r6, i6⟩ := row_new (B := R5) (b := m + 5) (k := 9) (n := 2660) (f := 166) k5 z5 (by omega) (K := fun N4 => bnewa 7 600 N4 fun v M => (sR 6 168 m (some v) M).bind fun N5 => bnewa 7 40 N5 fun v M => (sR 6 170 m (some v) M).bind fun M93 => (sI 6 173 m (-1) M93).bind fun M94 => (gRn 6 162 m M94).bind fun v95 => (sA 9 v95 0 3 M94).bind fun M96 => (gRn 6 162 m M96).bind fun v97 => (sA 9 v97 1 2 M96).bind fun M98 => (gRn 6 162 m M98).bind fun v99 => (sA 9 v99 2 1 M98).bind fun M100 => (gRn 6 162 m M100).bind fun v101 => bn (f_X5_more 0 0 0 M100) fun v102 M103 => (sA 9 v101 v102 5 M103).bind fun M104 => (gRn 6 162 m M104).bind fun v105 => bn (f_X5_less 1 0 1 M104) fun v106 M107 => (sA 9 v105 v106 2 M107).bind fun M108 => bn (cK 6 m M108 (f_X5_adds m 0 0 M108)) fun v109 M110 => bn (cK 6 m M110 (f_X5_adds m 1 1 M110)) fun v111 M112 => (cK 6 m M112 (f_X5_sends m 0 M112)).bind fun M114 => (cK 6 m M114 (f_X5_merges m 1 0 M114)).bind fun M116 => bn (cK 6 m M116 (f_X5_removes m 1 0 M116)) fun v117 M118 => bn (cK 6 m M118 (f_X5_adds m 0 0 M118)) fun v119 M120 => bn (cK 6 m M120 (f_X5_writesValue m 0 0 7 M120)) fun v121 M122 => bn (cK 6 m M122 (f_X5_writesValue m 2 0 9 M122)) fun v123 M124 => bn (cK 6 m M124 (f_X5_adds m 2 2 M124)) fun v125 M126 => some M126)
  have k6 : mK R6 m = 6 := (f6.2 m (by omega)).1.1.trans k5
  obtain ⟨R7, s7, f7, z7, ⟨b71, b72, b73⟩, r7, i7⟩ := row_new (B := R6) (b := m + 6) (k := 7) (n := 600) (f := 168) k6 z6 (by omega) (K := fun N5 => bnewa 7 40 N5 fun v M => (sR 6 170 m (some v) M).bind fun M93 => (sI 6 173 m (-1) M93).bind fun M94 => (gRn 6 162 m M94).bind fun v95 => (sA 9 v95 0 3 M94).bind fun M96 => (gRn 6 162 m M96).bind fun v97 => (sA 9 v97 1 2 M96).bind fun M98 => (gRn 6 162 m M98).bind fun v99 => (sA 9 v99 2 1 M98).bind fun M100 => (gRn 6 162 m M100).bind fun v101 => bn (f_X5_more 0 0 0 M100) fun v102 M103 => (sA 9 v101 v102 5 M103).bind fun M104 => (gRn 6 162 m M104).bind fun v105 => bn (f_X5_less 1 0 1 M104) fun v106 M107 => (sA 9 v105 v106 2 M107).bind fun M108 => bn (cK 6 m M108 (f_X5_adds m 0 0 M108)) fun v109 M110 => bn (cK 6 m M110 (f_X5_adds m 1 1 M110)) fun v111 M112 => (cK 6 m M112 (f_X5_sends m 0 M112)).bind fun M114 => (cK 6 m M114 (f_X5_merges m 1 0 M114)).bind fun M116 => bn (cK 6 m M116 (f_X5_removes m 1 0 M116)) fun v117 M118 => bn (cK 6 m M118 (f_X5_adds m 0 0 M118)) fun v119 M120 => bn (cK 6 m M120 (f_X5_writesValue m 0 0 7 M120)) fun v121 M122 => bn (cK 6 m M122 (f_X5_writesValue m 2 0 9 M122)) fun v123 M124 => bn (cK 6 m M124 (f_X5_adds m 2 2 M124)) fun v125 M126 => some M126)
  have k7 : mK R7 m = 6 := (f7.2 m (by omega)).1.1.trans k6
  obtain ⟨R8, s8, f8, z8, ⟨b81, b82, b83⟩, r8, i8⟩ := row_new (B := R7) (b := m + 7) (k := 7) (n := 40) (f := 170) k7 z7 (by omega) (K := fun M93 => (sI 6 173 m (-1) M93).bind fun M94 => (gRn 6 162 m M94).bind fun v95 => (sA 9 v95 0 3 M94).bind fun M96 => (gRn 6 162 m M96).bind fun v97 => (sA 9 v97 1 2 M96).bind fun M98 => (gRn 6 162 m M98).bind fun v99 => (sA 9 v99 2 1 M98).bind fun M100 => (gRn 6 162 m M100).bind fun v101 => bn (f_X5_more 0 0 0 M100) fun v102 M103 => (sA 9 v101 v102 5 M103).bind fun M104 => (gRn 6 162 m M104).bind fun v105 => bn (f_X5_less 1 0 1 M104) fun v106 M107 => (sA 9 v105 v106 2 M107).bind fun M108 => bn (cK 6 m M108 (f_X5_adds m 0 0 M108)) fun v109 M110 => bn (cK 6 m M110 (f_X5_adds m 1 1 M110)) fun v111 M112 => (cK 6 m M112 (f_X5_sends m 0 M112)).bind fun M114 => (cK 6 m M114 (f_X5_merges m 1 0 M114)).bind fun M116 => bn (cK 6 m M116 (f_X5_removes m 1 0 M116)) fun v117 M118 => bn (cK 6 m M118 (f_X5_adds m 0 0 M118)) fun v119 M120 => bn (cK 6 m M120 (f_X5_writesValue m 0 0 7 M120)) fun v121 M122 => bn (cK 6 m M122 (f_X5_writesValue m 2 0 9 M122)) fun v123 M124 => bn (cK 6 m M124 (f_X5_adds m 2 2 M124)) fun v125 M126 => some M126)
  have k8 : mK R8 m = 6 := (f8.2 m (by omega)).1.1.trans k7
  obtain ⟨R9, e9⟩ : ∃ D, D = wI R8 173 m (-1) := ⟨_, rfl⟩
  have f9 : Fo (fun a => a = m) R8 R9 := by rw [e9]; exact foI
  have z9 : mZ R9 = m + 8 := by rw [e9]; exact z8
  have t7 : Fo (fun a => a = m) R7 R9 := f8.tr f9
  have t6 : Fo (fun a => a = m) R6 R9 := f7.tr t7
  have t5 : Fo (fun a => a = m) R5 R9 := f6.tr t6
  have t4 : Fo (fun a => a = m) R4 R9 := f5.tr t5
  have t3 : Fo (fun a => a = m) R3 R9 := f4.tr t4
  have t2 : Fo (fun a => a = m) R2 R9 := f3.tr t3
  have k9 : mK R9 m = 6 := by rw [e9]; exact k8
  have rr : ∀ g, mR R9 g m = if g = 170 then some (m + 7) else if g = 168 then some (m + 6) else if g = 166 then some (m + 5) else if g = 164 then some (m + 4) else if g = 163 then some (m + 3) else if g = 162 then some (m + 2) else mR R2 g m := fun g => by
    rw [e9]; show mR R8 g m = _; rw [r8, r7, r6, r5, r4, r3]
  have ii : ∀ g, mI R9 g m = if g = 173 then -1 else 0 := fun g => by
    rw [e9, mI_wI, i8, i7, i6, i5, i4, i3, i2]; simp only [and_true]
  have c2 := (t3.2 (m + 2) (by omega))
  have c3 := (t4.2 (m + 3) (by omega))
  have c4 := (t5.2 (m + 4) (by omega))
  have c5 := (t6.2 (m + 5) (by omega))
  have c6 := (t7.2 (m + 6) (by omega))
  have c7 := (f9.2 (m + 7) (by omega))
  have c1 := (t2.2 (m + 1) (by omega))
  have hR : Rn R9 m (m + 2) := ⟨k9, by rw [rr]; rfl, c2.1.1.trans b31, c2.1.2.trans b32⟩
  have a9 : mA R9 (m + 2) = fun _ => 0 := (c2.2 (by omega)).2.2.1.trans b33
  have ew : wA R9 (m + 2) (fun _ => 0) = R9 := by rw [← a9, wA_id]
  have deeds := r_deeds hR
  rw [ew] at deeds
  have fE : Fo (fun a => a = m ∨ a = m + 1 ∨ a = m + 2) R1 (wA R9 (m + 2) gS11) := ((f2.mono (fun a h => h.elim Or.inl (fun h => Or.inr (Or.inl h)))).tr (t2.mono (fun a h => Or.inl h))).tr (Fo.wA (Or.inr (Or.inr rfl)))
  refine ⟨wA R9 (m + 2) gS11, ?_, ?_, z9, ⟨⟨k9, ?_, ?_, ?_, ?_, ?_, ?_, ?_⟩, ⟨c1.1.1.trans q2.2.1, c1.1.2.trans q2.2.2⟩, ⟨c2.1.1.trans b31, c2.1.2.trans b32⟩, ⟨c3.1.1.trans b41, c3.1.2.trans b42⟩, ⟨c4.1.1.trans b51, c4.1.2.trans b52⟩, ⟨c5.1.1.trans b61, c5.1.2.trans b62⟩, ⟨c6.1.1.trans b71, c6.1.2.trans b72⟩, ⟨c7.1.1.trans b81, c7.1.2.trans b82⟩⟩, fun i hi => ?_, wA_self _ _ _, ⟨?_, ?_, ?_, ?_, ?_, ?_⟩⟩
  · unfold f_X5_init
    rw [← e0, bnewa_eq, z0, ← e1, ← key0, keys_all (B := R1) (a := m + 1) a1.1 a1.2.1, sR_ok (show mK (wA R1 (m + 1) (keyN 72)) m = 6 from k1), Option.bind_some, ← e2]
    refine (((((s3.trans s4).trans s5).trans s6).trans s7).trans s8).trans ?_
    rw [sI_ok k8, Option.bind_some, ← e9]
    exact deeds
  · have t : Fo (fun a => a = m ∨ a = m + 1 ∨ a = m + 2) M (wA R9 (m + 2) gS11) := ((fo0 f0).tr (fo0 f1)).tr fE
    exact ⟨t.1, fun a ha => ⟨(t.2 a ha).1, fun _ => (t.2 a ha).2 (by omega)⟩⟩
  · show mR R9 160 m = _
    rw [rr]; exact r2
  · show mR R9 162 m = _
    rw [rr]; rfl
  · show mR R9 163 m = _
    rw [rr]; rfl
  · show mR R9 164 m = _
    rw [rr]; rfl
  · show mR R9 166 m = _
    rw [rr]; rfl
  · show mR R9 168 m = _
    rw [rr]; rfl
  · show mR R9 170 m = _
    rw [rr]; rfl
  · rw [mA_ne (show m + 1 ≠ m + 2 by omega), (c1.2 (by omega)).2.2.1, q2.1]; exact if_pos hi
  · show mI R9 165 m = _
    rw [ii]; rfl
  · show mI R9 167 m = _
    rw [ii]; rfl
  · show mI R9 169 m = _
    rw [ii]; rfl
  · show mI R9 171 m = _
    rw [ii]; rfl
  · show mI R9 172 m = _
    rw [ii]; rfl
  · show mI R9 173 m = _
    rw [ii]; rfl
end RI2
