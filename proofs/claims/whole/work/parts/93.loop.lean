/-! THE LAW'S LOOP (written by genlaw.py) -/
theorem and63 (v : Int32) : ∃ n, n < 64 ∧ v &&& 63 = nI n := by
  refine ⟨(v.toBitVec &&& 63#32).toNat, ?_, ?_⟩
  · rw [BitVec.toNat_and]; exact Nat.lt_of_le_of_lt Nat.and_le_right (by decide)
  · apply Int32.toBitVec_inj.1
    show v.toBitVec &&& 63#32 = BitVec.ofNat 32 _
    rw [BitVec.ofNat_toNat, BitVec.setWidth_eq]
theorem lp_bd {L i : Nat} (hL : L ≤ 3072) (hi : 6 * i ≤ L + 6) (h : ¬ (Int32.ofNat L - 6 < nI (6 * i))) : 6 * i + 6 ≤ L := by
  have h' : ¬ (nI L - nI 6 < nI (6 * i)) := h
  by_cases c : 6 ≤ L
  · rw [nI_sub c] at h'
    refine Nat.le_of_not_lt fun q => h' (nI_lt (by omega) (by omega))
  · exfalso
    apply h'
    rw [i32_lt, nI_toI (show 6 * i < 2147483648 by omega)]
    have : (nI L - nI 6).toInt < 0 := by
      rcases (show L = 0 ∨ L = 1 ∨ L = 2 ∨ L = 3 ∨ L = 4 ∨ L = 5 by omega) with rfl | rfl | rfl | rfl | rfl | rfl <;> decide
    omega
section LOOP
variable {p : Program} {l : Launch} {e : Env} {s : State} {m : MethodId} {below : List Frame} {meth : Method} {c : Code} {b L : Nat} {xs : Nat → Int32} {E : KEnv} {x : Nat}
set_option maxHeartbeats 4000000 in
set_option maxRecDepth 100000 in
/-- one call of the law: the switch -/
theorem law_call (hfl : l.stackTraces = false) (hL : L ≤ 3072) (hC : CallFix p m c code 9 s #[Value.ref b] lw_G RL) (hE : EnvOK E s) (hX : va_X b L xs s s.heap) (hbl : b < s.heap.size) (hbA : ¬ eA E b) {Q : State → Prop} {i n : Nat} (hi : 6 * i + 6 ≤ L) (h600 : 600 ≤ n) (hn : n < 100000) {M : Mem} (hI : Inv n x M) {H : Heap} {locs : List Loc} {ls : Array Slot} {cells slots : Nat} (hcs : cells + 60 ≤ 601024 ∧ slots + 3000 ≤ 7293034) (hM : MOK E M H) (hS : va_S (eA E) s.heap H locs) (hl : lv_has ls 9 [(0, .ref b), (1, .ref x), (2, .ref (x + 60)), (3, .ref (x + 68)), (4, .int (nI (6 * i)))]) (k : Nat) (hk : k < 64)
    (kk : ∀ (M2 : Mem) (H : Heap) (locs : List Loc) (ls : Array Slot), Inv (n + 1) x M2 → MOK E M2 H → va_S (eA E) s.heap H locs → lv_has ls 9 [(0, .ref b), (1, .ref x), (2, .ref (x + 60)), (3, .ref (x + 68)), (4, .int (nI (6 * i)))] → W p l e room_1 s m #[Value.ref b] below meth c H locs (cells + 60) (slots + 3000) Q (F0 m 3228 ls [])) : W p l e room_1 s m #[Value.ref b] below meth c H locs cells slots Q (F0 m 40 ls [.int (nI k)]) := by
  obtain ⟨hx, hb, hml, hown, hts⟩ := id hC
  have hz : wfz M := wfz_of hM
  have hj : ∀ j : Nat, j < 6 → vp_in (nI (6 * i) + nI j) L := fun j hj => by rw [nI_add]; exact vp_in_nI (by omega) (by omega)
  have j1 : vp_in (nI (6 * i) + 1) L := hj 1 (by omega)
  have j2 : vp_in (nI (6 * i) + 2) L := hj 2 (by omega)
  have j3 : vp_in (nI (6 * i) + 3) L := hj 3 (by omega)
  have j4 : vp_in (nI (6 * i) + 4) L := hj 4 (by omega)
  have j5 : vp_in (nI (6 * i) + 5) L := hj 5 (by omega)
  match k, hk with
  | 0, _ =>
    refine lv_tableIn (x := nI 0) (off := 228) (tgt := 268) hx hb dL_law_40 (by decide) (by decide) (by decide) (by decide) ?_
    exact lc_0 hfl hC hE hX hbl hbA j1 rfl j2 rfl j3 rfl j4 rfl j5 rfl hcs hM hS hl (case_0 hI) kk
  | 1, _ =>
    refine lv_tableIn (x := nI 1) (off := 332) (tgt := 372) hx hb dL_law_40 (by decide) (by decide) (by decide) (by decide) ?_
    exact lc_1 hfl hC hE hX hbl hbA j1 rfl hcs hM hS hl (case_1 hI hz h600) kk
  | 2, _ =>
    refine lv_tableIn (x := nI 2) (off := 388) (tgt := 428) hx hb dL_law_40 (by decide) (by decide) (by decide) (by decide) ?_
    exact lc_2 hfl hC hE hX hbl hbA  hcs hM hS hl (case_2 hI) kk
  | 3, _ =>
    refine lv_tableIn (x := nI 3) (off := 401) (tgt := 441) hx hb dL_law_40 (by decide) (by decide) (by decide) (by decide) ?_
    exact lc_3 hfl hC hE hX hbl hbA  hcs hM hS hl (case_3 hI) kk
  | 4, _ =>
    refine lv_tableIn (x := nI 4) (off := 414) (tgt := 454) hx hb dL_law_40 (by decide) (by decide) (by decide) (by decide) ?_
    exact lc_4 hfl hC hE hX hbl hbA  hcs hM hS hl (case_4 hI) kk
  | 5, _ =>
    refine lv_tableIn (x := nI 5) (off := 427) (tgt := 467) hx hb dL_law_40 (by decide) (by decide) (by decide) (by decide) ?_
    exact lc_5 hfl hC hE hX hbl hbA  hcs hM hS hl (case_5 hI) kk
  | 6, _ =>
    refine lv_tableIn (x := nI 6) (off := 440) (tgt := 480) hx hb dL_law_40 (by decide) (by decide) (by decide) (by decide) ?_
    exact lc_6 hfl hC hE hX hbl hbA  hcs hM hS hl (case_6 hI) kk
  | 7, _ =>
    refine lv_tableIn (x := nI 7) (off := 453) (tgt := 493) hx hb dL_law_40 (by decide) (by decide) (by decide) (by decide) ?_
    exact lc_7 hfl hC hE hX hbl hbA j1 rfl j2 rfl hcs hM hS hl (case_7 hI) kk
  | 8, _ =>
    refine lv_tableIn (x := nI 8) (off := 521) (tgt := 561) hx hb dL_law_40 (by decide) (by decide) (by decide) (by decide) ?_
    exact lc_8 hfl hC hE hX hbl hbA j1 rfl j2 rfl hcs hM hS hl (case_8 hI) kk
  | 9, _ =>
    refine lv_tableIn (x := nI 9) (off := 596) (tgt := 636) hx hb dL_law_40 (by decide) (by decide) (by decide) (by decide) ?_
    exact lc_9 hfl hC hE hX hbl hbA j1 rfl j2 rfl hcs hM hS hl (case_9 hI) kk
  | 10, _ =>
    refine lv_tableIn (x := nI 10) (off := 671) (tgt := 711) hx hb dL_law_40 (by decide) (by decide) (by decide) (by decide) ?_
    exact lc_10 hfl hC hE hX hbl hbA j1 rfl j2 rfl hcs hM hS hl (case_10 hI) kk
  | 11, _ =>
    refine lv_tableIn (x := nI 11) (off := 746) (tgt := 786) hx hb dL_law_40 (by decide) (by decide) (by decide) (by decide) ?_
    exact lc_11 hfl hC hE hX hbl hbA  hcs hM hS hl (case_11 hI) kk
  | 12, _ =>
    refine lv_tableIn (x := nI 12) (off := 759) (tgt := 799) hx hb dL_law_40 (by decide) (by decide) (by decide) (by decide) ?_
    exact lc_12 hfl hC hE hX hbl hbA j1 rfl j2 rfl hcs hM hS hl (case_12 hI) kk
  | 13, _ =>
    refine lv_tableIn (x := nI 13) (off := 827) (tgt := 867) hx hb dL_law_40 (by decide) (by decide) (by decide) (by decide) ?_
    exact lc_13 hfl hC hE hX hbl hbA j1 rfl j2 rfl j3 rfl hcs hM hS hl (case_13 hI) kk
  | 14, _ =>
    refine lv_tableIn (x := nI 14) (off := 907) (tgt := 947) hx hb dL_law_40 (by decide) (by decide) (by decide) (by decide) ?_
    exact lc_14 hfl hC hE hX hbl hbA j1 rfl j2 rfl j3 rfl hcs hM hS hl (case_14 hI) kk
  | 15, _ =>
    refine lv_tableIn (x := nI 15) (off := 987) (tgt := 1027) hx hb dL_law_40 (by decide) (by decide) (by decide) (by decide) ?_
    exact lc_15 hfl hC hE hX hbl hbA j1 rfl j2 rfl hcs hM hS hl (case_15 hI) kk
  | 16, _ =>
    refine lv_tableIn (x := nI 16) (off := 1062) (tgt := 1102) hx hb dL_law_40 (by decide) (by decide) (by decide) (by decide) ?_
    exact lc_16 hfl hC hE hX hbl hbA j1 rfl j2 rfl hcs hM hS hl (case_16 hI) kk
  | 17, _ =>
    refine lv_tableIn (x := nI 17) (off := 1130) (tgt := 1170) hx hb dL_law_40 (by decide) (by decide) (by decide) (by decide) ?_
    exact lc_17 hfl hC hE hX hbl hbA j1 rfl j2 rfl j3 rfl hcs hM hS hl (case_17 hI) kk
  | 18, _ =>
    refine lv_tableIn (x := nI 18) (off := 1210) (tgt := 1250) hx hb dL_law_40 (by decide) (by decide) (by decide) (by decide) ?_
    exact lc_18 hfl hC hE hX hbl hbA j1 rfl hcs hM hS hl (case_18 hI) kk
  | 19, _ =>
    refine lv_tableIn (x := nI 19) (off := 1266) (tgt := 1306) hx hb dL_law_40 (by decide) (by decide) (by decide) (by decide) ?_
    exact lc_19 hfl hC hE hX hbl hbA j1 rfl j2 rfl hcs hM hS hl (case_19 hI) kk
  | 20, _ =>
    refine lv_tableIn (x := nI 20) (off := 1334) (tgt := 1374) hx hb dL_law_40 (by decide) (by decide) (by decide) (by decide) ?_
    exact lc_20 hfl hC hE hX hbl hbA j1 rfl j2 rfl hcs hM hS hl (case_20 hI) kk
  | 21, _ =>
    refine lv_tableIn (x := nI 21) (off := 1402) (tgt := 1442) hx hb dL_law_40 (by decide) (by decide) (by decide) (by decide) ?_
    exact lc_21 hfl hC hE hX hbl hbA j1 rfl j2 rfl j3 rfl hcs hM hS hl (case_21 hI) kk
  | 22, _ =>
    refine lv_tableIn (x := nI 22) (off := 1482) (tgt := 1522) hx hb dL_law_40 (by decide) (by decide) (by decide) (by decide) ?_
    exact lc_22 hfl hC hE hX hbl hbA j1 rfl j2 rfl hcs hM hS hl (case_22 hI) kk
  | 23, _ =>
    refine lv_tableIn (x := nI 23) (off := 1550) (tgt := 1590) hx hb dL_law_40 (by decide) (by decide) (by decide) (by decide) ?_
    exact lc_23 hfl hC hE hX hbl hbA j1 rfl hcs hM hS hl (case_23 hI) kk
  | 24, _ =>
    refine lv_tableIn (x := nI 24) (off := 1606) (tgt := 1646) hx hb dL_law_40 (by decide) (by decide) (by decide) (by decide) ?_
    exact lc_24 hfl hC hE hX hbl hbA j1 rfl j2 rfl hcs hM hS hl (case_24 hI) kk
  | 25, _ =>
    refine lv_tableIn (x := nI 25) (off := 1674) (tgt := 1714) hx hb dL_law_40 (by decide) (by decide) (by decide) (by decide) ?_
    exact lc_25 hfl hC hE hX hbl hbA j1 rfl j2 rfl hcs hM hS hl (case_25 hI) kk
  | 26, _ =>
    refine lv_tableIn (x := nI 26) (off := 1742) (tgt := 1782) hx hb dL_law_40 (by decide) (by decide) (by decide) (by decide) ?_
    exact lc_26 hfl hC hE hX hbl hbA j1 rfl j2 rfl hcs hM hS hl (case_26 hI) kk
  | 27, _ =>
    refine lv_tableIn (x := nI 27) (off := 1810) (tgt := 1850) hx hb dL_law_40 (by decide) (by decide) (by decide) (by decide) ?_
    exact lc_27 hfl hC hE hX hbl hbA j1 rfl j2 rfl hcs hM hS hl (case_27 hI) kk
  | 28, _ =>
    refine lv_tableIn (x := nI 28) (off := 1878) (tgt := 1918) hx hb dL_law_40 (by decide) (by decide) (by decide) (by decide) ?_
    exact lc_28 hfl hC hE hX hbl hbA j1 rfl hcs hM hS hl (case_28 hI) kk
  | 29, _ =>
    refine lv_tableIn (x := nI 29) (off := 1934) (tgt := 1974) hx hb dL_law_40 (by decide) (by decide) (by decide) (by decide) ?_
    exact lc_29 hfl hC hE hX hbl hbA  hcs hM hS hl (case_29 hI) kk
  | 30, _ =>
    refine lv_tableIn (x := nI 30) (off := 1947) (tgt := 1987) hx hb dL_law_40 (by decide) (by decide) (by decide) (by decide) ?_
    exact lc_30 hfl hC hE hX hbl hbA  hcs hM hS hl (case_30 hI) kk
  | 31, _ =>
    refine lv_tableIn (x := nI 31) (off := 1960) (tgt := 2000) hx hb dL_law_40 (by decide) (by decide) (by decide) (by decide) ?_
    exact lc_31 hfl hC hE hX hbl hbA  hcs hM hS hl (case_31 hI) kk
  | 32, _ =>
    refine lv_tableIn (x := nI 32) (off := 1973) (tgt := 2013) hx hb dL_law_40 (by decide) (by decide) (by decide) (by decide) ?_
    exact lc_32 hfl hC hE hX hbl hbA  hcs hM hS hl (case_32 hI) kk
  | 33, _ =>
    refine lv_tableIn (x := nI 33) (off := 2014) (tgt := 2054) hx hb dL_law_40 (by decide) (by decide) (by decide) (by decide) ?_
    exact lc_33 hfl hC hE hX hbl hbA  hcs hM hS hl (case_33 hI) kk
  | 34, _ =>
    refine lv_tableIn (x := nI 34) (off := 2057) (tgt := 2097) hx hb dL_law_40 (by decide) (by decide) (by decide) (by decide) ?_
    exact lc_34 hfl hC hE hX hbl hbA  hcs hM hS hl (case_34 hI) kk
  | 35, _ =>
    refine lv_tableIn (x := nI 35) (off := 2070) (tgt := 2110) hx hb dL_law_40 (by decide) (by decide) (by decide) (by decide) ?_
    exact lc_35 hfl hC hE hX hbl hbA j1 rfl hcs hM hS hl (case_35 hI) kk
  | 36, _ =>
    refine lv_tableIn (x := nI 36) (off := 2126) (tgt := 2166) hx hb dL_law_40 (by decide) (by decide) (by decide) (by decide) ?_
    exact lc_36 hfl hC hE hX hbl hbA j1 rfl j2 rfl hcs hM hS hl (case_36 hI) kk
  | 37, _ =>
    refine lv_tableIn (x := nI 37) (off := 2201) (tgt := 2241) hx hb dL_law_40 (by decide) (by decide) (by decide) (by decide) ?_
    exact lc_37 hfl hC hE hX hbl hbA j1 rfl j2 rfl j3 rfl hcs hM hS hl (case_37 hI hz hn) kk
  | 38, _ =>
    refine lv_tableIn (x := nI 38) (off := 2281) (tgt := 2321) hx hb dL_law_40 (by decide) (by decide) (by decide) (by decide) ?_
    exact lc_38 hfl hC hE hX hbl hbA j1 rfl j2 rfl j3 rfl hcs hM hS hl (case_38 hI hz hn) kk
  | 39, _ =>
    refine lv_tableIn (x := nI 39) (off := 2361) (tgt := 2401) hx hb dL_law_40 (by decide) (by decide) (by decide) (by decide) ?_
    exact lc_39 hfl hC hE hX hbl hbA j1 rfl j2 rfl hcs hM hS hl (case_39 hI hz hn) kk
  | 40, _ =>
    refine lv_tableIn (x := nI 40) (off := 2429) (tgt := 2469) hx hb dL_law_40 (by decide) (by decide) (by decide) (by decide) ?_
    exact lc_40 hfl hC hE hX hbl hbA j1 rfl j2 rfl hcs hM hS hl (case_40 hI hz hn) kk
  | 41, _ =>
    refine lv_tableIn (x := nI 41) (off := 2497) (tgt := 2537) hx hb dL_law_40 (by decide) (by decide) (by decide) (by decide) ?_
    exact lc_41 hfl hC hE hX hbl hbA j1 rfl j2 rfl j3 rfl hcs hM hS hl (case_41 hI hz hn) kk
  | 42, _ =>
    refine lv_tableIn (x := nI 42) (off := 2577) (tgt := 2617) hx hb dL_law_40 (by decide) (by decide) (by decide) (by decide) ?_
    exact lc_42 hfl hC hE hX hbl hbA j1 rfl j2 rfl hcs hM hS hl (case_42 hI hz hn) kk
  | 43, _ =>
    refine lv_tableIn (x := nI 43) (off := 2652) (tgt := 2692) hx hb dL_law_40 (by decide) (by decide) (by decide) (by decide) ?_
    exact lc_43 hfl hC hE hX hbl hbA  hcs hM hS hl (case_43 hI hz hn) kk
  | 44, _ =>
    refine lv_tableIn (x := nI 44) (off := 2665) (tgt := 2705) hx hb dL_law_40 (by decide) (by decide) (by decide) (by decide) ?_
    exact lc_44 hfl hC hE hX hbl hbA j1 rfl hcs hM hS hl (case_44 hI hz hn) kk
  | 45, _ =>
    refine lv_tableIn (x := nI 45) (off := 2721) (tgt := 2761) hx hb dL_law_40 (by decide) (by decide) (by decide) (by decide) ?_
    exact lc_45 hfl hC hE hX hbl hbA j1 rfl j2 rfl hcs hM hS hl (case_45 hI hz hn) kk
  | 46, _ =>
    refine lv_tableIn (x := nI 46) (off := 2796) (tgt := 2836) hx hb dL_law_40 (by decide) (by decide) (by decide) (by decide) ?_
    exact lc_46 hfl hC hE hX hbl hbA j1 rfl hcs hM hS hl (case_46 hI hz hn) kk
  | 47, _ =>
    refine lv_tableIn (x := nI 47) (off := 2852) (tgt := 2892) hx hb dL_law_40 (by decide) (by decide) (by decide) (by decide) ?_
    exact lc_47 hfl hC hE hX hbl hbA j1 rfl hcs hM hS hl (case_47 hI hz hn) kk
  | 48, _ =>
    refine lv_tableIn (x := nI 48) (off := 2908) (tgt := 2948) hx hb dL_law_40 (by decide) (by decide) (by decide) (by decide) ?_
    exact lc_48 hfl hC hE hX hbl hbA  hcs hM hS hl (case_48 hI hz hn) kk
  | 49, _ =>
    refine lv_tableIn (x := nI 49) (off := 2952) (tgt := 2992) hx hb dL_law_40 (by decide) (by decide) (by decide) (by decide) ?_
    exact lc_49 hfl hC hE hX hbl hbA j1 rfl hcs hM hS hl (case_49 hI hz hn) kk
  | 50, _ =>
    refine lv_tableIn (x := nI 50) (off := 3008) (tgt := 3048) hx hb dL_law_40 (by decide) (by decide) (by decide) (by decide) ?_
    exact lc_50 hfl hC hE hX hbl hbA j1 rfl hcs hM hS hl (case_50 hI) kk
  | 51, _ =>
    refine lv_tableIn (x := nI 51) (off := 3064) (tgt := 3104) hx hb dL_law_40 (by decide) (by decide) (by decide) (by decide) ?_
    exact lc_51 hfl hC hE hX hbl hbA j1 rfl j2 rfl hcs hM hS hl (case_51 hI) kk
  | 52, _ =>
    refine lv_tableIn (x := nI 52) (off := 3132) (tgt := 3172) hx hb dL_law_40 (by decide) (by decide) (by decide) (by decide) ?_
    exact lc_52 hfl hC hE hX hbl hbA j1 rfl hcs hM hS hl (case_52 hI) kk
  | q + 53, hk =>
    refine lv_tableOut (x := nI (q + 53)) (tgt := 3228) hx hb dL_law_40 (Or.inr (by rw [nI_toI (by omega)]; omega)) (by decide) ?_
    refine W.widen (k := cells + 60) (n := slots + 3000) (by omega) (by omega) ?_
    exact kk M H locs ls (hI.mono (by omega)) hM hS hl
set_option maxHeartbeats 4000000 in
set_option maxRecDepth 100000 in
theorem law_loop (hfl : l.stackTraces = false) (hL : L ≤ 3072) (C0 : lw_At p s m meth c b L xs) (hE : EnvOK E s) (heB : eB E = s.heap.size) : ∀ (n i : Nat), i + n = 600 → 6 * i ≤ L + 6 → ∀ (M : Mem) (H : Heap) (locs : List Loc) (ls : Array Slot) (cells slots : Nat), cells ≤ 100 + 60 * i → slots ≤ 30000 + 3000 * i → Inv (600 + i) x M → MOK E M H → va_S (eA E) s.heap H locs → lv_has ls 9 [(0, .ref b), (1, .ref x), (2, .ref (x + 60)), (3, .ref (x + 68)), (4, .int (nI (6 * i)))] → W p l e room_1 s m #[Value.ref b] below meth c H locs cells slots (lw_Z below #[Value.ref b] s) (F0 m 23 ls []) := by
  obtain ⟨hx, hb, hr, hml, hown, hts, hX, hbl, hlocks, hgv⟩ := id C0
  have htG : ∀ w ∈ lw_G, w.before #[Value.ref b] s = true := fun w hw => hts w (lw_Gin w hw)
  have hC : CallFix p m c code 9 s #[Value.ref b] lw_G RL := ⟨hx, hb, hml, hown, htG⟩
  have hbA : ¬ eA E b := by unfold eA; rw [heB]; exact Nat.not_le.mpr hbl
  intro n
  induction n with
  | zero => intro i hi h6; omega
  | succ n ih =>
    intro i hi h6 M H locs ls cells slots hc hs hI hM hS hl
    refine lv_iload hx hb dL_law_23 (lv_at hl 4 rfl) ?_
    refine lv_aload_n hx hb dL_law_25 rfl (lv_at hl 0 rfl) ?_
    refine va_slen hx hb hX hbl hbA hS dL_law_26 ?_
    refine lv_bipush (v := 6) hx hb dL_law_27 (by decide) ?_
    refine lv_isub hx hb dL_law_29 ?_
    refine lv_icmp_gt (tgt := 3234) hx hb dL_law_30 (by decide) (fun h => ?_) (fun h => ?_)
    · refine lv_iconst (v := 1) hx hb dL_law_3234 (by decide) ?_
      refine va_forget (fun q hq => ?_) ?_
      · have := hS.2.2 q hq
        unfold eA at this
        rwa [heB] at this
      refine W.widen (k := 601024) (n := 7293034) (by omega) (by omega) ?_
      exact lw_ret (d0 := s.drawn) (Drawn.sameBut.refl s.drawn lw_cs) hx hb hr hlocks dL_law_3235
    · have hb6 := lp_bd hL h6 h
      refine lv_aload_n hx hb dL_law_33 rfl (lv_at hl 0 rfl) ?_
      refine lv_iload hx hb dL_law_34 (lv_at hl 4 rfl) ?_
      refine rsl (v := xs (nI (6 * i)).toNatClampNeg) hx hb hX hbl hbA hS (vp_in_nI (by omega) (by omega)) rfl dL_law_36 ?_
      refine lv_bipush (v := 63) hx hb dL_law_37 (by decide) ?_
      refine lv_iand hx hb dL_law_39 ?_
      obtain ⟨k, hk, ek⟩ := and63 (xs (nI (6 * i)).toNatClampNeg)
      rw [ek]
      refine law_call hfl hL hC hE hX hbl hbA hb6 (n := 600 + i) (by omega) (by omega) hI ⟨by omega, by omega⟩ hM hS hl k hk (fun M2 H locs ls hI hM hS hl => ?_)
      refine lv_iinc (k := 4) (v := nI (6 * (i + 1))) (lv' := [(4, .int (nI (6 * (i + 1)))), (0, .ref b), (1, .ref x), (2, .ref (x + 60)), (3, .ref (x + 68))]) hx hb dL_law_3228 hl rfl (nI_add (6 * i) 6) (by decide) rfl (fun ls hl => ?_)
      refine lv_goto (tgt := 23) hx hb dL_law_3231 (by decide) ?_
      exact ih (i + 1) (by omega) (by omega) M2 H locs ls _ _ (by omega) (by omega) hI hM hS (lv_sub hl [1, 2, 3, 4, 0] rfl)
end LOOP
