/-! the cases of the law's switch -/
noncomputable def fr_law_35 (x mm out : Nat) (kv : Int32) (a1 : Int32) (M3 : Mem) : Option Mem :=
  bn (cK 6 mm M3 (f_X5_senderOf mm a1 M3)) fun v4 M3 =>
  bn (cK 6 mm M3 (f_X5_thrown mm M3)) fun v6 M5 =>
  (if v6 = kv then
  (if kv = 0 then
  (gL out 0 M5).bind fun v7 =>
  (if (lg_cmp v7 v4.toInt64) = 0 then
  some M5
  else
  none)
  else
  some M5)
  else
  none)
/-- case 35: the wrapped call, and what follows it wherever the next address lies -/
def fk_law_35 (x mm out : Nat) (a1 : Int32) (M : Mem) (P : Mem → Prop) : Prop := ∃ kv M1, f_L_senderOf x a1 out M = some (kv, M1) ∧ ∀ z, wfz (setZ M1 z) → ∃ M2, fr_law_35 x mm out kv a1 (setZ M1 z) = some M2 ∧ P M2
set_option maxHeartbeats 4000000 in
set_option maxRecDepth 100000 in
theorem lc_35 {p : Program} {l : Launch} {e : Env} {s : State} {m : MethodId} {args : Array Value} {below : List Frame} {meth : Method} {c : Code} {E : KEnv} {H : Heap} {locs : List Loc} {ls : Array Slot} {cells slots : Nat} {Q : State → Prop} {M : Mem} {P : Mem → Prop} {b L x mm out : Nat} {xs : Nat → Int32} {x4 a1 : Int32} (hfl : l.stackTraces = false) (hC : CallFix p m c code 9 s args lw_G RL) (hE : EnvOK E s) (hX : va_X b L xs s s.heap) (hbl : b < s.heap.size) (hbA : ¬ eA E b) (hin1 : vp_in (x4 + 1) L) (ha1 : xs (x4 + 1).toNatClampNeg = a1) (hcs : cells + 60 ≤ 601024 ∧ slots + 3000 ≤ 7293034) (hM : MOK E M H) (hS : va_S (eA E) s.heap H locs) (hl : lv_has ls 9 [(0, .ref b), (1, .ref x), (2, .ref mm), (3, .ref out), (4, .int x4)]) (h : fk_law_35 x mm out a1 M P)
    (hk : ∀ (M2 : Mem) (H : Heap) (locs : List Loc) (ls : Array Slot), P M2 → MOK E M2 H → va_S (eA E) s.heap H locs → lv_has ls 9 [(0, .ref b), (1, .ref x), (2, .ref mm), (3, .ref out), (4, .int x4)] → W p l e room_1 s m args below meth c H locs (cells + 60) (slots + 3000) Q (F0 m 3228 ls [])) : W p l e room_1 s m args below meth c H locs cells slots Q (F0 m 2110 ls []) := by
  obtain ⟨hx, hb, hml, hown, hts⟩ := id hC
  refine lv_aload_n hx hb dL_law_2110 rfl (lv_at hl 1 rfl) ?_
  refine lv_aload_n hx hb dL_law_2111 rfl (lv_at hl 0 rfl) ?_
  refine lv_iload hx hb dL_law_2112 (lv_at hl 4 rfl) ?_
  refine lv_iconst (v := 1) hx hb dL_law_2114 (by decide) ?_
  refine lv_iadd hx hb dL_law_2115 ?_
  refine rsl hx hb hX hbl hbA hS hin1 ha1 dL_law_2116 ?_
  refine lv_aload_n hx hb dL_law_2117 rfl (lv_at hl 3 rfl) ?_
  obtain ⟨kv, M1, h1, h⟩ := h
  refine kSW (As := [.ref x, .int a1, .ref out]) (rest := []) hC hE hS hM (mt_L_senderOf _ hfl E x a1 out _ _ _ h1) (gwSW qw_928 qw_929 qw_91 qz_L_senderOf) ⟨rfl, rfl, (Nat.le_of_ble_eq_true rfl), (Nat.le_of_ble_eq_true rfl)⟩ dd_L_senderOf rfl rfl hl.1 (Nat.le_of_ble_eq_true rfl) dL_law_2118 ⟨by have := hcs.1; show _ ≤ 601024; omega, by have := hcs.2; show _ ≤ 7293034; omega⟩ (fun z H locs hM hS => ?_)
  obtain ⟨M2, h, hP⟩ := h z (wfz_of hM)
  unfold fr_law_35 at h
  generalize setZ M1 z = M3 at h hM
  refine lv_istore (lv' := [(5, .int kv), (0, .ref b), (1, .ref x), (2, .ref mm), (3, .ref out), (4, .int x4)]) hx hb dL_law_2121 hl (by decide) rfl (fun ls hl => ?_)
  refine lv_aload_n hx hb dL_law_2123 rfl (lv_at hl 3 rfl) ?_
  refine lv_aload_n hx hb dL_law_2124 rfl (lv_at hl 1 rfl) ?_
  refine lv_iload hx hb dL_law_2125 (lv_at hl 5 rfl) ?_
  refine lv_iconst (v := 1) hx hb dL_law_2127 (by decide) ?_
  refine lv_iadd hx hb dL_law_2128 ?_
  refine rsl hx hb hX hbl hbA hS hin1 ha1 dL_law_2129 ?_
  obtain ⟨v4, M3, h1, h⟩ := ob2 h
  obtain ⟨hk1, h1⟩ := ifg h1
  refine kV1 (ci := 5) (As := [.int a1]) (rest := []) hC hE hS hM (mt_X5_senderOf _ E mm a1 _ _ _ h1) (gwV qw_1525 qw_1526 qw_1527 qw_103 qw_1528) ⟨rfl, rfl, (Nat.le_of_ble_eq_true rfl), (Nat.le_of_ble_eq_true rfl)⟩ dd_X5_senderOf rfl hk1 rfl rfl hl.1 (Nat.le_of_ble_eq_true rfl) dL_law_2130 ⟨by have := hcs.1; show _ ≤ 601024; omega, by have := hcs.2; show _ ≤ 7293034; omega⟩ (fun H locs hM hS => ?_)
  refine lv_istore (lv' := [(6, .int v4), (5, .int kv), (0, .ref b), (1, .ref x), (2, .ref mm), (3, .ref out), (4, .int x4)]) hx hb dL_law_2133 hl (by decide) rfl (fun ls hl => ?_)
  refine lv_aload_n hx hb dL_law_2135 rfl (lv_at hl 4 rfl) ?_
  obtain ⟨v6, M5, h1, h⟩ := ob2 h
  obtain ⟨hk1, h1⟩ := ifg h1
  refine kV1 (ci := 5) (As := []) (rest := []) hC hE hS hM (mt_X5_thrown _ E mm _ _ _ h1) (gwV qw_1233 qw_1234 qw_1235 qw_103 qw_1236) ⟨rfl, rfl, (Nat.le_of_ble_eq_true rfl), (Nat.le_of_ble_eq_true rfl)⟩ dd_X5_thrown rfl hk1 rfl rfl hl.1 (Nat.le_of_ble_eq_true rfl) dL_law_2136 ⟨by have := hcs.1; show _ ≤ 601024; omega, by have := hcs.2; show _ ≤ 7293034; omega⟩ (fun H locs hM hS => ?_)
  refine lv_iload hx hb dL_law_2139 (lv_at hl 1 rfl) ?_
  refine lv_icmp_eq (tgt := 2146) hx hb dL_law_2141 (by decide) (fun c1 => ?_) (fun c1 => ?_)
  · have h := ifp c1 h
    refine lv_iload hx hb dL_law_2146 (lv_at hl 1 rfl) ?_
    refine lv_if_ne (tgt := 2163) hx hb dL_law_2148 (by decide) (fun c1 => ?_) (fun c1 => ?_)
    · have h := ifn c1 h
      refine lv_goto (tgt := 3228) hx hb dL_law_2163 (by decide) ?_
      cases h
      refine W.widen (k := cells + 60) (n := slots + 3000) (by omega) (by omega) ?_
      exact hk _ _ _ _ hP hM hS (lv_sub hl [2, 3, 4, 5, 6] rfl)
    · have h := ifp c1 h
      refine lv_aload_n hx hb dL_law_2151 rfl (lv_at hl 5 rfl) ?_
      refine lv_iconst (v := 0) hx hb dL_law_2152 (by decide) ?_
      obtain ⟨v7, h1, h⟩ := ob h
      refine r_lald hx hb hE hM h1 dL_law_2153 ?_
      refine lv_iload hx hb dL_law_2154 (lv_at hl 0 rfl) ?_
      refine lv_i2l (v := v4.toInt64) hx hb dL_law_2156 rfl ?_
      refine W.lcmp hx hb dL_law_2157 ?_
      refine lv_if_eq (tgt := 2163) hx hb dL_law_2158 (by decide) (fun c1 => ?_) (fun c1 => ?_)
      · have h := ifp c1 h
        refine lv_goto (tgt := 3228) hx hb dL_law_2163 (by decide) ?_
        cases h
        refine W.widen (k := cells + 60) (n := slots + 3000) (by omega) (by omega) ?_
        exact hk _ _ _ _ hP hM hS (lv_sub hl [2, 3, 4, 5, 6] rfl)
      · have h := ifn c1 h
        refine lv_iconst (v := 0) hx hb dL_law_2161 (by decide) ?_
        cases h
  · have h := ifn c1 h
    refine lv_iconst (v := 0) hx hb dL_law_2144 (by decide) ?_
    cases h

noncomputable def fr_law_36 (x mm out : Nat) (kv : Int32) (a1 : Int32) (a2 : Int32) (M3 : Mem) : Option Mem :=
  bn (cK 6 mm M3 (f_X5_isNews mm a1 a2 M3)) fun v4 M3 =>
  bn (cK 6 mm M3 (f_X5_thrown mm M3)) fun v6 M5 =>
  (if v6 = kv then
  (if kv = 0 then
  (gL out 0 M5).bind fun v7 =>
  (if v4 = 0 then
  (if (lg_cmp v7 0) = 0 then
  some M5
  else
  none)
  else
  (if (lg_cmp v7 1) = 0 then
  some M5
  else
  none))
  else
  some M5)
  else
  none)
/-- case 36: the wrapped call, and what follows it wherever the next address lies -/
def fk_law_36 (x mm out : Nat) (a1 : Int32) (a2 : Int32) (M : Mem) (P : Mem → Prop) : Prop := ∃ kv M1, f_L_isNews x a1 a2 out M = some (kv, M1) ∧ ∀ z, wfz (setZ M1 z) → ∃ M2, fr_law_36 x mm out kv a1 a2 (setZ M1 z) = some M2 ∧ P M2
set_option maxHeartbeats 4000000 in
set_option maxRecDepth 100000 in
theorem lc_36 {p : Program} {l : Launch} {e : Env} {s : State} {m : MethodId} {args : Array Value} {below : List Frame} {meth : Method} {c : Code} {E : KEnv} {H : Heap} {locs : List Loc} {ls : Array Slot} {cells slots : Nat} {Q : State → Prop} {M : Mem} {P : Mem → Prop} {b L x mm out : Nat} {xs : Nat → Int32} {x4 a1 a2 : Int32} (hfl : l.stackTraces = false) (hC : CallFix p m c code 9 s args lw_G RL) (hE : EnvOK E s) (hX : va_X b L xs s s.heap) (hbl : b < s.heap.size) (hbA : ¬ eA E b) (hin1 : vp_in (x4 + 1) L) (ha1 : xs (x4 + 1).toNatClampNeg = a1) (hin2 : vp_in (x4 + 2) L) (ha2 : xs (x4 + 2).toNatClampNeg = a2) (hcs : cells + 60 ≤ 601024 ∧ slots + 3000 ≤ 7293034) (hM : MOK E M H) (hS : va_S (eA E) s.heap H locs) (hl : lv_has ls 9 [(0, .ref b), (1, .ref x), (2, .ref mm), (3, .ref out), (4, .int x4)]) (h : fk_law_36 x mm out a1 a2 M P)
    (hk : ∀ (M2 : Mem) (H : Heap) (locs : List Loc) (ls : Array Slot), P M2 → MOK E M2 H → va_S (eA E) s.heap H locs → lv_has ls 9 [(0, .ref b), (1, .ref x), (2, .ref mm), (3, .ref out), (4, .int x4)] → W p l e room_1 s m args below meth c H locs (cells + 60) (slots + 3000) Q (F0 m 3228 ls [])) : W p l e room_1 s m args below meth c H locs cells slots Q (F0 m 2166 ls []) := by
  obtain ⟨hx, hb, hml, hown, hts⟩ := id hC
  refine lv_aload_n hx hb dL_law_2166 rfl (lv_at hl 1 rfl) ?_
  refine lv_aload_n hx hb dL_law_2167 rfl (lv_at hl 0 rfl) ?_
  refine lv_iload hx hb dL_law_2168 (lv_at hl 4 rfl) ?_
  refine lv_iconst (v := 1) hx hb dL_law_2170 (by decide) ?_
  refine lv_iadd hx hb dL_law_2171 ?_
  refine rsl hx hb hX hbl hbA hS hin1 ha1 dL_law_2172 ?_
  refine lv_aload_n hx hb dL_law_2173 rfl (lv_at hl 0 rfl) ?_
  refine lv_iload hx hb dL_law_2174 (lv_at hl 4 rfl) ?_
  refine lv_iconst (v := 2) hx hb dL_law_2176 (by decide) ?_
  refine lv_iadd hx hb dL_law_2177 ?_
  refine rsl hx hb hX hbl hbA hS hin2 ha2 dL_law_2178 ?_
  refine lv_aload_n hx hb dL_law_2179 rfl (lv_at hl 3 rfl) ?_
  obtain ⟨kv, M1, h1, h⟩ := h
  refine kSW (As := [.ref x, .int a1, .int a2, .ref out]) (rest := []) hC hE hS hM (mt_L_isNews _ hfl E x a1 a2 out _ _ _ h1) (gwSW qw_940 qw_941 qw_91 qz_L_isNews) ⟨rfl, rfl, (Nat.le_of_ble_eq_true rfl), (Nat.le_of_ble_eq_true rfl)⟩ dd_L_isNews rfl rfl hl.1 (Nat.le_of_ble_eq_true rfl) dL_law_2180 ⟨by have := hcs.1; show _ ≤ 601024; omega, by have := hcs.2; show _ ≤ 7293034; omega⟩ (fun z H locs hM hS => ?_)
  obtain ⟨M2, h, hP⟩ := h z (wfz_of hM)
  unfold fr_law_36 at h
  generalize setZ M1 z = M3 at h hM
  refine lv_istore (lv' := [(5, .int kv), (0, .ref b), (1, .ref x), (2, .ref mm), (3, .ref out), (4, .int x4)]) hx hb dL_law_2183 hl (by decide) rfl (fun ls hl => ?_)
  refine lv_aload_n hx hb dL_law_2185 rfl (lv_at hl 3 rfl) ?_
  refine lv_aload_n hx hb dL_law_2186 rfl (lv_at hl 1 rfl) ?_
  refine lv_iload hx hb dL_law_2187 (lv_at hl 5 rfl) ?_
  refine lv_iconst (v := 1) hx hb dL_law_2189 (by decide) ?_
  refine lv_iadd hx hb dL_law_2190 ?_
  refine rsl hx hb hX hbl hbA hS hin1 ha1 dL_law_2191 ?_
  refine lv_aload_n hx hb dL_law_2192 rfl (lv_at hl 1 rfl) ?_
  refine lv_iload hx hb dL_law_2193 (lv_at hl 5 rfl) ?_
  refine lv_iconst (v := 2) hx hb dL_law_2195 (by decide) ?_
  refine lv_iadd hx hb dL_law_2196 ?_
  refine rsl hx hb hX hbl hbA hS hin2 ha2 dL_law_2197 ?_
  obtain ⟨v4, M3, h1, h⟩ := ob2 h
  obtain ⟨hk1, h1⟩ := ifg h1
  refine kV1 (ci := 5) (As := [.int a1, .int a2]) (rest := []) hC hE hS hM (mt_X5_isNews _ E mm a1 a2 _ _ _ h1) (gwV qw_1533 qw_1534 qw_1535 qw_103 qw_1536) ⟨rfl, rfl, (Nat.le_of_ble_eq_true rfl), (Nat.le_of_ble_eq_true rfl)⟩ dd_X5_isNews rfl hk1 rfl rfl hl.1 (Nat.le_of_ble_eq_true rfl) dL_law_2198 ⟨by have := hcs.1; show _ ≤ 601024; omega, by have := hcs.2; show _ ≤ 7293034; omega⟩ (fun H locs hM hS => ?_)
  refine lv_istore (lv' := [(6, .int v4), (5, .int kv), (0, .ref b), (1, .ref x), (2, .ref mm), (3, .ref out), (4, .int x4)]) hx hb dL_law_2201 hl (by decide) rfl (fun ls hl => ?_)
  refine lv_aload_n hx hb dL_law_2203 rfl (lv_at hl 4 rfl) ?_
  obtain ⟨v6, M5, h1, h⟩ := ob2 h
  obtain ⟨hk1, h1⟩ := ifg h1
  refine kV1 (ci := 5) (As := []) (rest := []) hC hE hS hM (mt_X5_thrown _ E mm _ _ _ h1) (gwV qw_1233 qw_1234 qw_1235 qw_103 qw_1236) ⟨rfl, rfl, (Nat.le_of_ble_eq_true rfl), (Nat.le_of_ble_eq_true rfl)⟩ dd_X5_thrown rfl hk1 rfl rfl hl.1 (Nat.le_of_ble_eq_true rfl) dL_law_2204 ⟨by have := hcs.1; show _ ≤ 601024; omega, by have := hcs.2; show _ ≤ 7293034; omega⟩ (fun H locs hM hS => ?_)
  refine lv_iload hx hb dL_law_2207 (lv_at hl 1 rfl) ?_
  refine lv_icmp_eq (tgt := 2214) hx hb dL_law_2209 (by decide) (fun c1 => ?_) (fun c1 => ?_)
  · have h := ifp c1 h
    refine lv_iload hx hb dL_law_2214 (lv_at hl 1 rfl) ?_
    refine lv_if_ne (tgt := 2238) hx hb dL_law_2216 (by decide) (fun c1 => ?_) (fun c1 => ?_)
    · have h := ifn c1 h
      refine lv_goto (tgt := 3228) hx hb dL_law_2238 (by decide) ?_
      cases h
      refine W.widen (k := cells + 60) (n := slots + 3000) (by omega) (by omega) ?_
      exact hk _ _ _ _ hP hM hS (lv_sub hl [2, 3, 4, 5, 6] rfl)
    · have h := ifp c1 h
      refine lv_aload_n hx hb dL_law_2219 rfl (lv_at hl 5 rfl) ?_
      refine lv_iconst (v := 0) hx hb dL_law_2220 (by decide) ?_
      obtain ⟨v7, h1, h⟩ := ob h
      refine r_lald hx hb hE hM h1 dL_law_2221 ?_
      refine lv_iload hx hb dL_law_2222 (lv_at hl 0 rfl) ?_
      refine lv_if_eq (tgt := 2231) hx hb dL_law_2224 (by decide) (fun c1 => ?_) (fun c1 => ?_)
      · have h := ifp c1 h
        refine lv_lconst (v := 0) hx hb dL_law_2231 (by decide) ?_
        refine W.lcmp hx hb dL_law_2232 ?_
        refine lv_if_eq (tgt := 2238) hx hb dL_law_2233 (by decide) (fun c1 => ?_) (fun c1 => ?_)
        · have h := ifp c1 h
          refine lv_goto (tgt := 3228) hx hb dL_law_2238 (by decide) ?_
          cases h
          refine W.widen (k := cells + 60) (n := slots + 3000) (by omega) (by omega) ?_
          exact hk _ _ _ _ hP hM hS (lv_sub hl [2, 3, 4, 5, 6] rfl)
        · have h := ifn c1 h
          refine lv_iconst (v := 0) hx hb dL_law_2236 (by decide) ?_
          cases h
      · have h := ifn c1 h
        refine lv_lconst (v := 1) hx hb dL_law_2227 (by decide) ?_
        refine lv_goto (tgt := 2232) hx hb dL_law_2228 (by decide) ?_
        refine W.lcmp hx hb dL_law_2232 ?_
        refine lv_if_eq (tgt := 2238) hx hb dL_law_2233 (by decide) (fun c1 => ?_) (fun c1 => ?_)
        · have h := ifp c1 h
          refine lv_goto (tgt := 3228) hx hb dL_law_2238 (by decide) ?_
          cases h
          refine W.widen (k := cells + 60) (n := slots + 3000) (by omega) (by omega) ?_
          exact hk _ _ _ _ hP hM hS (lv_sub hl [2, 3, 4, 5, 6] rfl)
        · have h := ifn c1 h
          refine lv_iconst (v := 0) hx hb dL_law_2236 (by decide) ?_
          cases h
  · have h := ifn c1 h
    refine lv_iconst (v := 0) hx hb dL_law_2212 (by decide) ?_
    cases h

noncomputable def fr_law_37 (x mm out : Nat) (kv : Int32) (a1 : Int32) (a2 : Int32) (a3 : Int32) (M3 : Mem) : Option Mem :=
  bn (cK 6 mm M3 (f_X5_increment mm a1 a2 a3 M3)) fun v4 M3 =>
  bn (cK 6 mm M3 (f_X5_thrown mm M3)) fun v6 M5 =>
  (if v6 = kv then
  (if kv = 0 then
  (gL out 0 M5).bind fun v7 =>
  (if (lg_cmp v7 v4.toInt64) = 0 then
  some M5
  else
  none)
  else
  some M5)
  else
  none)
/-- case 37: the wrapped call, and what follows it wherever the next address lies -/
def fk_law_37 (x mm out : Nat) (a1 : Int32) (a2 : Int32) (a3 : Int32) (M : Mem) (P : Mem → Prop) : Prop := ∃ kv M1, f_L_increment x a1 a2 a3 out M = some (kv, M1) ∧ ∀ z, wfz (setZ M1 z) → ∃ M2, fr_law_37 x mm out kv a1 a2 a3 (setZ M1 z) = some M2 ∧ P M2
set_option maxHeartbeats 4000000 in
set_option maxRecDepth 100000 in
theorem lc_37 {p : Program} {l : Launch} {e : Env} {s : State} {m : MethodId} {args : Array Value} {below : List Frame} {meth : Method} {c : Code} {E : KEnv} {H : Heap} {locs : List Loc} {ls : Array Slot} {cells slots : Nat} {Q : State → Prop} {M : Mem} {P : Mem → Prop} {b L x mm out : Nat} {xs : Nat → Int32} {x4 a1 a2 a3 : Int32} (hfl : l.stackTraces = false) (hC : CallFix p m c code 9 s args lw_G RL) (hE : EnvOK E s) (hX : va_X b L xs s s.heap) (hbl : b < s.heap.size) (hbA : ¬ eA E b) (hin1 : vp_in (x4 + 1) L) (ha1 : xs (x4 + 1).toNatClampNeg = a1) (hin2 : vp_in (x4 + 2) L) (ha2 : xs (x4 + 2).toNatClampNeg = a2) (hin3 : vp_in (x4 + 3) L) (ha3 : xs (x4 + 3).toNatClampNeg = a3) (hcs : cells + 60 ≤ 601024 ∧ slots + 3000 ≤ 7293034) (hM : MOK E M H) (hS : va_S (eA E) s.heap H locs) (hl : lv_has ls 9 [(0, .ref b), (1, .ref x), (2, .ref mm), (3, .ref out), (4, .int x4)]) (h : fk_law_37 x mm out a1 a2 a3 M P)
    (hk : ∀ (M2 : Mem) (H : Heap) (locs : List Loc) (ls : Array Slot), P M2 → MOK E M2 H → va_S (eA E) s.heap H locs → lv_has ls 9 [(0, .ref b), (1, .ref x), (2, .ref mm), (3, .ref out), (4, .int x4)] → W p l e room_1 s m args below meth c H locs (cells + 60) (slots + 3000) Q (F0 m 3228 ls [])) : W p l e room_1 s m args below meth c H locs cells slots Q (F0 m 2241 ls []) := by
  obtain ⟨hx, hb, hml, hown, hts⟩ := id hC
  refine lv_aload_n hx hb dL_law_2241 rfl (lv_at hl 1 rfl) ?_
  refine lv_aload_n hx hb dL_law_2242 rfl (lv_at hl 0 rfl) ?_
  refine lv_iload hx hb dL_law_2243 (lv_at hl 4 rfl) ?_
  refine lv_iconst (v := 1) hx hb dL_law_2245 (by decide) ?_
  refine lv_iadd hx hb dL_law_2246 ?_
  refine rsl hx hb hX hbl hbA hS hin1 ha1 dL_law_2247 ?_
  refine lv_aload_n hx hb dL_law_2248 rfl (lv_at hl 0 rfl) ?_
  refine lv_iload hx hb dL_law_2249 (lv_at hl 4 rfl) ?_
  refine lv_iconst (v := 2) hx hb dL_law_2251 (by decide) ?_
  refine lv_iadd hx hb dL_law_2252 ?_
  refine rsl hx hb hX hbl hbA hS hin2 ha2 dL_law_2253 ?_
  refine lv_aload_n hx hb dL_law_2254 rfl (lv_at hl 0 rfl) ?_
  refine lv_iload hx hb dL_law_2255 (lv_at hl 4 rfl) ?_
  refine lv_iconst (v := 3) hx hb dL_law_2257 (by decide) ?_
  refine lv_iadd hx hb dL_law_2258 ?_
  refine rsl hx hb hX hbl hbA hS hin3 ha3 dL_law_2259 ?_
  refine lv_aload_n hx hb dL_law_2260 rfl (lv_at hl 3 rfl) ?_
  obtain ⟨kv, M1, h1, h⟩ := h
  refine kSW (As := [.ref x, .int a1, .int a2, .int a3, .ref out]) (rest := []) hC hE hS hM (mt_L_increment _ hfl E x a1 a2 a3 out _ _ _ h1) (gwSW qw_947 qw_948 qw_91 qz_L_increment) ⟨rfl, rfl, (Nat.le_of_ble_eq_true rfl), (Nat.le_of_ble_eq_true rfl)⟩ dd_L_increment rfl rfl hl.1 (Nat.le_of_ble_eq_true rfl) dL_law_2261 ⟨by have := hcs.1; show _ ≤ 601024; omega, by have := hcs.2; show _ ≤ 7293034; omega⟩ (fun z H locs hM hS => ?_)
  obtain ⟨M2, h, hP⟩ := h z (wfz_of hM)
  unfold fr_law_37 at h
  generalize setZ M1 z = M3 at h hM
  refine lv_istore (lv' := [(5, .int kv), (0, .ref b), (1, .ref x), (2, .ref mm), (3, .ref out), (4, .int x4)]) hx hb dL_law_2264 hl (by decide) rfl (fun ls hl => ?_)
  refine lv_aload_n hx hb dL_law_2266 rfl (lv_at hl 3 rfl) ?_
  refine lv_aload_n hx hb dL_law_2267 rfl (lv_at hl 1 rfl) ?_
  refine lv_iload hx hb dL_law_2268 (lv_at hl 5 rfl) ?_
  refine lv_iconst (v := 1) hx hb dL_law_2270 (by decide) ?_
  refine lv_iadd hx hb dL_law_2271 ?_
  refine rsl hx hb hX hbl hbA hS hin1 ha1 dL_law_2272 ?_
  refine lv_aload_n hx hb dL_law_2273 rfl (lv_at hl 1 rfl) ?_
  refine lv_iload hx hb dL_law_2274 (lv_at hl 5 rfl) ?_
  refine lv_iconst (v := 2) hx hb dL_law_2276 (by decide) ?_
  refine lv_iadd hx hb dL_law_2277 ?_
  refine rsl hx hb hX hbl hbA hS hin2 ha2 dL_law_2278 ?_
  refine lv_aload_n hx hb dL_law_2279 rfl (lv_at hl 1 rfl) ?_
  refine lv_iload hx hb dL_law_2280 (lv_at hl 5 rfl) ?_
  refine lv_iconst (v := 3) hx hb dL_law_2282 (by decide) ?_
  refine lv_iadd hx hb dL_law_2283 ?_
  refine rsl hx hb hX hbl hbA hS hin3 ha3 dL_law_2284 ?_
  obtain ⟨v4, M3, h1, h⟩ := ob2 h
  obtain ⟨hk1, h1⟩ := ifg h1
  refine kV1 (ci := 5) (As := [.int a1, .int a2, .int a3]) (rest := []) hC hE hS hM (mt_X5_increment _ E mm a1 a2 a3 _ _ _ h1) (gwV qw_1537 qw_1538 qw_1539 qw_103 qw_1540) ⟨rfl, rfl, (Nat.le_of_ble_eq_true rfl), (Nat.le_of_ble_eq_true rfl)⟩ dd_X5_increment rfl hk1 rfl rfl hl.1 (Nat.le_of_ble_eq_true rfl) dL_law_2285 ⟨by have := hcs.1; show _ ≤ 601024; omega, by have := hcs.2; show _ ≤ 7293034; omega⟩ (fun H locs hM hS => ?_)
  refine lv_istore (lv' := [(6, .int v4), (5, .int kv), (0, .ref b), (1, .ref x), (2, .ref mm), (3, .ref out), (4, .int x4)]) hx hb dL_law_2288 hl (by decide) rfl (fun ls hl => ?_)
  refine lv_aload_n hx hb dL_law_2290 rfl (lv_at hl 4 rfl) ?_
  obtain ⟨v6, M5, h1, h⟩ := ob2 h
  obtain ⟨hk1, h1⟩ := ifg h1
  refine kV1 (ci := 5) (As := []) (rest := []) hC hE hS hM (mt_X5_thrown _ E mm _ _ _ h1) (gwV qw_1233 qw_1234 qw_1235 qw_103 qw_1236) ⟨rfl, rfl, (Nat.le_of_ble_eq_true rfl), (Nat.le_of_ble_eq_true rfl)⟩ dd_X5_thrown rfl hk1 rfl rfl hl.1 (Nat.le_of_ble_eq_true rfl) dL_law_2291 ⟨by have := hcs.1; show _ ≤ 601024; omega, by have := hcs.2; show _ ≤ 7293034; omega⟩ (fun H locs hM hS => ?_)
  refine lv_iload hx hb dL_law_2294 (lv_at hl 1 rfl) ?_
  refine lv_icmp_eq (tgt := 2301) hx hb dL_law_2296 (by decide) (fun c1 => ?_) (fun c1 => ?_)
  · have h := ifp c1 h
    refine lv_iload hx hb dL_law_2301 (lv_at hl 1 rfl) ?_
    refine lv_if_ne (tgt := 2318) hx hb dL_law_2303 (by decide) (fun c1 => ?_) (fun c1 => ?_)
    · have h := ifn c1 h
      refine lv_goto (tgt := 3228) hx hb dL_law_2318 (by decide) ?_
      cases h
      refine W.widen (k := cells + 60) (n := slots + 3000) (by omega) (by omega) ?_
      exact hk _ _ _ _ hP hM hS (lv_sub hl [2, 3, 4, 5, 6] rfl)
    · have h := ifp c1 h
      refine lv_aload_n hx hb dL_law_2306 rfl (lv_at hl 5 rfl) ?_
      refine lv_iconst (v := 0) hx hb dL_law_2307 (by decide) ?_
      obtain ⟨v7, h1, h⟩ := ob h
      refine r_lald hx hb hE hM h1 dL_law_2308 ?_
      refine lv_iload hx hb dL_law_2309 (lv_at hl 0 rfl) ?_
      refine lv_i2l (v := v4.toInt64) hx hb dL_law_2311 rfl ?_
      refine W.lcmp hx hb dL_law_2312 ?_
      refine lv_if_eq (tgt := 2318) hx hb dL_law_2313 (by decide) (fun c1 => ?_) (fun c1 => ?_)
      · have h := ifp c1 h
        refine lv_goto (tgt := 3228) hx hb dL_law_2318 (by decide) ?_
        cases h
        refine W.widen (k := cells + 60) (n := slots + 3000) (by omega) (by omega) ?_
        exact hk _ _ _ _ hP hM hS (lv_sub hl [2, 3, 4, 5, 6] rfl)
      · have h := ifn c1 h
        refine lv_iconst (v := 0) hx hb dL_law_2316 (by decide) ?_
        cases h
  · have h := ifn c1 h
    refine lv_iconst (v := 0) hx hb dL_law_2299 (by decide) ?_
    cases h

noncomputable def fr_law_38 (x mm out : Nat) (kv : Int32) (a1 : Int32) (a2 : Int32) (a3 : Int32) (M3 : Mem) : Option Mem :=
  bn (cK 6 mm M3 (f_X5_decrement mm a1 a2 a3 M3)) fun v4 M3 =>
  bn (cK 6 mm M3 (f_X5_thrown mm M3)) fun v6 M5 =>
  (if v6 = kv then
  (if kv = 0 then
  (gL out 0 M5).bind fun v7 =>
  (if (lg_cmp v7 v4.toInt64) = 0 then
  some M5
  else
  none)
  else
  some M5)
  else
  none)
/-- case 38: the wrapped call, and what follows it wherever the next address lies -/
def fk_law_38 (x mm out : Nat) (a1 : Int32) (a2 : Int32) (a3 : Int32) (M : Mem) (P : Mem → Prop) : Prop := ∃ kv M1, f_L_decrement x a1 a2 a3 out M = some (kv, M1) ∧ ∀ z, wfz (setZ M1 z) → ∃ M2, fr_law_38 x mm out kv a1 a2 a3 (setZ M1 z) = some M2 ∧ P M2
set_option maxHeartbeats 4000000 in
set_option maxRecDepth 100000 in
theorem lc_38 {p : Program} {l : Launch} {e : Env} {s : State} {m : MethodId} {args : Array Value} {below : List Frame} {meth : Method} {c : Code} {E : KEnv} {H : Heap} {locs : List Loc} {ls : Array Slot} {cells slots : Nat} {Q : State → Prop} {M : Mem} {P : Mem → Prop} {b L x mm out : Nat} {xs : Nat → Int32} {x4 a1 a2 a3 : Int32} (hfl : l.stackTraces = false) (hC : CallFix p m c code 9 s args lw_G RL) (hE : EnvOK E s) (hX : va_X b L xs s s.heap) (hbl : b < s.heap.size) (hbA : ¬ eA E b) (hin1 : vp_in (x4 + 1) L) (ha1 : xs (x4 + 1).toNatClampNeg = a1) (hin2 : vp_in (x4 + 2) L) (ha2 : xs (x4 + 2).toNatClampNeg = a2) (hin3 : vp_in (x4 + 3) L) (ha3 : xs (x4 + 3).toNatClampNeg = a3) (hcs : cells + 60 ≤ 601024 ∧ slots + 3000 ≤ 7293034) (hM : MOK E M H) (hS : va_S (eA E) s.heap H locs) (hl : lv_has ls 9 [(0, .ref b), (1, .ref x), (2, .ref mm), (3, .ref out), (4, .int x4)]) (h : fk_law_38 x mm out a1 a2 a3 M P)
    (hk : ∀ (M2 : Mem) (H : Heap) (locs : List Loc) (ls : Array Slot), P M2 → MOK E M2 H → va_S (eA E) s.heap H locs → lv_has ls 9 [(0, .ref b), (1, .ref x), (2, .ref mm), (3, .ref out), (4, .int x4)] → W p l e room_1 s m args below meth c H locs (cells + 60) (slots + 3000) Q (F0 m 3228 ls [])) : W p l e room_1 s m args below meth c H locs cells slots Q (F0 m 2321 ls []) := by
  obtain ⟨hx, hb, hml, hown, hts⟩ := id hC
  refine lv_aload_n hx hb dL_law_2321 rfl (lv_at hl 1 rfl) ?_
  refine lv_aload_n hx hb dL_law_2322 rfl (lv_at hl 0 rfl) ?_
  refine lv_iload hx hb dL_law_2323 (lv_at hl 4 rfl) ?_
  refine lv_iconst (v := 1) hx hb dL_law_2325 (by decide) ?_
  refine lv_iadd hx hb dL_law_2326 ?_
  refine rsl hx hb hX hbl hbA hS hin1 ha1 dL_law_2327 ?_
  refine lv_aload_n hx hb dL_law_2328 rfl (lv_at hl 0 rfl) ?_
  refine lv_iload hx hb dL_law_2329 (lv_at hl 4 rfl) ?_
  refine lv_iconst (v := 2) hx hb dL_law_2331 (by decide) ?_
  refine lv_iadd hx hb dL_law_2332 ?_
  refine rsl hx hb hX hbl hbA hS hin2 ha2 dL_law_2333 ?_
  refine lv_aload_n hx hb dL_law_2334 rfl (lv_at hl 0 rfl) ?_
  refine lv_iload hx hb dL_law_2335 (lv_at hl 4 rfl) ?_
  refine lv_iconst (v := 3) hx hb dL_law_2337 (by decide) ?_
  refine lv_iadd hx hb dL_law_2338 ?_
  refine rsl hx hb hX hbl hbA hS hin3 ha3 dL_law_2339 ?_
  refine lv_aload_n hx hb dL_law_2340 rfl (lv_at hl 3 rfl) ?_
  obtain ⟨kv, M1, h1, h⟩ := h
  refine kSW (As := [.ref x, .int a1, .int a2, .int a3, .ref out]) (rest := []) hC hE hS hM (mt_L_decrement _ hfl E x a1 a2 a3 out _ _ _ h1) (gwSW qw_960 qw_961 qw_91 qz_L_decrement) ⟨rfl, rfl, (Nat.le_of_ble_eq_true rfl), (Nat.le_of_ble_eq_true rfl)⟩ dd_L_decrement rfl rfl hl.1 (Nat.le_of_ble_eq_true rfl) dL_law_2341 ⟨by have := hcs.1; show _ ≤ 601024; omega, by have := hcs.2; show _ ≤ 7293034; omega⟩ (fun z H locs hM hS => ?_)
  obtain ⟨M2, h, hP⟩ := h z (wfz_of hM)
  unfold fr_law_38 at h
  generalize setZ M1 z = M3 at h hM
  refine lv_istore (lv' := [(5, .int kv), (0, .ref b), (1, .ref x), (2, .ref mm), (3, .ref out), (4, .int x4)]) hx hb dL_law_2344 hl (by decide) rfl (fun ls hl => ?_)
  refine lv_aload_n hx hb dL_law_2346 rfl (lv_at hl 3 rfl) ?_
  refine lv_aload_n hx hb dL_law_2347 rfl (lv_at hl 1 rfl) ?_
  refine lv_iload hx hb dL_law_2348 (lv_at hl 5 rfl) ?_
  refine lv_iconst (v := 1) hx hb dL_law_2350 (by decide) ?_
  refine lv_iadd hx hb dL_law_2351 ?_
  refine rsl hx hb hX hbl hbA hS hin1 ha1 dL_law_2352 ?_
  refine lv_aload_n hx hb dL_law_2353 rfl (lv_at hl 1 rfl) ?_
  refine lv_iload hx hb dL_law_2354 (lv_at hl 5 rfl) ?_
  refine lv_iconst (v := 2) hx hb dL_law_2356 (by decide) ?_
  refine lv_iadd hx hb dL_law_2357 ?_
  refine rsl hx hb hX hbl hbA hS hin2 ha2 dL_law_2358 ?_
  refine lv_aload_n hx hb dL_law_2359 rfl (lv_at hl 1 rfl) ?_
  refine lv_iload hx hb dL_law_2360 (lv_at hl 5 rfl) ?_
  refine lv_iconst (v := 3) hx hb dL_law_2362 (by decide) ?_
  refine lv_iadd hx hb dL_law_2363 ?_
  refine rsl hx hb hX hbl hbA hS hin3 ha3 dL_law_2364 ?_
  obtain ⟨v4, M3, h1, h⟩ := ob2 h
  obtain ⟨hk1, h1⟩ := ifg h1
  refine kV1 (ci := 5) (As := [.int a1, .int a2, .int a3]) (rest := []) hC hE hS hM (mt_X5_decrement _ E mm a1 a2 a3 _ _ _ h1) (gwV qw_1549 qw_1550 qw_1551 qw_103 qw_1552) ⟨rfl, rfl, (Nat.le_of_ble_eq_true rfl), (Nat.le_of_ble_eq_true rfl)⟩ dd_X5_decrement rfl hk1 rfl rfl hl.1 (Nat.le_of_ble_eq_true rfl) dL_law_2365 ⟨by have := hcs.1; show _ ≤ 601024; omega, by have := hcs.2; show _ ≤ 7293034; omega⟩ (fun H locs hM hS => ?_)
  refine lv_istore (lv' := [(6, .int v4), (5, .int kv), (0, .ref b), (1, .ref x), (2, .ref mm), (3, .ref out), (4, .int x4)]) hx hb dL_law_2368 hl (by decide) rfl (fun ls hl => ?_)
  refine lv_aload_n hx hb dL_law_2370 rfl (lv_at hl 4 rfl) ?_
  obtain ⟨v6, M5, h1, h⟩ := ob2 h
  obtain ⟨hk1, h1⟩ := ifg h1
  refine kV1 (ci := 5) (As := []) (rest := []) hC hE hS hM (mt_X5_thrown _ E mm _ _ _ h1) (gwV qw_1233 qw_1234 qw_1235 qw_103 qw_1236) ⟨rfl, rfl, (Nat.le_of_ble_eq_true rfl), (Nat.le_of_ble_eq_true rfl)⟩ dd_X5_thrown rfl hk1 rfl rfl hl.1 (Nat.le_of_ble_eq_true rfl) dL_law_2371 ⟨by have := hcs.1; show _ ≤ 601024; omega, by have := hcs.2; show _ ≤ 7293034; omega⟩ (fun H locs hM hS => ?_)
  refine lv_iload hx hb dL_law_2374 (lv_at hl 1 rfl) ?_
  refine lv_icmp_eq (tgt := 2381) hx hb dL_law_2376 (by decide) (fun c1 => ?_) (fun c1 => ?_)
  · have h := ifp c1 h
    refine lv_iload hx hb dL_law_2381 (lv_at hl 1 rfl) ?_
    refine lv_if_ne (tgt := 2398) hx hb dL_law_2383 (by decide) (fun c1 => ?_) (fun c1 => ?_)
    · have h := ifn c1 h
      refine lv_goto (tgt := 3228) hx hb dL_law_2398 (by decide) ?_
      cases h
      refine W.widen (k := cells + 60) (n := slots + 3000) (by omega) (by omega) ?_
      exact hk _ _ _ _ hP hM hS (lv_sub hl [2, 3, 4, 5, 6] rfl)
    · have h := ifp c1 h
      refine lv_aload_n hx hb dL_law_2386 rfl (lv_at hl 5 rfl) ?_
      refine lv_iconst (v := 0) hx hb dL_law_2387 (by decide) ?_
      obtain ⟨v7, h1, h⟩ := ob h
      refine r_lald hx hb hE hM h1 dL_law_2388 ?_
      refine lv_iload hx hb dL_law_2389 (lv_at hl 0 rfl) ?_
      refine lv_i2l (v := v4.toInt64) hx hb dL_law_2391 rfl ?_
      refine W.lcmp hx hb dL_law_2392 ?_
      refine lv_if_eq (tgt := 2398) hx hb dL_law_2393 (by decide) (fun c1 => ?_) (fun c1 => ?_)
      · have h := ifp c1 h
        refine lv_goto (tgt := 3228) hx hb dL_law_2398 (by decide) ?_
        cases h
        refine W.widen (k := cells + 60) (n := slots + 3000) (by omega) (by omega) ?_
        exact hk _ _ _ _ hP hM hS (lv_sub hl [2, 3, 4, 5, 6] rfl)
      · have h := ifn c1 h
        refine lv_iconst (v := 0) hx hb dL_law_2396 (by decide) ?_
        cases h
  · have h := ifn c1 h
    refine lv_iconst (v := 0) hx hb dL_law_2379 (by decide) ?_
    cases h

noncomputable def fr_law_39 (x mm out : Nat) (kv : Int32) (a1 : Int32) (a2 : Int32) (M3 : Mem) : Option Mem :=
  bn (cK 6 mm M3 (f_X5_addTag mm a1 a2 M3)) fun v4 M3 =>
  bn (cK 6 mm M3 (f_X5_thrown mm M3)) fun v6 M5 =>
  (if v6 = kv then
  (if kv = 0 then
  (gL out 0 M5).bind fun v7 =>
  (if (lg_cmp v7 v4.toInt64) = 0 then
  some M5
  else
  none)
  else
  some M5)
  else
  none)
/-- case 39: the wrapped call, and what follows it wherever the next address lies -/
def fk_law_39 (x mm out : Nat) (a1 : Int32) (a2 : Int32) (M : Mem) (P : Mem → Prop) : Prop := ∃ kv M1, f_L_addTag x a1 a2 out M = some (kv, M1) ∧ ∀ z, wfz (setZ M1 z) → ∃ M2, fr_law_39 x mm out kv a1 a2 (setZ M1 z) = some M2 ∧ P M2
set_option maxHeartbeats 4000000 in
set_option maxRecDepth 100000 in
theorem lc_39 {p : Program} {l : Launch} {e : Env} {s : State} {m : MethodId} {args : Array Value} {below : List Frame} {meth : Method} {c : Code} {E : KEnv} {H : Heap} {locs : List Loc} {ls : Array Slot} {cells slots : Nat} {Q : State → Prop} {M : Mem} {P : Mem → Prop} {b L x mm out : Nat} {xs : Nat → Int32} {x4 a1 a2 : Int32} (hfl : l.stackTraces = false) (hC : CallFix p m c code 9 s args lw_G RL) (hE : EnvOK E s) (hX : va_X b L xs s s.heap) (hbl : b < s.heap.size) (hbA : ¬ eA E b) (hin1 : vp_in (x4 + 1) L) (ha1 : xs (x4 + 1).toNatClampNeg = a1) (hin2 : vp_in (x4 + 2) L) (ha2 : xs (x4 + 2).toNatClampNeg = a2) (hcs : cells + 60 ≤ 601024 ∧ slots + 3000 ≤ 7293034) (hM : MOK E M H) (hS : va_S (eA E) s.heap H locs) (hl : lv_has ls 9 [(0, .ref b), (1, .ref x), (2, .ref mm), (3, .ref out), (4, .int x4)]) (h : fk_law_39 x mm out a1 a2 M P)
    (hk : ∀ (M2 : Mem) (H : Heap) (locs : List Loc) (ls : Array Slot), P M2 → MOK E M2 H → va_S (eA E) s.heap H locs → lv_has ls 9 [(0, .ref b), (1, .ref x), (2, .ref mm), (3, .ref out), (4, .int x4)] → W p l e room_1 s m args below meth c H locs (cells + 60) (slots + 3000) Q (F0 m 3228 ls [])) : W p l e room_1 s m args below meth c H locs cells slots Q (F0 m 2401 ls []) := by
  obtain ⟨hx, hb, hml, hown, hts⟩ := id hC
  refine lv_aload_n hx hb dL_law_2401 rfl (lv_at hl 1 rfl) ?_
  refine lv_aload_n hx hb dL_law_2402 rfl (lv_at hl 0 rfl) ?_
  refine lv_iload hx hb dL_law_2403 (lv_at hl 4 rfl) ?_
  refine lv_iconst (v := 1) hx hb dL_law_2405 (by decide) ?_
  refine lv_iadd hx hb dL_law_2406 ?_
  refine rsl hx hb hX hbl hbA hS hin1 ha1 dL_law_2407 ?_
  refine lv_aload_n hx hb dL_law_2408 rfl (lv_at hl 0 rfl) ?_
  refine lv_iload hx hb dL_law_2409 (lv_at hl 4 rfl) ?_
  refine lv_iconst (v := 2) hx hb dL_law_2411 (by decide) ?_
  refine lv_iadd hx hb dL_law_2412 ?_
  refine rsl hx hb hX hbl hbA hS hin2 ha2 dL_law_2413 ?_
  refine lv_aload_n hx hb dL_law_2414 rfl (lv_at hl 3 rfl) ?_
  obtain ⟨kv, M1, h1, h⟩ := h
  refine kSW (As := [.ref x, .int a1, .int a2, .ref out]) (rest := []) hC hE hS hM (mt_L_addTag _ hfl E x a1 a2 out _ _ _ h1) (gwSW qw_967 qw_968 qw_91 qz_L_addTag) ⟨rfl, rfl, (Nat.le_of_ble_eq_true rfl), (Nat.le_of_ble_eq_true rfl)⟩ dd_L_addTag rfl rfl hl.1 (Nat.le_of_ble_eq_true rfl) dL_law_2415 ⟨by have := hcs.1; show _ ≤ 601024; omega, by have := hcs.2; show _ ≤ 7293034; omega⟩ (fun z H locs hM hS => ?_)
  obtain ⟨M2, h, hP⟩ := h z (wfz_of hM)
  unfold fr_law_39 at h
  generalize setZ M1 z = M3 at h hM
  refine lv_istore (lv' := [(5, .int kv), (0, .ref b), (1, .ref x), (2, .ref mm), (3, .ref out), (4, .int x4)]) hx hb dL_law_2418 hl (by decide) rfl (fun ls hl => ?_)
  refine lv_aload_n hx hb dL_law_2420 rfl (lv_at hl 3 rfl) ?_
  refine lv_aload_n hx hb dL_law_2421 rfl (lv_at hl 1 rfl) ?_
  refine lv_iload hx hb dL_law_2422 (lv_at hl 5 rfl) ?_
  refine lv_iconst (v := 1) hx hb dL_law_2424 (by decide) ?_
  refine lv_iadd hx hb dL_law_2425 ?_
  refine rsl hx hb hX hbl hbA hS hin1 ha1 dL_law_2426 ?_
  refine lv_aload_n hx hb dL_law_2427 rfl (lv_at hl 1 rfl) ?_
  refine lv_iload hx hb dL_law_2428 (lv_at hl 5 rfl) ?_
  refine lv_iconst (v := 2) hx hb dL_law_2430 (by decide) ?_
  refine lv_iadd hx hb dL_law_2431 ?_
  refine rsl hx hb hX hbl hbA hS hin2 ha2 dL_law_2432 ?_
  obtain ⟨v4, M3, h1, h⟩ := ob2 h
  obtain ⟨hk1, h1⟩ := ifg h1
  refine kV1 (ci := 5) (As := [.int a1, .int a2]) (rest := []) hC hE hS hM (mt_X5_addTag _ E mm a1 a2 _ _ _ h1) (gwV qw_1553 qw_1554 qw_1555 qw_103 qw_1556) ⟨rfl, rfl, (Nat.le_of_ble_eq_true rfl), (Nat.le_of_ble_eq_true rfl)⟩ dd_X5_addTag rfl hk1 rfl rfl hl.1 (Nat.le_of_ble_eq_true rfl) dL_law_2433 ⟨by have := hcs.1; show _ ≤ 601024; omega, by have := hcs.2; show _ ≤ 7293034; omega⟩ (fun H locs hM hS => ?_)
  refine lv_istore (lv' := [(6, .int v4), (5, .int kv), (0, .ref b), (1, .ref x), (2, .ref mm), (3, .ref out), (4, .int x4)]) hx hb dL_law_2436 hl (by decide) rfl (fun ls hl => ?_)
  refine lv_aload_n hx hb dL_law_2438 rfl (lv_at hl 4 rfl) ?_
  obtain ⟨v6, M5, h1, h⟩ := ob2 h
  obtain ⟨hk1, h1⟩ := ifg h1
  refine kV1 (ci := 5) (As := []) (rest := []) hC hE hS hM (mt_X5_thrown _ E mm _ _ _ h1) (gwV qw_1233 qw_1234 qw_1235 qw_103 qw_1236) ⟨rfl, rfl, (Nat.le_of_ble_eq_true rfl), (Nat.le_of_ble_eq_true rfl)⟩ dd_X5_thrown rfl hk1 rfl rfl hl.1 (Nat.le_of_ble_eq_true rfl) dL_law_2439 ⟨by have := hcs.1; show _ ≤ 601024; omega, by have := hcs.2; show _ ≤ 7293034; omega⟩ (fun H locs hM hS => ?_)
  refine lv_iload hx hb dL_law_2442 (lv_at hl 1 rfl) ?_
  refine lv_icmp_eq (tgt := 2449) hx hb dL_law_2444 (by decide) (fun c1 => ?_) (fun c1 => ?_)
  · have h := ifp c1 h
    refine lv_iload hx hb dL_law_2449 (lv_at hl 1 rfl) ?_
    refine lv_if_ne (tgt := 2466) hx hb dL_law_2451 (by decide) (fun c1 => ?_) (fun c1 => ?_)
    · have h := ifn c1 h
      refine lv_goto (tgt := 3228) hx hb dL_law_2466 (by decide) ?_
      cases h
      refine W.widen (k := cells + 60) (n := slots + 3000) (by omega) (by omega) ?_
      exact hk _ _ _ _ hP hM hS (lv_sub hl [2, 3, 4, 5, 6] rfl)
    · have h := ifp c1 h
      refine lv_aload_n hx hb dL_law_2454 rfl (lv_at hl 5 rfl) ?_
      refine lv_iconst (v := 0) hx hb dL_law_2455 (by decide) ?_
      obtain ⟨v7, h1, h⟩ := ob h
      refine r_lald hx hb hE hM h1 dL_law_2456 ?_
      refine lv_iload hx hb dL_law_2457 (lv_at hl 0 rfl) ?_
      refine lv_i2l (v := v4.toInt64) hx hb dL_law_2459 rfl ?_
      refine W.lcmp hx hb dL_law_2460 ?_
      refine lv_if_eq (tgt := 2466) hx hb dL_law_2461 (by decide) (fun c1 => ?_) (fun c1 => ?_)
      · have h := ifp c1 h
        refine lv_goto (tgt := 3228) hx hb dL_law_2466 (by decide) ?_
        cases h
        refine W.widen (k := cells + 60) (n := slots + 3000) (by omega) (by omega) ?_
        exact hk _ _ _ _ hP hM hS (lv_sub hl [2, 3, 4, 5, 6] rfl)
      · have h := ifn c1 h
        refine lv_iconst (v := 0) hx hb dL_law_2464 (by decide) ?_
        cases h
  · have h := ifn c1 h
    refine lv_iconst (v := 0) hx hb dL_law_2447 (by decide) ?_
    cases h

noncomputable def fr_law_40 (x mm out : Nat) (kv : Int32) (a1 : Int32) (a2 : Int32) (M3 : Mem) : Option Mem :=
  bn (cK 6 mm M3 (f_X5_removeTag mm a1 a2 M3)) fun v4 M3 =>
  bn (cK 6 mm M3 (f_X5_thrown mm M3)) fun v6 M5 =>
  (if v6 = kv then
  (if kv = 0 then
  (gL out 0 M5).bind fun v7 =>
  (if (lg_cmp v7 v4.toInt64) = 0 then
  some M5
  else
  none)
  else
  some M5)
  else
  none)
/-- case 40: the wrapped call, and what follows it wherever the next address lies -/
def fk_law_40 (x mm out : Nat) (a1 : Int32) (a2 : Int32) (M : Mem) (P : Mem → Prop) : Prop := ∃ kv M1, f_L_removeTag x a1 a2 out M = some (kv, M1) ∧ ∀ z, wfz (setZ M1 z) → ∃ M2, fr_law_40 x mm out kv a1 a2 (setZ M1 z) = some M2 ∧ P M2
set_option maxHeartbeats 4000000 in
set_option maxRecDepth 100000 in
theorem lc_40 {p : Program} {l : Launch} {e : Env} {s : State} {m : MethodId} {args : Array Value} {below : List Frame} {meth : Method} {c : Code} {E : KEnv} {H : Heap} {locs : List Loc} {ls : Array Slot} {cells slots : Nat} {Q : State → Prop} {M : Mem} {P : Mem → Prop} {b L x mm out : Nat} {xs : Nat → Int32} {x4 a1 a2 : Int32} (hfl : l.stackTraces = false) (hC : CallFix p m c code 9 s args lw_G RL) (hE : EnvOK E s) (hX : va_X b L xs s s.heap) (hbl : b < s.heap.size) (hbA : ¬ eA E b) (hin1 : vp_in (x4 + 1) L) (ha1 : xs (x4 + 1).toNatClampNeg = a1) (hin2 : vp_in (x4 + 2) L) (ha2 : xs (x4 + 2).toNatClampNeg = a2) (hcs : cells + 60 ≤ 601024 ∧ slots + 3000 ≤ 7293034) (hM : MOK E M H) (hS : va_S (eA E) s.heap H locs) (hl : lv_has ls 9 [(0, .ref b), (1, .ref x), (2, .ref mm), (3, .ref out), (4, .int x4)]) (h : fk_law_40 x mm out a1 a2 M P)
    (hk : ∀ (M2 : Mem) (H : Heap) (locs : List Loc) (ls : Array Slot), P M2 → MOK E M2 H → va_S (eA E) s.heap H locs → lv_has ls 9 [(0, .ref b), (1, .ref x), (2, .ref mm), (3, .ref out), (4, .int x4)] → W p l e room_1 s m args below meth c H locs (cells + 60) (slots + 3000) Q (F0 m 3228 ls [])) : W p l e room_1 s m args below meth c H locs cells slots Q (F0 m 2469 ls []) := by
  obtain ⟨hx, hb, hml, hown, hts⟩ := id hC
  refine lv_aload_n hx hb dL_law_2469 rfl (lv_at hl 1 rfl) ?_
  refine lv_aload_n hx hb dL_law_2470 rfl (lv_at hl 0 rfl) ?_
  refine lv_iload hx hb dL_law_2471 (lv_at hl 4 rfl) ?_
  refine lv_iconst (v := 1) hx hb dL_law_2473 (by decide) ?_
  refine lv_iadd hx hb dL_law_2474 ?_
  refine rsl hx hb hX hbl hbA hS hin1 ha1 dL_law_2475 ?_
  refine lv_aload_n hx hb dL_law_2476 rfl (lv_at hl 0 rfl) ?_
  refine lv_iload hx hb dL_law_2477 (lv_at hl 4 rfl) ?_
  refine lv_iconst (v := 2) hx hb dL_law_2479 (by decide) ?_
  refine lv_iadd hx hb dL_law_2480 ?_
  refine rsl hx hb hX hbl hbA hS hin2 ha2 dL_law_2481 ?_
  refine lv_aload_n hx hb dL_law_2482 rfl (lv_at hl 3 rfl) ?_
  obtain ⟨kv, M1, h1, h⟩ := h
  refine kSW (As := [.ref x, .int a1, .int a2, .ref out]) (rest := []) hC hE hS hM (mt_L_removeTag _ hfl E x a1 a2 out _ _ _ h1) (gwSW qw_975 qw_976 qw_91 qz_L_removeTag) ⟨rfl, rfl, (Nat.le_of_ble_eq_true rfl), (Nat.le_of_ble_eq_true rfl)⟩ dd_L_removeTag rfl rfl hl.1 (Nat.le_of_ble_eq_true rfl) dL_law_2483 ⟨by have := hcs.1; show _ ≤ 601024; omega, by have := hcs.2; show _ ≤ 7293034; omega⟩ (fun z H locs hM hS => ?_)
  obtain ⟨M2, h, hP⟩ := h z (wfz_of hM)
  unfold fr_law_40 at h
  generalize setZ M1 z = M3 at h hM
  refine lv_istore (lv' := [(5, .int kv), (0, .ref b), (1, .ref x), (2, .ref mm), (3, .ref out), (4, .int x4)]) hx hb dL_law_2486 hl (by decide) rfl (fun ls hl => ?_)
  refine lv_aload_n hx hb dL_law_2488 rfl (lv_at hl 3 rfl) ?_
  refine lv_aload_n hx hb dL_law_2489 rfl (lv_at hl 1 rfl) ?_
  refine lv_iload hx hb dL_law_2490 (lv_at hl 5 rfl) ?_
  refine lv_iconst (v := 1) hx hb dL_law_2492 (by decide) ?_
  refine lv_iadd hx hb dL_law_2493 ?_
  refine rsl hx hb hX hbl hbA hS hin1 ha1 dL_law_2494 ?_
  refine lv_aload_n hx hb dL_law_2495 rfl (lv_at hl 1 rfl) ?_
  refine lv_iload hx hb dL_law_2496 (lv_at hl 5 rfl) ?_
  refine lv_iconst (v := 2) hx hb dL_law_2498 (by decide) ?_
  refine lv_iadd hx hb dL_law_2499 ?_
  refine rsl hx hb hX hbl hbA hS hin2 ha2 dL_law_2500 ?_
  obtain ⟨v4, M3, h1, h⟩ := ob2 h
  obtain ⟨hk1, h1⟩ := ifg h1
  refine kV1 (ci := 5) (As := [.int a1, .int a2]) (rest := []) hC hE hS hM (mt_X5_removeTag _ E mm a1 a2 _ _ _ h1) (gwV qw_1557 qw_1558 qw_1559 qw_103 qw_1560) ⟨rfl, rfl, (Nat.le_of_ble_eq_true rfl), (Nat.le_of_ble_eq_true rfl)⟩ dd_X5_removeTag rfl hk1 rfl rfl hl.1 (Nat.le_of_ble_eq_true rfl) dL_law_2501 ⟨by have := hcs.1; show _ ≤ 601024; omega, by have := hcs.2; show _ ≤ 7293034; omega⟩ (fun H locs hM hS => ?_)
  refine lv_istore (lv' := [(6, .int v4), (5, .int kv), (0, .ref b), (1, .ref x), (2, .ref mm), (3, .ref out), (4, .int x4)]) hx hb dL_law_2504 hl (by decide) rfl (fun ls hl => ?_)
  refine lv_aload_n hx hb dL_law_2506 rfl (lv_at hl 4 rfl) ?_
  obtain ⟨v6, M5, h1, h⟩ := ob2 h
  obtain ⟨hk1, h1⟩ := ifg h1
  refine kV1 (ci := 5) (As := []) (rest := []) hC hE hS hM (mt_X5_thrown _ E mm _ _ _ h1) (gwV qw_1233 qw_1234 qw_1235 qw_103 qw_1236) ⟨rfl, rfl, (Nat.le_of_ble_eq_true rfl), (Nat.le_of_ble_eq_true rfl)⟩ dd_X5_thrown rfl hk1 rfl rfl hl.1 (Nat.le_of_ble_eq_true rfl) dL_law_2507 ⟨by have := hcs.1; show _ ≤ 601024; omega, by have := hcs.2; show _ ≤ 7293034; omega⟩ (fun H locs hM hS => ?_)
  refine lv_iload hx hb dL_law_2510 (lv_at hl 1 rfl) ?_
  refine lv_icmp_eq (tgt := 2517) hx hb dL_law_2512 (by decide) (fun c1 => ?_) (fun c1 => ?_)
  · have h := ifp c1 h
    refine lv_iload hx hb dL_law_2517 (lv_at hl 1 rfl) ?_
    refine lv_if_ne (tgt := 2534) hx hb dL_law_2519 (by decide) (fun c1 => ?_) (fun c1 => ?_)
    · have h := ifn c1 h
      refine lv_goto (tgt := 3228) hx hb dL_law_2534 (by decide) ?_
      cases h
      refine W.widen (k := cells + 60) (n := slots + 3000) (by omega) (by omega) ?_
      exact hk _ _ _ _ hP hM hS (lv_sub hl [2, 3, 4, 5, 6] rfl)
    · have h := ifp c1 h
      refine lv_aload_n hx hb dL_law_2522 rfl (lv_at hl 5 rfl) ?_
      refine lv_iconst (v := 0) hx hb dL_law_2523 (by decide) ?_
      obtain ⟨v7, h1, h⟩ := ob h
      refine r_lald hx hb hE hM h1 dL_law_2524 ?_
      refine lv_iload hx hb dL_law_2525 (lv_at hl 0 rfl) ?_
      refine lv_i2l (v := v4.toInt64) hx hb dL_law_2527 rfl ?_
      refine W.lcmp hx hb dL_law_2528 ?_
      refine lv_if_eq (tgt := 2534) hx hb dL_law_2529 (by decide) (fun c1 => ?_) (fun c1 => ?_)
      · have h := ifp c1 h
        refine lv_goto (tgt := 3228) hx hb dL_law_2534 (by decide) ?_
        cases h
        refine W.widen (k := cells + 60) (n := slots + 3000) (by omega) (by omega) ?_
        exact hk _ _ _ _ hP hM hS (lv_sub hl [2, 3, 4, 5, 6] rfl)
      · have h := ifn c1 h
        refine lv_iconst (v := 0) hx hb dL_law_2532 (by decide) ?_
        cases h
  · have h := ifn c1 h
    refine lv_iconst (v := 0) hx hb dL_law_2515 (by decide) ?_
    cases h

noncomputable def fr_law_41 (x mm out : Nat) (kv : Int32) (a1 : Int32) (a2 : Int32) (a3 : Int32) (M3 : Mem) : Option Mem :=
  bn (cK 6 mm M3 (f_X5_write mm a1 a2 a3 M3)) fun v4 M3 =>
  bn (cK 6 mm M3 (f_X5_thrown mm M3)) fun v6 M5 =>
  (if v6 = kv then
  (if kv = 0 then
  (gL out 0 M5).bind fun v7 =>
  (if (lg_cmp v7 v4.toInt64) = 0 then
  some M5
  else
  none)
  else
  some M5)
  else
  none)
/-- case 41: the wrapped call, and what follows it wherever the next address lies -/
def fk_law_41 (x mm out : Nat) (a1 : Int32) (a2 : Int32) (a3 : Int32) (M : Mem) (P : Mem → Prop) : Prop := ∃ kv M1, f_L_write x a1 a2 a3 out M = some (kv, M1) ∧ ∀ z, wfz (setZ M1 z) → ∃ M2, fr_law_41 x mm out kv a1 a2 a3 (setZ M1 z) = some M2 ∧ P M2
set_option maxHeartbeats 4000000 in
set_option maxRecDepth 100000 in
theorem lc_41 {p : Program} {l : Launch} {e : Env} {s : State} {m : MethodId} {args : Array Value} {below : List Frame} {meth : Method} {c : Code} {E : KEnv} {H : Heap} {locs : List Loc} {ls : Array Slot} {cells slots : Nat} {Q : State → Prop} {M : Mem} {P : Mem → Prop} {b L x mm out : Nat} {xs : Nat → Int32} {x4 a1 a2 a3 : Int32} (hfl : l.stackTraces = false) (hC : CallFix p m c code 9 s args lw_G RL) (hE : EnvOK E s) (hX : va_X b L xs s s.heap) (hbl : b < s.heap.size) (hbA : ¬ eA E b) (hin1 : vp_in (x4 + 1) L) (ha1 : xs (x4 + 1).toNatClampNeg = a1) (hin2 : vp_in (x4 + 2) L) (ha2 : xs (x4 + 2).toNatClampNeg = a2) (hin3 : vp_in (x4 + 3) L) (ha3 : xs (x4 + 3).toNatClampNeg = a3) (hcs : cells + 60 ≤ 601024 ∧ slots + 3000 ≤ 7293034) (hM : MOK E M H) (hS : va_S (eA E) s.heap H locs) (hl : lv_has ls 9 [(0, .ref b), (1, .ref x), (2, .ref mm), (3, .ref out), (4, .int x4)]) (h : fk_law_41 x mm out a1 a2 a3 M P)
    (hk : ∀ (M2 : Mem) (H : Heap) (locs : List Loc) (ls : Array Slot), P M2 → MOK E M2 H → va_S (eA E) s.heap H locs → lv_has ls 9 [(0, .ref b), (1, .ref x), (2, .ref mm), (3, .ref out), (4, .int x4)] → W p l e room_1 s m args below meth c H locs (cells + 60) (slots + 3000) Q (F0 m 3228 ls [])) : W p l e room_1 s m args below meth c H locs cells slots Q (F0 m 2537 ls []) := by
  obtain ⟨hx, hb, hml, hown, hts⟩ := id hC
  refine lv_aload_n hx hb dL_law_2537 rfl (lv_at hl 1 rfl) ?_
  refine lv_aload_n hx hb dL_law_2538 rfl (lv_at hl 0 rfl) ?_
  refine lv_iload hx hb dL_law_2539 (lv_at hl 4 rfl) ?_
  refine lv_iconst (v := 1) hx hb dL_law_2541 (by decide) ?_
  refine lv_iadd hx hb dL_law_2542 ?_
  refine rsl hx hb hX hbl hbA hS hin1 ha1 dL_law_2543 ?_
  refine lv_aload_n hx hb dL_law_2544 rfl (lv_at hl 0 rfl) ?_
  refine lv_iload hx hb dL_law_2545 (lv_at hl 4 rfl) ?_
  refine lv_iconst (v := 2) hx hb dL_law_2547 (by decide) ?_
  refine lv_iadd hx hb dL_law_2548 ?_
  refine rsl hx hb hX hbl hbA hS hin2 ha2 dL_law_2549 ?_
  refine lv_aload_n hx hb dL_law_2550 rfl (lv_at hl 0 rfl) ?_
  refine lv_iload hx hb dL_law_2551 (lv_at hl 4 rfl) ?_
  refine lv_iconst (v := 3) hx hb dL_law_2553 (by decide) ?_
  refine lv_iadd hx hb dL_law_2554 ?_
  refine rsl hx hb hX hbl hbA hS hin3 ha3 dL_law_2555 ?_
  refine lv_aload_n hx hb dL_law_2556 rfl (lv_at hl 3 rfl) ?_
  obtain ⟨kv, M1, h1, h⟩ := h
  refine kSW (As := [.ref x, .int a1, .int a2, .int a3, .ref out]) (rest := []) hC hE hS hM (mt_L_write _ hfl E x a1 a2 a3 out _ _ _ h1) (gwSW qw_984 qw_985 qw_91 qz_L_write) ⟨rfl, rfl, (Nat.le_of_ble_eq_true rfl), (Nat.le_of_ble_eq_true rfl)⟩ dd_L_write rfl rfl hl.1 (Nat.le_of_ble_eq_true rfl) dL_law_2557 ⟨by have := hcs.1; show _ ≤ 601024; omega, by have := hcs.2; show _ ≤ 7293034; omega⟩ (fun z H locs hM hS => ?_)
  obtain ⟨M2, h, hP⟩ := h z (wfz_of hM)
  unfold fr_law_41 at h
  generalize setZ M1 z = M3 at h hM
  refine lv_istore (lv' := [(5, .int kv), (0, .ref b), (1, .ref x), (2, .ref mm), (3, .ref out), (4, .int x4)]) hx hb dL_law_2560 hl (by decide) rfl (fun ls hl => ?_)
  refine lv_aload_n hx hb dL_law_2562 rfl (lv_at hl 3 rfl) ?_
  refine lv_aload_n hx hb dL_law_2563 rfl (lv_at hl 1 rfl) ?_
  refine lv_iload hx hb dL_law_2564 (lv_at hl 5 rfl) ?_
  refine lv_iconst (v := 1) hx hb dL_law_2566 (by decide) ?_
  refine lv_iadd hx hb dL_law_2567 ?_
  refine rsl hx hb hX hbl hbA hS hin1 ha1 dL_law_2568 ?_
  refine lv_aload_n hx hb dL_law_2569 rfl (lv_at hl 1 rfl) ?_
  refine lv_iload hx hb dL_law_2570 (lv_at hl 5 rfl) ?_
  refine lv_iconst (v := 2) hx hb dL_law_2572 (by decide) ?_
  refine lv_iadd hx hb dL_law_2573 ?_
  refine rsl hx hb hX hbl hbA hS hin2 ha2 dL_law_2574 ?_
  refine lv_aload_n hx hb dL_law_2575 rfl (lv_at hl 1 rfl) ?_
  refine lv_iload hx hb dL_law_2576 (lv_at hl 5 rfl) ?_
  refine lv_iconst (v := 3) hx hb dL_law_2578 (by decide) ?_
  refine lv_iadd hx hb dL_law_2579 ?_
  refine rsl hx hb hX hbl hbA hS hin3 ha3 dL_law_2580 ?_
  obtain ⟨v4, M3, h1, h⟩ := ob2 h
  obtain ⟨hk1, h1⟩ := ifg h1
  refine kV1 (ci := 5) (As := [.int a1, .int a2, .int a3]) (rest := []) hC hE hS hM (mt_X5_write _ E mm a1 a2 a3 _ _ _ h1) (gwV qw_1561 qw_1562 qw_1563 qw_103 qw_1564) ⟨rfl, rfl, (Nat.le_of_ble_eq_true rfl), (Nat.le_of_ble_eq_true rfl)⟩ dd_X5_write rfl hk1 rfl rfl hl.1 (Nat.le_of_ble_eq_true rfl) dL_law_2581 ⟨by have := hcs.1; show _ ≤ 601024; omega, by have := hcs.2; show _ ≤ 7293034; omega⟩ (fun H locs hM hS => ?_)
  refine lv_istore (lv' := [(6, .int v4), (5, .int kv), (0, .ref b), (1, .ref x), (2, .ref mm), (3, .ref out), (4, .int x4)]) hx hb dL_law_2584 hl (by decide) rfl (fun ls hl => ?_)
  refine lv_aload_n hx hb dL_law_2586 rfl (lv_at hl 4 rfl) ?_
  obtain ⟨v6, M5, h1, h⟩ := ob2 h
  obtain ⟨hk1, h1⟩ := ifg h1
  refine kV1 (ci := 5) (As := []) (rest := []) hC hE hS hM (mt_X5_thrown _ E mm _ _ _ h1) (gwV qw_1233 qw_1234 qw_1235 qw_103 qw_1236) ⟨rfl, rfl, (Nat.le_of_ble_eq_true rfl), (Nat.le_of_ble_eq_true rfl)⟩ dd_X5_thrown rfl hk1 rfl rfl hl.1 (Nat.le_of_ble_eq_true rfl) dL_law_2587 ⟨by have := hcs.1; show _ ≤ 601024; omega, by have := hcs.2; show _ ≤ 7293034; omega⟩ (fun H locs hM hS => ?_)
  refine lv_iload hx hb dL_law_2590 (lv_at hl 1 rfl) ?_
  refine lv_icmp_eq (tgt := 2597) hx hb dL_law_2592 (by decide) (fun c1 => ?_) (fun c1 => ?_)
  · have h := ifp c1 h
    refine lv_iload hx hb dL_law_2597 (lv_at hl 1 rfl) ?_
    refine lv_if_ne (tgt := 2614) hx hb dL_law_2599 (by decide) (fun c1 => ?_) (fun c1 => ?_)
    · have h := ifn c1 h
      refine lv_goto (tgt := 3228) hx hb dL_law_2614 (by decide) ?_
      cases h
      refine W.widen (k := cells + 60) (n := slots + 3000) (by omega) (by omega) ?_
      exact hk _ _ _ _ hP hM hS (lv_sub hl [2, 3, 4, 5, 6] rfl)
    · have h := ifp c1 h
      refine lv_aload_n hx hb dL_law_2602 rfl (lv_at hl 5 rfl) ?_
      refine lv_iconst (v := 0) hx hb dL_law_2603 (by decide) ?_
      obtain ⟨v7, h1, h⟩ := ob h
      refine r_lald hx hb hE hM h1 dL_law_2604 ?_
      refine lv_iload hx hb dL_law_2605 (lv_at hl 0 rfl) ?_
      refine lv_i2l (v := v4.toInt64) hx hb dL_law_2607 rfl ?_
      refine W.lcmp hx hb dL_law_2608 ?_
      refine lv_if_eq (tgt := 2614) hx hb dL_law_2609 (by decide) (fun c1 => ?_) (fun c1 => ?_)
      · have h := ifp c1 h
        refine lv_goto (tgt := 3228) hx hb dL_law_2614 (by decide) ?_
        cases h
        refine W.widen (k := cells + 60) (n := slots + 3000) (by omega) (by omega) ?_
        exact hk _ _ _ _ hP hM hS (lv_sub hl [2, 3, 4, 5, 6] rfl)
      · have h := ifn c1 h
        refine lv_iconst (v := 0) hx hb dL_law_2612 (by decide) ?_
        cases h
  · have h := ifn c1 h
    refine lv_iconst (v := 0) hx hb dL_law_2595 (by decide) ?_
    cases h

noncomputable def fr_law_42 (x mm out : Nat) (kv : Int32) (a1 : Int32) (a2 : Int32) (M3 : Mem) : Option Mem :=
  bn (cK 6 mm M3 (f_X5_merge mm a1 a2 M3)) fun v4 M3 =>
  bn (cK 6 mm M3 (f_X5_thrown mm M3)) fun v6 M5 =>
  (if v6 = kv then
  (if kv = 0 then
  (gL out 0 M5).bind fun v7 =>
  (if v4 = 0 then
  (if (lg_cmp v7 0) = 0 then
  some M5
  else
  none)
  else
  (if (lg_cmp v7 1) = 0 then
  some M5
  else
  none))
  else
  some M5)
  else
  none)
/-- case 42: the wrapped call, and what follows it wherever the next address lies -/
def fk_law_42 (x mm out : Nat) (a1 : Int32) (a2 : Int32) (M : Mem) (P : Mem → Prop) : Prop := ∃ kv M1, f_L_merge x a1 a2 out M = some (kv, M1) ∧ ∀ z, wfz (setZ M1 z) → ∃ M2, fr_law_42 x mm out kv a1 a2 (setZ M1 z) = some M2 ∧ P M2
set_option maxHeartbeats 4000000 in
set_option maxRecDepth 100000 in
theorem lc_42 {p : Program} {l : Launch} {e : Env} {s : State} {m : MethodId} {args : Array Value} {below : List Frame} {meth : Method} {c : Code} {E : KEnv} {H : Heap} {locs : List Loc} {ls : Array Slot} {cells slots : Nat} {Q : State → Prop} {M : Mem} {P : Mem → Prop} {b L x mm out : Nat} {xs : Nat → Int32} {x4 a1 a2 : Int32} (hfl : l.stackTraces = false) (hC : CallFix p m c code 9 s args lw_G RL) (hE : EnvOK E s) (hX : va_X b L xs s s.heap) (hbl : b < s.heap.size) (hbA : ¬ eA E b) (hin1 : vp_in (x4 + 1) L) (ha1 : xs (x4 + 1).toNatClampNeg = a1) (hin2 : vp_in (x4 + 2) L) (ha2 : xs (x4 + 2).toNatClampNeg = a2) (hcs : cells + 60 ≤ 601024 ∧ slots + 3000 ≤ 7293034) (hM : MOK E M H) (hS : va_S (eA E) s.heap H locs) (hl : lv_has ls 9 [(0, .ref b), (1, .ref x), (2, .ref mm), (3, .ref out), (4, .int x4)]) (h : fk_law_42 x mm out a1 a2 M P)
    (hk : ∀ (M2 : Mem) (H : Heap) (locs : List Loc) (ls : Array Slot), P M2 → MOK E M2 H → va_S (eA E) s.heap H locs → lv_has ls 9 [(0, .ref b), (1, .ref x), (2, .ref mm), (3, .ref out), (4, .int x4)] → W p l e room_1 s m args below meth c H locs (cells + 60) (slots + 3000) Q (F0 m 3228 ls [])) : W p l e room_1 s m args below meth c H locs cells slots Q (F0 m 2617 ls []) := by
  obtain ⟨hx, hb, hml, hown, hts⟩ := id hC
  refine lv_aload_n hx hb dL_law_2617 rfl (lv_at hl 1 rfl) ?_
  refine lv_aload_n hx hb dL_law_2618 rfl (lv_at hl 0 rfl) ?_
  refine lv_iload hx hb dL_law_2619 (lv_at hl 4 rfl) ?_
  refine lv_iconst (v := 1) hx hb dL_law_2621 (by decide) ?_
  refine lv_iadd hx hb dL_law_2622 ?_
  refine rsl hx hb hX hbl hbA hS hin1 ha1 dL_law_2623 ?_
  refine lv_aload_n hx hb dL_law_2624 rfl (lv_at hl 0 rfl) ?_
  refine lv_iload hx hb dL_law_2625 (lv_at hl 4 rfl) ?_
  refine lv_iconst (v := 2) hx hb dL_law_2627 (by decide) ?_
  refine lv_iadd hx hb dL_law_2628 ?_
  refine rsl hx hb hX hbl hbA hS hin2 ha2 dL_law_2629 ?_
  refine lv_aload_n hx hb dL_law_2630 rfl (lv_at hl 3 rfl) ?_
  obtain ⟨kv, M1, h1, h⟩ := h
  refine kSW (As := [.ref x, .int a1, .int a2, .ref out]) (rest := []) hC hE hS hM (mt_L_merge _ hfl E x a1 a2 out _ _ _ h1) (gwSW qw_993 qw_994 qw_91 qz_L_merge) ⟨rfl, rfl, (Nat.le_of_ble_eq_true rfl), (Nat.le_of_ble_eq_true rfl)⟩ dd_L_merge rfl rfl hl.1 (Nat.le_of_ble_eq_true rfl) dL_law_2631 ⟨by have := hcs.1; show _ ≤ 601024; omega, by have := hcs.2; show _ ≤ 7293034; omega⟩ (fun z H locs hM hS => ?_)
  obtain ⟨M2, h, hP⟩ := h z (wfz_of hM)
  unfold fr_law_42 at h
  generalize setZ M1 z = M3 at h hM
  refine lv_istore (lv' := [(5, .int kv), (0, .ref b), (1, .ref x), (2, .ref mm), (3, .ref out), (4, .int x4)]) hx hb dL_law_2634 hl (by decide) rfl (fun ls hl => ?_)
  refine lv_aload_n hx hb dL_law_2636 rfl (lv_at hl 3 rfl) ?_
  refine lv_aload_n hx hb dL_law_2637 rfl (lv_at hl 1 rfl) ?_
  refine lv_iload hx hb dL_law_2638 (lv_at hl 5 rfl) ?_
  refine lv_iconst (v := 1) hx hb dL_law_2640 (by decide) ?_
  refine lv_iadd hx hb dL_law_2641 ?_
  refine rsl hx hb hX hbl hbA hS hin1 ha1 dL_law_2642 ?_
  refine lv_aload_n hx hb dL_law_2643 rfl (lv_at hl 1 rfl) ?_
  refine lv_iload hx hb dL_law_2644 (lv_at hl 5 rfl) ?_
  refine lv_iconst (v := 2) hx hb dL_law_2646 (by decide) ?_
  refine lv_iadd hx hb dL_law_2647 ?_
  refine rsl hx hb hX hbl hbA hS hin2 ha2 dL_law_2648 ?_
  obtain ⟨v4, M3, h1, h⟩ := ob2 h
  obtain ⟨hk1, h1⟩ := ifg h1
  refine kV1 (ci := 5) (As := [.int a1, .int a2]) (rest := []) hC hE hS hM (mt_X5_merge _ E mm a1 a2 _ _ _ h1) (gwV qw_1565 qw_1566 qw_1567 qw_103 qw_1568) ⟨rfl, rfl, (Nat.le_of_ble_eq_true rfl), (Nat.le_of_ble_eq_true rfl)⟩ dd_X5_merge rfl hk1 rfl rfl hl.1 (Nat.le_of_ble_eq_true rfl) dL_law_2649 ⟨by have := hcs.1; show _ ≤ 601024; omega, by have := hcs.2; show _ ≤ 7293034; omega⟩ (fun H locs hM hS => ?_)
  refine lv_istore (lv' := [(6, .int v4), (5, .int kv), (0, .ref b), (1, .ref x), (2, .ref mm), (3, .ref out), (4, .int x4)]) hx hb dL_law_2652 hl (by decide) rfl (fun ls hl => ?_)
  refine lv_aload_n hx hb dL_law_2654 rfl (lv_at hl 4 rfl) ?_
  obtain ⟨v6, M5, h1, h⟩ := ob2 h
  obtain ⟨hk1, h1⟩ := ifg h1
  refine kV1 (ci := 5) (As := []) (rest := []) hC hE hS hM (mt_X5_thrown _ E mm _ _ _ h1) (gwV qw_1233 qw_1234 qw_1235 qw_103 qw_1236) ⟨rfl, rfl, (Nat.le_of_ble_eq_true rfl), (Nat.le_of_ble_eq_true rfl)⟩ dd_X5_thrown rfl hk1 rfl rfl hl.1 (Nat.le_of_ble_eq_true rfl) dL_law_2655 ⟨by have := hcs.1; show _ ≤ 601024; omega, by have := hcs.2; show _ ≤ 7293034; omega⟩ (fun H locs hM hS => ?_)
  refine lv_iload hx hb dL_law_2658 (lv_at hl 1 rfl) ?_
  refine lv_icmp_eq (tgt := 2665) hx hb dL_law_2660 (by decide) (fun c1 => ?_) (fun c1 => ?_)
  · have h := ifp c1 h
    refine lv_iload hx hb dL_law_2665 (lv_at hl 1 rfl) ?_
    refine lv_if_ne (tgt := 2689) hx hb dL_law_2667 (by decide) (fun c1 => ?_) (fun c1 => ?_)
    · have h := ifn c1 h
      refine lv_goto (tgt := 3228) hx hb dL_law_2689 (by decide) ?_
      cases h
      refine W.widen (k := cells + 60) (n := slots + 3000) (by omega) (by omega) ?_
      exact hk _ _ _ _ hP hM hS (lv_sub hl [2, 3, 4, 5, 6] rfl)
    · have h := ifp c1 h
      refine lv_aload_n hx hb dL_law_2670 rfl (lv_at hl 5 rfl) ?_
      refine lv_iconst (v := 0) hx hb dL_law_2671 (by decide) ?_
      obtain ⟨v7, h1, h⟩ := ob h
      refine r_lald hx hb hE hM h1 dL_law_2672 ?_
      refine lv_iload hx hb dL_law_2673 (lv_at hl 0 rfl) ?_
      refine lv_if_eq (tgt := 2682) hx hb dL_law_2675 (by decide) (fun c1 => ?_) (fun c1 => ?_)
      · have h := ifp c1 h
        refine lv_lconst (v := 0) hx hb dL_law_2682 (by decide) ?_
        refine W.lcmp hx hb dL_law_2683 ?_
        refine lv_if_eq (tgt := 2689) hx hb dL_law_2684 (by decide) (fun c1 => ?_) (fun c1 => ?_)
        · have h := ifp c1 h
          refine lv_goto (tgt := 3228) hx hb dL_law_2689 (by decide) ?_
          cases h
          refine W.widen (k := cells + 60) (n := slots + 3000) (by omega) (by omega) ?_
          exact hk _ _ _ _ hP hM hS (lv_sub hl [2, 3, 4, 5, 6] rfl)
        · have h := ifn c1 h
          refine lv_iconst (v := 0) hx hb dL_law_2687 (by decide) ?_
          cases h
      · have h := ifn c1 h
        refine lv_lconst (v := 1) hx hb dL_law_2678 (by decide) ?_
        refine lv_goto (tgt := 2683) hx hb dL_law_2679 (by decide) ?_
        refine W.lcmp hx hb dL_law_2683 ?_
        refine lv_if_eq (tgt := 2689) hx hb dL_law_2684 (by decide) (fun c1 => ?_) (fun c1 => ?_)
        · have h := ifp c1 h
          refine lv_goto (tgt := 3228) hx hb dL_law_2689 (by decide) ?_
          cases h
          refine W.widen (k := cells + 60) (n := slots + 3000) (by omega) (by omega) ?_
          exact hk _ _ _ _ hP hM hS (lv_sub hl [2, 3, 4, 5, 6] rfl)
        · have h := ifn c1 h
          refine lv_iconst (v := 0) hx hb dL_law_2687 (by decide) ?_
          cases h
  · have h := ifn c1 h
    refine lv_iconst (v := 0) hx hb dL_law_2663 (by decide) ?_
    cases h

noncomputable def fr_law_43 (x mm out : Nat) (M : Mem) : Option Mem :=
  bn (cK 5 x M (f_X4_mergeAll x M)) fun v2 M1 =>
  bn (cK 6 mm M1 (f_X5_mergeAll mm M1)) fun v4 M3 =>
  (if v2 = v4 then
  some M3
  else
  none)
/-- case 43 -/
def fk_law_43 (x mm out : Nat) (M : Mem) (P : Mem → Prop) : Prop := ∃ M2, fr_law_43 x mm out M = some M2 ∧ P M2
set_option maxHeartbeats 4000000 in
set_option maxRecDepth 100000 in
theorem lc_43 {p : Program} {l : Launch} {e : Env} {s : State} {m : MethodId} {args : Array Value} {below : List Frame} {meth : Method} {c : Code} {E : KEnv} {H : Heap} {locs : List Loc} {ls : Array Slot} {cells slots : Nat} {Q : State → Prop} {M : Mem} {P : Mem → Prop} {b L x mm out : Nat} {xs : Nat → Int32} {x4 : Int32} (hfl : l.stackTraces = false) (hC : CallFix p m c code 9 s args lw_G RL) (hE : EnvOK E s) (hX : va_X b L xs s s.heap) (hbl : b < s.heap.size) (hbA : ¬ eA E b) (hcs : cells + 60 ≤ 601024 ∧ slots + 3000 ≤ 7293034) (hM : MOK E M H) (hS : va_S (eA E) s.heap H locs) (hl : lv_has ls 9 [(0, .ref b), (1, .ref x), (2, .ref mm), (3, .ref out), (4, .int x4)]) (h : fk_law_43 x mm out M P)
    (hk : ∀ (M2 : Mem) (H : Heap) (locs : List Loc) (ls : Array Slot), P M2 → MOK E M2 H → va_S (eA E) s.heap H locs → lv_has ls 9 [(0, .ref b), (1, .ref x), (2, .ref mm), (3, .ref out), (4, .int x4)] → W p l e room_1 s m args below meth c H locs (cells + 60) (slots + 3000) Q (F0 m 3228 ls [])) : W p l e room_1 s m args below meth c H locs cells slots Q (F0 m 2692 ls []) := by
  obtain ⟨hx, hb, hml, hown, hts⟩ := id hC
  obtain ⟨M2, h, hP⟩ := h
  unfold fr_law_43 at h
  refine lv_aload_n hx hb dL_law_2692 rfl (lv_at hl 1 rfl) ?_
  obtain ⟨v2, M1, h1, h⟩ := ob2 h
  obtain ⟨hk1, h1⟩ := ifg h1
  refine kV1 (ci := 4) (As := []) (rest := []) hC hE hS hM (mt_X4_mergeAll _ E x _ _ _ h1) (gwV qw_572 qw_573 qw_574 qw_92 qw_575) ⟨rfl, rfl, (Nat.le_of_ble_eq_true rfl), (Nat.le_of_ble_eq_true rfl)⟩ dd_X4_mergeAll rfl hk1 rfl rfl hl.1 (Nat.le_of_ble_eq_true rfl) dL_law_2693 ⟨by have := hcs.1; show _ ≤ 601024; omega, by have := hcs.2; show _ ≤ 7293034; omega⟩ (fun H locs hM hS => ?_)
  refine lv_aload_n hx hb dL_law_2696 rfl (lv_at hl 2 rfl) ?_
  obtain ⟨v4, M3, h1, h⟩ := ob2 h
  obtain ⟨hk1, h1⟩ := ifg h1
  refine kV1 (ci := 5) (As := []) (rest := [.int v2]) hC hE hS hM (mt_X5_mergeAll _ E mm _ _ _ h1) (gwV qw_1573 qw_1574 qw_1575 qw_103 qw_1576) ⟨rfl, rfl, (Nat.le_of_ble_eq_true rfl), (Nat.le_of_ble_eq_true rfl)⟩ dd_X5_mergeAll rfl hk1 rfl rfl hl.1 (Nat.le_of_ble_eq_true rfl) dL_law_2697 ⟨by have := hcs.1; show _ ≤ 601024; omega, by have := hcs.2; show _ ≤ 7293034; omega⟩ (fun H locs hM hS => ?_)
  refine lv_icmp_eq (tgt := 3228) hx hb dL_law_2700 (by decide) (fun c1 => ?_) (fun c1 => ?_)
  · have h := ifp c1 h
    cases h
    refine W.widen (k := cells + 60) (n := slots + 3000) (by omega) (by omega) ?_
    exact hk _ _ _ _ hP hM hS (lv_sub hl [0, 1, 2, 3, 4] rfl)
  · have h := ifn c1 h
    refine lv_iconst (v := 0) hx hb dL_law_2703 (by decide) ?_
    cases h

noncomputable def fr_law_44 (x mm out : Nat) (kv : Int32) (a1 : Int32) (M3 : Mem) : Option Mem :=
  bn (cK 6 mm M3 (f_X5_send mm a1 M3)) fun v4 M3 =>
  bn (cK 6 mm M3 (f_X5_thrown mm M3)) fun v6 M5 =>
  (if v6 = kv then
  (if kv = 0 then
  (gL out 0 M5).bind fun v7 =>
  (if (lg_cmp v7 v4.toInt64) = 0 then
  some M5
  else
  none)
  else
  some M5)
  else
  none)
/-- case 44: the wrapped call, and what follows it wherever the next address lies -/
def fk_law_44 (x mm out : Nat) (a1 : Int32) (M : Mem) (P : Mem → Prop) : Prop := ∃ kv M1, f_L_send x a1 out M = some (kv, M1) ∧ ∀ z, wfz (setZ M1 z) → ∃ M2, fr_law_44 x mm out kv a1 (setZ M1 z) = some M2 ∧ P M2
set_option maxHeartbeats 4000000 in
set_option maxRecDepth 100000 in
theorem lc_44 {p : Program} {l : Launch} {e : Env} {s : State} {m : MethodId} {args : Array Value} {below : List Frame} {meth : Method} {c : Code} {E : KEnv} {H : Heap} {locs : List Loc} {ls : Array Slot} {cells slots : Nat} {Q : State → Prop} {M : Mem} {P : Mem → Prop} {b L x mm out : Nat} {xs : Nat → Int32} {x4 a1 : Int32} (hfl : l.stackTraces = false) (hC : CallFix p m c code 9 s args lw_G RL) (hE : EnvOK E s) (hX : va_X b L xs s s.heap) (hbl : b < s.heap.size) (hbA : ¬ eA E b) (hin1 : vp_in (x4 + 1) L) (ha1 : xs (x4 + 1).toNatClampNeg = a1) (hcs : cells + 60 ≤ 601024 ∧ slots + 3000 ≤ 7293034) (hM : MOK E M H) (hS : va_S (eA E) s.heap H locs) (hl : lv_has ls 9 [(0, .ref b), (1, .ref x), (2, .ref mm), (3, .ref out), (4, .int x4)]) (h : fk_law_44 x mm out a1 M P)
    (hk : ∀ (M2 : Mem) (H : Heap) (locs : List Loc) (ls : Array Slot), P M2 → MOK E M2 H → va_S (eA E) s.heap H locs → lv_has ls 9 [(0, .ref b), (1, .ref x), (2, .ref mm), (3, .ref out), (4, .int x4)] → W p l e room_1 s m args below meth c H locs (cells + 60) (slots + 3000) Q (F0 m 3228 ls [])) : W p l e room_1 s m args below meth c H locs cells slots Q (F0 m 2705 ls []) := by
  obtain ⟨hx, hb, hml, hown, hts⟩ := id hC
  refine lv_aload_n hx hb dL_law_2705 rfl (lv_at hl 1 rfl) ?_
  refine lv_aload_n hx hb dL_law_2706 rfl (lv_at hl 0 rfl) ?_
  refine lv_iload hx hb dL_law_2707 (lv_at hl 4 rfl) ?_
  refine lv_iconst (v := 1) hx hb dL_law_2709 (by decide) ?_
  refine lv_iadd hx hb dL_law_2710 ?_
  refine rsl hx hb hX hbl hbA hS hin1 ha1 dL_law_2711 ?_
  refine lv_aload_n hx hb dL_law_2712 rfl (lv_at hl 3 rfl) ?_
  obtain ⟨kv, M1, h1, h⟩ := h
  refine kSW (As := [.ref x, .int a1, .ref out]) (rest := []) hC hE hS hM (mt_L_send _ hfl E x a1 out _ _ _ h1) (gwSW qw_1004 qw_1005 qw_91 qz_L_send) ⟨rfl, rfl, (Nat.le_of_ble_eq_true rfl), (Nat.le_of_ble_eq_true rfl)⟩ dd_L_send rfl rfl hl.1 (Nat.le_of_ble_eq_true rfl) dL_law_2713 ⟨by have := hcs.1; show _ ≤ 601024; omega, by have := hcs.2; show _ ≤ 7293034; omega⟩ (fun z H locs hM hS => ?_)
  obtain ⟨M2, h, hP⟩ := h z (wfz_of hM)
  unfold fr_law_44 at h
  generalize setZ M1 z = M3 at h hM
  refine lv_istore (lv' := [(5, .int kv), (0, .ref b), (1, .ref x), (2, .ref mm), (3, .ref out), (4, .int x4)]) hx hb dL_law_2716 hl (by decide) rfl (fun ls hl => ?_)
  refine lv_aload_n hx hb dL_law_2718 rfl (lv_at hl 3 rfl) ?_
  refine lv_aload_n hx hb dL_law_2719 rfl (lv_at hl 1 rfl) ?_
  refine lv_iload hx hb dL_law_2720 (lv_at hl 5 rfl) ?_
  refine lv_iconst (v := 1) hx hb dL_law_2722 (by decide) ?_
  refine lv_iadd hx hb dL_law_2723 ?_
  refine rsl hx hb hX hbl hbA hS hin1 ha1 dL_law_2724 ?_
  obtain ⟨v4, M3, h1, h⟩ := ob2 h
  obtain ⟨hk1, h1⟩ := ifg h1
  refine kV1 (ci := 5) (As := [.int a1]) (rest := []) hC hE hS hM (mt_X5_send _ E mm a1 _ _ _ h1) (gwV qw_1577 qw_1578 qw_1579 qw_103 qw_1580) ⟨rfl, rfl, (Nat.le_of_ble_eq_true rfl), (Nat.le_of_ble_eq_true rfl)⟩ dd_X5_send rfl hk1 rfl rfl hl.1 (Nat.le_of_ble_eq_true rfl) dL_law_2725 ⟨by have := hcs.1; show _ ≤ 601024; omega, by have := hcs.2; show _ ≤ 7293034; omega⟩ (fun H locs hM hS => ?_)
  refine lv_istore (lv' := [(6, .int v4), (5, .int kv), (0, .ref b), (1, .ref x), (2, .ref mm), (3, .ref out), (4, .int x4)]) hx hb dL_law_2728 hl (by decide) rfl (fun ls hl => ?_)
  refine lv_aload_n hx hb dL_law_2730 rfl (lv_at hl 4 rfl) ?_
  obtain ⟨v6, M5, h1, h⟩ := ob2 h
  obtain ⟨hk1, h1⟩ := ifg h1
  refine kV1 (ci := 5) (As := []) (rest := []) hC hE hS hM (mt_X5_thrown _ E mm _ _ _ h1) (gwV qw_1233 qw_1234 qw_1235 qw_103 qw_1236) ⟨rfl, rfl, (Nat.le_of_ble_eq_true rfl), (Nat.le_of_ble_eq_true rfl)⟩ dd_X5_thrown rfl hk1 rfl rfl hl.1 (Nat.le_of_ble_eq_true rfl) dL_law_2731 ⟨by have := hcs.1; show _ ≤ 601024; omega, by have := hcs.2; show _ ≤ 7293034; omega⟩ (fun H locs hM hS => ?_)
  refine lv_iload hx hb dL_law_2734 (lv_at hl 1 rfl) ?_
  refine lv_icmp_eq (tgt := 2741) hx hb dL_law_2736 (by decide) (fun c1 => ?_) (fun c1 => ?_)
  · have h := ifp c1 h
    refine lv_iload hx hb dL_law_2741 (lv_at hl 1 rfl) ?_
    refine lv_if_ne (tgt := 2758) hx hb dL_law_2743 (by decide) (fun c1 => ?_) (fun c1 => ?_)
    · have h := ifn c1 h
      refine lv_goto (tgt := 3228) hx hb dL_law_2758 (by decide) ?_
      cases h
      refine W.widen (k := cells + 60) (n := slots + 3000) (by omega) (by omega) ?_
      exact hk _ _ _ _ hP hM hS (lv_sub hl [2, 3, 4, 5, 6] rfl)
    · have h := ifp c1 h
      refine lv_aload_n hx hb dL_law_2746 rfl (lv_at hl 5 rfl) ?_
      refine lv_iconst (v := 0) hx hb dL_law_2747 (by decide) ?_
      obtain ⟨v7, h1, h⟩ := ob h
      refine r_lald hx hb hE hM h1 dL_law_2748 ?_
      refine lv_iload hx hb dL_law_2749 (lv_at hl 0 rfl) ?_
      refine lv_i2l (v := v4.toInt64) hx hb dL_law_2751 rfl ?_
      refine W.lcmp hx hb dL_law_2752 ?_
      refine lv_if_eq (tgt := 2758) hx hb dL_law_2753 (by decide) (fun c1 => ?_) (fun c1 => ?_)
      · have h := ifp c1 h
        refine lv_goto (tgt := 3228) hx hb dL_law_2758 (by decide) ?_
        cases h
        refine W.widen (k := cells + 60) (n := slots + 3000) (by omega) (by omega) ?_
        exact hk _ _ _ _ hP hM hS (lv_sub hl [2, 3, 4, 5, 6] rfl)
      · have h := ifn c1 h
        refine lv_iconst (v := 0) hx hb dL_law_2756 (by decide) ?_
        cases h
  · have h := ifn c1 h
    refine lv_iconst (v := 0) hx hb dL_law_2739 (by decide) ?_
    cases h

noncomputable def fr_law_45 (x mm out : Nat) (kv : Int32) (a1 : Int32) (a2 : Int32) (M3 : Mem) : Option Mem :=
  bn (cK 6 mm M3 (f_X5_deliver mm a1 a2 M3)) fun v4 M3 =>
  bn (cK 6 mm M3 (f_X5_thrown mm M3)) fun v6 M5 =>
  (if v6 = kv then
  (if kv = 0 then
  (gL out 0 M5).bind fun v7 =>
  (if v4 = 0 then
  (if (lg_cmp v7 0) = 0 then
  some M5
  else
  none)
  else
  (if (lg_cmp v7 1) = 0 then
  some M5
  else
  none))
  else
  some M5)
  else
  none)
/-- case 45: the wrapped call, and what follows it wherever the next address lies -/
def fk_law_45 (x mm out : Nat) (a1 : Int32) (a2 : Int32) (M : Mem) (P : Mem → Prop) : Prop := ∃ kv M1, f_L_deliver x a1 a2 out M = some (kv, M1) ∧ ∀ z, wfz (setZ M1 z) → ∃ M2, fr_law_45 x mm out kv a1 a2 (setZ M1 z) = some M2 ∧ P M2
set_option maxHeartbeats 4000000 in
set_option maxRecDepth 100000 in
theorem lc_45 {p : Program} {l : Launch} {e : Env} {s : State} {m : MethodId} {args : Array Value} {below : List Frame} {meth : Method} {c : Code} {E : KEnv} {H : Heap} {locs : List Loc} {ls : Array Slot} {cells slots : Nat} {Q : State → Prop} {M : Mem} {P : Mem → Prop} {b L x mm out : Nat} {xs : Nat → Int32} {x4 a1 a2 : Int32} (hfl : l.stackTraces = false) (hC : CallFix p m c code 9 s args lw_G RL) (hE : EnvOK E s) (hX : va_X b L xs s s.heap) (hbl : b < s.heap.size) (hbA : ¬ eA E b) (hin1 : vp_in (x4 + 1) L) (ha1 : xs (x4 + 1).toNatClampNeg = a1) (hin2 : vp_in (x4 + 2) L) (ha2 : xs (x4 + 2).toNatClampNeg = a2) (hcs : cells + 60 ≤ 601024 ∧ slots + 3000 ≤ 7293034) (hM : MOK E M H) (hS : va_S (eA E) s.heap H locs) (hl : lv_has ls 9 [(0, .ref b), (1, .ref x), (2, .ref mm), (3, .ref out), (4, .int x4)]) (h : fk_law_45 x mm out a1 a2 M P)
    (hk : ∀ (M2 : Mem) (H : Heap) (locs : List Loc) (ls : Array Slot), P M2 → MOK E M2 H → va_S (eA E) s.heap H locs → lv_has ls 9 [(0, .ref b), (1, .ref x), (2, .ref mm), (3, .ref out), (4, .int x4)] → W p l e room_1 s m args below meth c H locs (cells + 60) (slots + 3000) Q (F0 m 3228 ls [])) : W p l e room_1 s m args below meth c H locs cells slots Q (F0 m 2761 ls []) := by
  obtain ⟨hx, hb, hml, hown, hts⟩ := id hC
  refine lv_aload_n hx hb dL_law_2761 rfl (lv_at hl 1 rfl) ?_
  refine lv_aload_n hx hb dL_law_2762 rfl (lv_at hl 0 rfl) ?_
  refine lv_iload hx hb dL_law_2763 (lv_at hl 4 rfl) ?_
  refine lv_iconst (v := 1) hx hb dL_law_2765 (by decide) ?_
  refine lv_iadd hx hb dL_law_2766 ?_
  refine rsl hx hb hX hbl hbA hS hin1 ha1 dL_law_2767 ?_
  refine lv_aload_n hx hb dL_law_2768 rfl (lv_at hl 0 rfl) ?_
  refine lv_iload hx hb dL_law_2769 (lv_at hl 4 rfl) ?_
  refine lv_iconst (v := 2) hx hb dL_law_2771 (by decide) ?_
  refine lv_iadd hx hb dL_law_2772 ?_
  refine rsl hx hb hX hbl hbA hS hin2 ha2 dL_law_2773 ?_
  refine lv_aload_n hx hb dL_law_2774 rfl (lv_at hl 3 rfl) ?_
  obtain ⟨kv, M1, h1, h⟩ := h
  refine kSW (As := [.ref x, .int a1, .int a2, .ref out]) (rest := []) hC hE hS hM (mt_L_deliver _ hfl E x a1 a2 out _ _ _ h1) (gwSW qw_1013 qw_1014 qw_91 qz_L_deliver) ⟨rfl, rfl, (Nat.le_of_ble_eq_true rfl), (Nat.le_of_ble_eq_true rfl)⟩ dd_L_deliver rfl rfl hl.1 (Nat.le_of_ble_eq_true rfl) dL_law_2775 ⟨by have := hcs.1; show _ ≤ 601024; omega, by have := hcs.2; show _ ≤ 7293034; omega⟩ (fun z H locs hM hS => ?_)
  obtain ⟨M2, h, hP⟩ := h z (wfz_of hM)
  unfold fr_law_45 at h
  generalize setZ M1 z = M3 at h hM
  refine lv_istore (lv' := [(5, .int kv), (0, .ref b), (1, .ref x), (2, .ref mm), (3, .ref out), (4, .int x4)]) hx hb dL_law_2778 hl (by decide) rfl (fun ls hl => ?_)
  refine lv_aload_n hx hb dL_law_2780 rfl (lv_at hl 3 rfl) ?_
  refine lv_aload_n hx hb dL_law_2781 rfl (lv_at hl 1 rfl) ?_
  refine lv_iload hx hb dL_law_2782 (lv_at hl 5 rfl) ?_
  refine lv_iconst (v := 1) hx hb dL_law_2784 (by decide) ?_
  refine lv_iadd hx hb dL_law_2785 ?_
  refine rsl hx hb hX hbl hbA hS hin1 ha1 dL_law_2786 ?_
  refine lv_aload_n hx hb dL_law_2787 rfl (lv_at hl 1 rfl) ?_
  refine lv_iload hx hb dL_law_2788 (lv_at hl 5 rfl) ?_
  refine lv_iconst (v := 2) hx hb dL_law_2790 (by decide) ?_
  refine lv_iadd hx hb dL_law_2791 ?_
  refine rsl hx hb hX hbl hbA hS hin2 ha2 dL_law_2792 ?_
  obtain ⟨v4, M3, h1, h⟩ := ob2 h
  obtain ⟨hk1, h1⟩ := ifg h1
  refine kV1 (ci := 5) (As := [.int a1, .int a2]) (rest := []) hC hE hS hM (mt_X5_deliver _ E mm a1 a2 _ _ _ h1) (gwV qw_1581 qw_1582 qw_1583 qw_103 qw_1584) ⟨rfl, rfl, (Nat.le_of_ble_eq_true rfl), (Nat.le_of_ble_eq_true rfl)⟩ dd_X5_deliver rfl hk1 rfl rfl hl.1 (Nat.le_of_ble_eq_true rfl) dL_law_2793 ⟨by have := hcs.1; show _ ≤ 601024; omega, by have := hcs.2; show _ ≤ 7293034; omega⟩ (fun H locs hM hS => ?_)
  refine lv_istore (lv' := [(6, .int v4), (5, .int kv), (0, .ref b), (1, .ref x), (2, .ref mm), (3, .ref out), (4, .int x4)]) hx hb dL_law_2796 hl (by decide) rfl (fun ls hl => ?_)
  refine lv_aload_n hx hb dL_law_2798 rfl (lv_at hl 4 rfl) ?_
  obtain ⟨v6, M5, h1, h⟩ := ob2 h
  obtain ⟨hk1, h1⟩ := ifg h1
  refine kV1 (ci := 5) (As := []) (rest := []) hC hE hS hM (mt_X5_thrown _ E mm _ _ _ h1) (gwV qw_1233 qw_1234 qw_1235 qw_103 qw_1236) ⟨rfl, rfl, (Nat.le_of_ble_eq_true rfl), (Nat.le_of_ble_eq_true rfl)⟩ dd_X5_thrown rfl hk1 rfl rfl hl.1 (Nat.le_of_ble_eq_true rfl) dL_law_2799 ⟨by have := hcs.1; show _ ≤ 601024; omega, by have := hcs.2; show _ ≤ 7293034; omega⟩ (fun H locs hM hS => ?_)
  refine lv_iload hx hb dL_law_2802 (lv_at hl 1 rfl) ?_
  refine lv_icmp_eq (tgt := 2809) hx hb dL_law_2804 (by decide) (fun c1 => ?_) (fun c1 => ?_)
  · have h := ifp c1 h
    refine lv_iload hx hb dL_law_2809 (lv_at hl 1 rfl) ?_
    refine lv_if_ne (tgt := 2833) hx hb dL_law_2811 (by decide) (fun c1 => ?_) (fun c1 => ?_)
    · have h := ifn c1 h
      refine lv_goto (tgt := 3228) hx hb dL_law_2833 (by decide) ?_
      cases h
      refine W.widen (k := cells + 60) (n := slots + 3000) (by omega) (by omega) ?_
      exact hk _ _ _ _ hP hM hS (lv_sub hl [2, 3, 4, 5, 6] rfl)
    · have h := ifp c1 h
      refine lv_aload_n hx hb dL_law_2814 rfl (lv_at hl 5 rfl) ?_
      refine lv_iconst (v := 0) hx hb dL_law_2815 (by decide) ?_
      obtain ⟨v7, h1, h⟩ := ob h
      refine r_lald hx hb hE hM h1 dL_law_2816 ?_
      refine lv_iload hx hb dL_law_2817 (lv_at hl 0 rfl) ?_
      refine lv_if_eq (tgt := 2826) hx hb dL_law_2819 (by decide) (fun c1 => ?_) (fun c1 => ?_)
      · have h := ifp c1 h
        refine lv_lconst (v := 0) hx hb dL_law_2826 (by decide) ?_
        refine W.lcmp hx hb dL_law_2827 ?_
        refine lv_if_eq (tgt := 2833) hx hb dL_law_2828 (by decide) (fun c1 => ?_) (fun c1 => ?_)
        · have h := ifp c1 h
          refine lv_goto (tgt := 3228) hx hb dL_law_2833 (by decide) ?_
          cases h
          refine W.widen (k := cells + 60) (n := slots + 3000) (by omega) (by omega) ?_
          exact hk _ _ _ _ hP hM hS (lv_sub hl [2, 3, 4, 5, 6] rfl)
        · have h := ifn c1 h
          refine lv_iconst (v := 0) hx hb dL_law_2831 (by decide) ?_
          cases h
      · have h := ifn c1 h
        refine lv_lconst (v := 1) hx hb dL_law_2822 (by decide) ?_
        refine lv_goto (tgt := 2827) hx hb dL_law_2823 (by decide) ?_
        refine W.lcmp hx hb dL_law_2827 ?_
        refine lv_if_eq (tgt := 2833) hx hb dL_law_2828 (by decide) (fun c1 => ?_) (fun c1 => ?_)
        · have h := ifp c1 h
          refine lv_goto (tgt := 3228) hx hb dL_law_2833 (by decide) ?_
          cases h
          refine W.widen (k := cells + 60) (n := slots + 3000) (by omega) (by omega) ?_
          exact hk _ _ _ _ hP hM hS (lv_sub hl [2, 3, 4, 5, 6] rfl)
        · have h := ifn c1 h
          refine lv_iconst (v := 0) hx hb dL_law_2831 (by decide) ?_
          cases h
  · have h := ifn c1 h
    refine lv_iconst (v := 0) hx hb dL_law_2807 (by decide) ?_
    cases h

noncomputable def fr_law_46 (x mm out : Nat) (kv : Int32) (a1 : Int32) (M3 : Mem) : Option Mem :=
  bn (cK 6 mm M3 (f_X5_drop mm a1 M3)) fun v4 M3 =>
  bn (cK 6 mm M3 (f_X5_thrown mm M3)) fun v6 M5 =>
  (if v6 = kv then
  (if kv = 0 then
  (gL out 0 M5).bind fun v7 =>
  (if (lg_cmp v7 v4.toInt64) = 0 then
  some M5
  else
  none)
  else
  some M5)
  else
  none)
/-- case 46: the wrapped call, and what follows it wherever the next address lies -/
def fk_law_46 (x mm out : Nat) (a1 : Int32) (M : Mem) (P : Mem → Prop) : Prop := ∃ kv M1, f_L_drop x a1 out M = some (kv, M1) ∧ ∀ z, wfz (setZ M1 z) → ∃ M2, fr_law_46 x mm out kv a1 (setZ M1 z) = some M2 ∧ P M2
set_option maxHeartbeats 4000000 in
set_option maxRecDepth 100000 in
theorem lc_46 {p : Program} {l : Launch} {e : Env} {s : State} {m : MethodId} {args : Array Value} {below : List Frame} {meth : Method} {c : Code} {E : KEnv} {H : Heap} {locs : List Loc} {ls : Array Slot} {cells slots : Nat} {Q : State → Prop} {M : Mem} {P : Mem → Prop} {b L x mm out : Nat} {xs : Nat → Int32} {x4 a1 : Int32} (hfl : l.stackTraces = false) (hC : CallFix p m c code 9 s args lw_G RL) (hE : EnvOK E s) (hX : va_X b L xs s s.heap) (hbl : b < s.heap.size) (hbA : ¬ eA E b) (hin1 : vp_in (x4 + 1) L) (ha1 : xs (x4 + 1).toNatClampNeg = a1) (hcs : cells + 60 ≤ 601024 ∧ slots + 3000 ≤ 7293034) (hM : MOK E M H) (hS : va_S (eA E) s.heap H locs) (hl : lv_has ls 9 [(0, .ref b), (1, .ref x), (2, .ref mm), (3, .ref out), (4, .int x4)]) (h : fk_law_46 x mm out a1 M P)
    (hk : ∀ (M2 : Mem) (H : Heap) (locs : List Loc) (ls : Array Slot), P M2 → MOK E M2 H → va_S (eA E) s.heap H locs → lv_has ls 9 [(0, .ref b), (1, .ref x), (2, .ref mm), (3, .ref out), (4, .int x4)] → W p l e room_1 s m args below meth c H locs (cells + 60) (slots + 3000) Q (F0 m 3228 ls [])) : W p l e room_1 s m args below meth c H locs cells slots Q (F0 m 2836 ls []) := by
  obtain ⟨hx, hb, hml, hown, hts⟩ := id hC
  refine lv_aload_n hx hb dL_law_2836 rfl (lv_at hl 1 rfl) ?_
  refine lv_aload_n hx hb dL_law_2837 rfl (lv_at hl 0 rfl) ?_
  refine lv_iload hx hb dL_law_2838 (lv_at hl 4 rfl) ?_
  refine lv_iconst (v := 1) hx hb dL_law_2840 (by decide) ?_
  refine lv_iadd hx hb dL_law_2841 ?_
  refine rsl hx hb hX hbl hbA hS hin1 ha1 dL_law_2842 ?_
  refine lv_aload_n hx hb dL_law_2843 rfl (lv_at hl 3 rfl) ?_
  obtain ⟨kv, M1, h1, h⟩ := h
  refine kSW (As := [.ref x, .int a1, .ref out]) (rest := []) hC hE hS hM (mt_L_drop _ hfl E x a1 out _ _ _ h1) (gwSW qw_1020 qw_1021 qw_91 qz_L_drop) ⟨rfl, rfl, (Nat.le_of_ble_eq_true rfl), (Nat.le_of_ble_eq_true rfl)⟩ dd_L_drop rfl rfl hl.1 (Nat.le_of_ble_eq_true rfl) dL_law_2844 ⟨by have := hcs.1; show _ ≤ 601024; omega, by have := hcs.2; show _ ≤ 7293034; omega⟩ (fun z H locs hM hS => ?_)
  obtain ⟨M2, h, hP⟩ := h z (wfz_of hM)
  unfold fr_law_46 at h
  generalize setZ M1 z = M3 at h hM
  refine lv_istore (lv' := [(5, .int kv), (0, .ref b), (1, .ref x), (2, .ref mm), (3, .ref out), (4, .int x4)]) hx hb dL_law_2847 hl (by decide) rfl (fun ls hl => ?_)
  refine lv_aload_n hx hb dL_law_2849 rfl (lv_at hl 3 rfl) ?_
  refine lv_aload_n hx hb dL_law_2850 rfl (lv_at hl 1 rfl) ?_
  refine lv_iload hx hb dL_law_2851 (lv_at hl 5 rfl) ?_
  refine lv_iconst (v := 1) hx hb dL_law_2853 (by decide) ?_
  refine lv_iadd hx hb dL_law_2854 ?_
  refine rsl hx hb hX hbl hbA hS hin1 ha1 dL_law_2855 ?_
  obtain ⟨v4, M3, h1, h⟩ := ob2 h
  obtain ⟨hk1, h1⟩ := ifg h1
  refine kV1 (ci := 5) (As := [.int a1]) (rest := []) hC hE hS hM (mt_X5_drop _ E mm a1 _ _ _ h1) (gwV qw_1585 qw_1586 qw_1587 qw_103 qw_1588) ⟨rfl, rfl, (Nat.le_of_ble_eq_true rfl), (Nat.le_of_ble_eq_true rfl)⟩ dd_X5_drop rfl hk1 rfl rfl hl.1 (Nat.le_of_ble_eq_true rfl) dL_law_2856 ⟨by have := hcs.1; show _ ≤ 601024; omega, by have := hcs.2; show _ ≤ 7293034; omega⟩ (fun H locs hM hS => ?_)
  refine lv_istore (lv' := [(6, .int v4), (5, .int kv), (0, .ref b), (1, .ref x), (2, .ref mm), (3, .ref out), (4, .int x4)]) hx hb dL_law_2859 hl (by decide) rfl (fun ls hl => ?_)
  refine lv_aload_n hx hb dL_law_2861 rfl (lv_at hl 4 rfl) ?_
  obtain ⟨v6, M5, h1, h⟩ := ob2 h
  obtain ⟨hk1, h1⟩ := ifg h1
  refine kV1 (ci := 5) (As := []) (rest := []) hC hE hS hM (mt_X5_thrown _ E mm _ _ _ h1) (gwV qw_1233 qw_1234 qw_1235 qw_103 qw_1236) ⟨rfl, rfl, (Nat.le_of_ble_eq_true rfl), (Nat.le_of_ble_eq_true rfl)⟩ dd_X5_thrown rfl hk1 rfl rfl hl.1 (Nat.le_of_ble_eq_true rfl) dL_law_2862 ⟨by have := hcs.1; show _ ≤ 601024; omega, by have := hcs.2; show _ ≤ 7293034; omega⟩ (fun H locs hM hS => ?_)
  refine lv_iload hx hb dL_law_2865 (lv_at hl 1 rfl) ?_
  refine lv_icmp_eq (tgt := 2872) hx hb dL_law_2867 (by decide) (fun c1 => ?_) (fun c1 => ?_)
  · have h := ifp c1 h
    refine lv_iload hx hb dL_law_2872 (lv_at hl 1 rfl) ?_
    refine lv_if_ne (tgt := 2889) hx hb dL_law_2874 (by decide) (fun c1 => ?_) (fun c1 => ?_)
    · have h := ifn c1 h
      refine lv_goto (tgt := 3228) hx hb dL_law_2889 (by decide) ?_
      cases h
      refine W.widen (k := cells + 60) (n := slots + 3000) (by omega) (by omega) ?_
      exact hk _ _ _ _ hP hM hS (lv_sub hl [2, 3, 4, 5, 6] rfl)
    · have h := ifp c1 h
      refine lv_aload_n hx hb dL_law_2877 rfl (lv_at hl 5 rfl) ?_
      refine lv_iconst (v := 0) hx hb dL_law_2878 (by decide) ?_
      obtain ⟨v7, h1, h⟩ := ob h
      refine r_lald hx hb hE hM h1 dL_law_2879 ?_
      refine lv_iload hx hb dL_law_2880 (lv_at hl 0 rfl) ?_
      refine lv_i2l (v := v4.toInt64) hx hb dL_law_2882 rfl ?_
      refine W.lcmp hx hb dL_law_2883 ?_
      refine lv_if_eq (tgt := 2889) hx hb dL_law_2884 (by decide) (fun c1 => ?_) (fun c1 => ?_)
      · have h := ifp c1 h
        refine lv_goto (tgt := 3228) hx hb dL_law_2889 (by decide) ?_
        cases h
        refine W.widen (k := cells + 60) (n := slots + 3000) (by omega) (by omega) ?_
        exact hk _ _ _ _ hP hM hS (lv_sub hl [2, 3, 4, 5, 6] rfl)
      · have h := ifn c1 h
        refine lv_iconst (v := 0) hx hb dL_law_2887 (by decide) ?_
        cases h
  · have h := ifn c1 h
    refine lv_iconst (v := 0) hx hb dL_law_2870 (by decide) ?_
    cases h

noncomputable def fr_law_47 (x mm out : Nat) (kv : Int32) (a1 : Int32) (M3 : Mem) : Option Mem :=
  bn (cK 6 mm M3 (f_X5_restore mm a1 M3)) fun v4 M3 =>
  bn (cK 6 mm M3 (f_X5_thrown mm M3)) fun v6 M5 =>
  (if v6 = kv then
  (if kv = 0 then
  (gL out 0 M5).bind fun v7 =>
  (if (lg_cmp v7 v4.toInt64) = 0 then
  some M5
  else
  none)
  else
  some M5)
  else
  none)
/-- case 47: the wrapped call, and what follows it wherever the next address lies -/
def fk_law_47 (x mm out : Nat) (a1 : Int32) (M : Mem) (P : Mem → Prop) : Prop := ∃ kv M1, f_L_restore x a1 out M = some (kv, M1) ∧ ∀ z, wfz (setZ M1 z) → ∃ M2, fr_law_47 x mm out kv a1 (setZ M1 z) = some M2 ∧ P M2
set_option maxHeartbeats 4000000 in
set_option maxRecDepth 100000 in
theorem lc_47 {p : Program} {l : Launch} {e : Env} {s : State} {m : MethodId} {args : Array Value} {below : List Frame} {meth : Method} {c : Code} {E : KEnv} {H : Heap} {locs : List Loc} {ls : Array Slot} {cells slots : Nat} {Q : State → Prop} {M : Mem} {P : Mem → Prop} {b L x mm out : Nat} {xs : Nat → Int32} {x4 a1 : Int32} (hfl : l.stackTraces = false) (hC : CallFix p m c code 9 s args lw_G RL) (hE : EnvOK E s) (hX : va_X b L xs s s.heap) (hbl : b < s.heap.size) (hbA : ¬ eA E b) (hin1 : vp_in (x4 + 1) L) (ha1 : xs (x4 + 1).toNatClampNeg = a1) (hcs : cells + 60 ≤ 601024 ∧ slots + 3000 ≤ 7293034) (hM : MOK E M H) (hS : va_S (eA E) s.heap H locs) (hl : lv_has ls 9 [(0, .ref b), (1, .ref x), (2, .ref mm), (3, .ref out), (4, .int x4)]) (h : fk_law_47 x mm out a1 M P)
    (hk : ∀ (M2 : Mem) (H : Heap) (locs : List Loc) (ls : Array Slot), P M2 → MOK E M2 H → va_S (eA E) s.heap H locs → lv_has ls 9 [(0, .ref b), (1, .ref x), (2, .ref mm), (3, .ref out), (4, .int x4)] → W p l e room_1 s m args below meth c H locs (cells + 60) (slots + 3000) Q (F0 m 3228 ls [])) : W p l e room_1 s m args below meth c H locs cells slots Q (F0 m 2892 ls []) := by
  obtain ⟨hx, hb, hml, hown, hts⟩ := id hC
  refine lv_aload_n hx hb dL_law_2892 rfl (lv_at hl 1 rfl) ?_
  refine lv_aload_n hx hb dL_law_2893 rfl (lv_at hl 0 rfl) ?_
  refine lv_iload hx hb dL_law_2894 (lv_at hl 4 rfl) ?_
  refine lv_iconst (v := 1) hx hb dL_law_2896 (by decide) ?_
  refine lv_iadd hx hb dL_law_2897 ?_
  refine rsl hx hb hX hbl hbA hS hin1 ha1 dL_law_2898 ?_
  refine lv_aload_n hx hb dL_law_2899 rfl (lv_at hl 3 rfl) ?_
  obtain ⟨kv, M1, h1, h⟩ := h
  refine kSW (As := [.ref x, .int a1, .ref out]) (rest := []) hC hE hS hM (mt_L_restore _ hfl E x a1 out _ _ _ h1) (gwSW qw_1031 qw_1032 qw_91 qz_L_restore) ⟨rfl, rfl, (Nat.le_of_ble_eq_true rfl), (Nat.le_of_ble_eq_true rfl)⟩ dd_L_restore rfl rfl hl.1 (Nat.le_of_ble_eq_true rfl) dL_law_2900 ⟨by have := hcs.1; show _ ≤ 601024; omega, by have := hcs.2; show _ ≤ 7293034; omega⟩ (fun z H locs hM hS => ?_)
  obtain ⟨M2, h, hP⟩ := h z (wfz_of hM)
  unfold fr_law_47 at h
  generalize setZ M1 z = M3 at h hM
  refine lv_istore (lv' := [(5, .int kv), (0, .ref b), (1, .ref x), (2, .ref mm), (3, .ref out), (4, .int x4)]) hx hb dL_law_2903 hl (by decide) rfl (fun ls hl => ?_)
  refine lv_aload_n hx hb dL_law_2905 rfl (lv_at hl 3 rfl) ?_
  refine lv_aload_n hx hb dL_law_2906 rfl (lv_at hl 1 rfl) ?_
  refine lv_iload hx hb dL_law_2907 (lv_at hl 5 rfl) ?_
  refine lv_iconst (v := 1) hx hb dL_law_2909 (by decide) ?_
  refine lv_iadd hx hb dL_law_2910 ?_
  refine rsl hx hb hX hbl hbA hS hin1 ha1 dL_law_2911 ?_
  obtain ⟨v4, M3, h1, h⟩ := ob2 h
  obtain ⟨hk1, h1⟩ := ifg h1
  refine kV1 (ci := 5) (As := [.int a1]) (rest := []) hC hE hS hM (mt_X5_restore _ E mm a1 _ _ _ h1) (gwV qw_1589 qw_1590 qw_1591 qw_103 qw_1592) ⟨rfl, rfl, (Nat.le_of_ble_eq_true rfl), (Nat.le_of_ble_eq_true rfl)⟩ dd_X5_restore rfl hk1 rfl rfl hl.1 (Nat.le_of_ble_eq_true rfl) dL_law_2912 ⟨by have := hcs.1; show _ ≤ 601024; omega, by have := hcs.2; show _ ≤ 7293034; omega⟩ (fun H locs hM hS => ?_)
  refine lv_istore (lv' := [(6, .int v4), (5, .int kv), (0, .ref b), (1, .ref x), (2, .ref mm), (3, .ref out), (4, .int x4)]) hx hb dL_law_2915 hl (by decide) rfl (fun ls hl => ?_)
  refine lv_aload_n hx hb dL_law_2917 rfl (lv_at hl 4 rfl) ?_
  obtain ⟨v6, M5, h1, h⟩ := ob2 h
  obtain ⟨hk1, h1⟩ := ifg h1
  refine kV1 (ci := 5) (As := []) (rest := []) hC hE hS hM (mt_X5_thrown _ E mm _ _ _ h1) (gwV qw_1233 qw_1234 qw_1235 qw_103 qw_1236) ⟨rfl, rfl, (Nat.le_of_ble_eq_true rfl), (Nat.le_of_ble_eq_true rfl)⟩ dd_X5_thrown rfl hk1 rfl rfl hl.1 (Nat.le_of_ble_eq_true rfl) dL_law_2918 ⟨by have := hcs.1; show _ ≤ 601024; omega, by have := hcs.2; show _ ≤ 7293034; omega⟩ (fun H locs hM hS => ?_)
  refine lv_iload hx hb dL_law_2921 (lv_at hl 1 rfl) ?_
  refine lv_icmp_eq (tgt := 2928) hx hb dL_law_2923 (by decide) (fun c1 => ?_) (fun c1 => ?_)
  · have h := ifp c1 h
    refine lv_iload hx hb dL_law_2928 (lv_at hl 1 rfl) ?_
    refine lv_if_ne (tgt := 2945) hx hb dL_law_2930 (by decide) (fun c1 => ?_) (fun c1 => ?_)
    · have h := ifn c1 h
      refine lv_goto (tgt := 3228) hx hb dL_law_2945 (by decide) ?_
      cases h
      refine W.widen (k := cells + 60) (n := slots + 3000) (by omega) (by omega) ?_
      exact hk _ _ _ _ hP hM hS (lv_sub hl [2, 3, 4, 5, 6] rfl)
    · have h := ifp c1 h
      refine lv_aload_n hx hb dL_law_2933 rfl (lv_at hl 5 rfl) ?_
      refine lv_iconst (v := 0) hx hb dL_law_2934 (by decide) ?_
      obtain ⟨v7, h1, h⟩ := ob h
      refine r_lald hx hb hE hM h1 dL_law_2935 ?_
      refine lv_iload hx hb dL_law_2936 (lv_at hl 0 rfl) ?_
      refine lv_i2l (v := v4.toInt64) hx hb dL_law_2938 rfl ?_
      refine W.lcmp hx hb dL_law_2939 ?_
      refine lv_if_eq (tgt := 2945) hx hb dL_law_2940 (by decide) (fun c1 => ?_) (fun c1 => ?_)
      · have h := ifp c1 h
        refine lv_goto (tgt := 3228) hx hb dL_law_2945 (by decide) ?_
        cases h
        refine W.widen (k := cells + 60) (n := slots + 3000) (by omega) (by omega) ?_
        exact hk _ _ _ _ hP hM hS (lv_sub hl [2, 3, 4, 5, 6] rfl)
      · have h := ifn c1 h
        refine lv_iconst (v := 0) hx hb dL_law_2943 (by decide) ?_
        cases h
  · have h := ifn c1 h
    refine lv_iconst (v := 0) hx hb dL_law_2926 (by decide) ?_
    cases h

noncomputable def fr_law_48 (x mm out : Nat) (kv : Int32) (M3 : Mem) : Option Mem :=
  bn (cK 6 mm M3 (f_X5_undo mm M3)) fun v4 M3 =>
  bn (cK 6 mm M3 (f_X5_thrown mm M3)) fun v6 M5 =>
  (if v6 = kv then
  (if kv = 0 then
  (gL out 0 M5).bind fun v7 =>
  (if (lg_cmp v7 v4.toInt64) = 0 then
  some M5
  else
  none)
  else
  some M5)
  else
  none)
/-- case 48: the wrapped call, and what follows it wherever the next address lies -/
def fk_law_48 (x mm out : Nat) (M : Mem) (P : Mem → Prop) : Prop := ∃ kv M1, f_L_undo x out M = some (kv, M1) ∧ ∀ z, wfz (setZ M1 z) → ∃ M2, fr_law_48 x mm out kv (setZ M1 z) = some M2 ∧ P M2
set_option maxHeartbeats 4000000 in
set_option maxRecDepth 100000 in
theorem lc_48 {p : Program} {l : Launch} {e : Env} {s : State} {m : MethodId} {args : Array Value} {below : List Frame} {meth : Method} {c : Code} {E : KEnv} {H : Heap} {locs : List Loc} {ls : Array Slot} {cells slots : Nat} {Q : State → Prop} {M : Mem} {P : Mem → Prop} {b L x mm out : Nat} {xs : Nat → Int32} {x4 : Int32} (hfl : l.stackTraces = false) (hC : CallFix p m c code 9 s args lw_G RL) (hE : EnvOK E s) (hX : va_X b L xs s s.heap) (hbl : b < s.heap.size) (hbA : ¬ eA E b) (hcs : cells + 60 ≤ 601024 ∧ slots + 3000 ≤ 7293034) (hM : MOK E M H) (hS : va_S (eA E) s.heap H locs) (hl : lv_has ls 9 [(0, .ref b), (1, .ref x), (2, .ref mm), (3, .ref out), (4, .int x4)]) (h : fk_law_48 x mm out M P)
    (hk : ∀ (M2 : Mem) (H : Heap) (locs : List Loc) (ls : Array Slot), P M2 → MOK E M2 H → va_S (eA E) s.heap H locs → lv_has ls 9 [(0, .ref b), (1, .ref x), (2, .ref mm), (3, .ref out), (4, .int x4)] → W p l e room_1 s m args below meth c H locs (cells + 60) (slots + 3000) Q (F0 m 3228 ls [])) : W p l e room_1 s m args below meth c H locs cells slots Q (F0 m 2948 ls []) := by
  obtain ⟨hx, hb, hml, hown, hts⟩ := id hC
  refine lv_aload_n hx hb dL_law_2948 rfl (lv_at hl 1 rfl) ?_
  refine lv_aload_n hx hb dL_law_2949 rfl (lv_at hl 3 rfl) ?_
  obtain ⟨kv, M1, h1, h⟩ := h
  refine kSW (As := [.ref x, .ref out]) (rest := []) hC hE hS hM (mt_L_undo _ hfl E x out _ _ _ h1) (gwSW qw_1045 qw_1046 qw_91 qz_L_undo) ⟨rfl, rfl, (Nat.le_of_ble_eq_true rfl), (Nat.le_of_ble_eq_true rfl)⟩ dd_L_undo rfl rfl hl.1 (Nat.le_of_ble_eq_true rfl) dL_law_2950 ⟨by have := hcs.1; show _ ≤ 601024; omega, by have := hcs.2; show _ ≤ 7293034; omega⟩ (fun z H locs hM hS => ?_)
  obtain ⟨M2, h, hP⟩ := h z (wfz_of hM)
  unfold fr_law_48 at h
  generalize setZ M1 z = M3 at h hM
  refine lv_istore (lv' := [(5, .int kv), (0, .ref b), (1, .ref x), (2, .ref mm), (3, .ref out), (4, .int x4)]) hx hb dL_law_2953 hl (by decide) rfl (fun ls hl => ?_)
  refine lv_aload_n hx hb dL_law_2955 rfl (lv_at hl 3 rfl) ?_
  obtain ⟨v4, M3, h1, h⟩ := ob2 h
  obtain ⟨hk1, h1⟩ := ifg h1
  refine kV1 (ci := 5) (As := []) (rest := []) hC hE hS hM (mt_X5_undo _ E mm _ _ _ h1) (gwV qw_1593 qw_1594 qw_1595 qw_103 qw_1596) ⟨rfl, rfl, (Nat.le_of_ble_eq_true rfl), (Nat.le_of_ble_eq_true rfl)⟩ dd_X5_undo rfl hk1 rfl rfl hl.1 (Nat.le_of_ble_eq_true rfl) dL_law_2956 ⟨by have := hcs.1; show _ ≤ 601024; omega, by have := hcs.2; show _ ≤ 7293034; omega⟩ (fun H locs hM hS => ?_)
  refine lv_istore (lv' := [(6, .int v4), (5, .int kv), (0, .ref b), (1, .ref x), (2, .ref mm), (3, .ref out), (4, .int x4)]) hx hb dL_law_2959 hl (by decide) rfl (fun ls hl => ?_)
  refine lv_aload_n hx hb dL_law_2961 rfl (lv_at hl 4 rfl) ?_
  obtain ⟨v6, M5, h1, h⟩ := ob2 h
  obtain ⟨hk1, h1⟩ := ifg h1
  refine kV1 (ci := 5) (As := []) (rest := []) hC hE hS hM (mt_X5_thrown _ E mm _ _ _ h1) (gwV qw_1233 qw_1234 qw_1235 qw_103 qw_1236) ⟨rfl, rfl, (Nat.le_of_ble_eq_true rfl), (Nat.le_of_ble_eq_true rfl)⟩ dd_X5_thrown rfl hk1 rfl rfl hl.1 (Nat.le_of_ble_eq_true rfl) dL_law_2962 ⟨by have := hcs.1; show _ ≤ 601024; omega, by have := hcs.2; show _ ≤ 7293034; omega⟩ (fun H locs hM hS => ?_)
  refine lv_iload hx hb dL_law_2965 (lv_at hl 1 rfl) ?_
  refine lv_icmp_eq (tgt := 2972) hx hb dL_law_2967 (by decide) (fun c1 => ?_) (fun c1 => ?_)
  · have h := ifp c1 h
    refine lv_iload hx hb dL_law_2972 (lv_at hl 1 rfl) ?_
    refine lv_if_ne (tgt := 2989) hx hb dL_law_2974 (by decide) (fun c1 => ?_) (fun c1 => ?_)
    · have h := ifn c1 h
      refine lv_goto (tgt := 3228) hx hb dL_law_2989 (by decide) ?_
      cases h
      refine W.widen (k := cells + 60) (n := slots + 3000) (by omega) (by omega) ?_
      exact hk _ _ _ _ hP hM hS (lv_sub hl [2, 3, 4, 5, 6] rfl)
    · have h := ifp c1 h
      refine lv_aload_n hx hb dL_law_2977 rfl (lv_at hl 5 rfl) ?_
      refine lv_iconst (v := 0) hx hb dL_law_2978 (by decide) ?_
      obtain ⟨v7, h1, h⟩ := ob h
      refine r_lald hx hb hE hM h1 dL_law_2979 ?_
      refine lv_iload hx hb dL_law_2980 (lv_at hl 0 rfl) ?_
      refine lv_i2l (v := v4.toInt64) hx hb dL_law_2982 rfl ?_
      refine W.lcmp hx hb dL_law_2983 ?_
      refine lv_if_eq (tgt := 2989) hx hb dL_law_2984 (by decide) (fun c1 => ?_) (fun c1 => ?_)
      · have h := ifp c1 h
        refine lv_goto (tgt := 3228) hx hb dL_law_2989 (by decide) ?_
        cases h
        refine W.widen (k := cells + 60) (n := slots + 3000) (by omega) (by omega) ?_
        exact hk _ _ _ _ hP hM hS (lv_sub hl [2, 3, 4, 5, 6] rfl)
      · have h := ifn c1 h
        refine lv_iconst (v := 0) hx hb dL_law_2987 (by decide) ?_
        cases h
  · have h := ifn c1 h
    refine lv_iconst (v := 0) hx hb dL_law_2970 (by decide) ?_
    cases h

noncomputable def fr_law_49 (x mm out : Nat) (kv : Int32) (a1 : Int32) (M3 : Mem) : Option Mem :=
  bn (cK 6 mm M3 (f_X5_save mm a1 M3)) fun v4 M3 =>
  bn (cK 6 mm M3 (f_X5_thrown mm M3)) fun v6 M5 =>
  (if v6 = kv then
  (if kv = 0 then
  (gL out 0 M5).bind fun v7 =>
  (if (lg_cmp v7 v4.toInt64) = 0 then
  some M5
  else
  none)
  else
  some M5)
  else
  none)
/-- case 49: the wrapped call, and what follows it wherever the next address lies -/
def fk_law_49 (x mm out : Nat) (a1 : Int32) (M : Mem) (P : Mem → Prop) : Prop := ∃ kv M1, f_L_save x a1 out M = some (kv, M1) ∧ ∀ z, wfz (setZ M1 z) → ∃ M2, fr_law_49 x mm out kv a1 (setZ M1 z) = some M2 ∧ P M2
set_option maxHeartbeats 4000000 in
set_option maxRecDepth 100000 in
theorem lc_49 {p : Program} {l : Launch} {e : Env} {s : State} {m : MethodId} {args : Array Value} {below : List Frame} {meth : Method} {c : Code} {E : KEnv} {H : Heap} {locs : List Loc} {ls : Array Slot} {cells slots : Nat} {Q : State → Prop} {M : Mem} {P : Mem → Prop} {b L x mm out : Nat} {xs : Nat → Int32} {x4 a1 : Int32} (hfl : l.stackTraces = false) (hC : CallFix p m c code 9 s args lw_G RL) (hE : EnvOK E s) (hX : va_X b L xs s s.heap) (hbl : b < s.heap.size) (hbA : ¬ eA E b) (hin1 : vp_in (x4 + 1) L) (ha1 : xs (x4 + 1).toNatClampNeg = a1) (hcs : cells + 60 ≤ 601024 ∧ slots + 3000 ≤ 7293034) (hM : MOK E M H) (hS : va_S (eA E) s.heap H locs) (hl : lv_has ls 9 [(0, .ref b), (1, .ref x), (2, .ref mm), (3, .ref out), (4, .int x4)]) (h : fk_law_49 x mm out a1 M P)
    (hk : ∀ (M2 : Mem) (H : Heap) (locs : List Loc) (ls : Array Slot), P M2 → MOK E M2 H → va_S (eA E) s.heap H locs → lv_has ls 9 [(0, .ref b), (1, .ref x), (2, .ref mm), (3, .ref out), (4, .int x4)] → W p l e room_1 s m args below meth c H locs (cells + 60) (slots + 3000) Q (F0 m 3228 ls [])) : W p l e room_1 s m args below meth c H locs cells slots Q (F0 m 2992 ls []) := by
  obtain ⟨hx, hb, hml, hown, hts⟩ := id hC
  refine lv_aload_n hx hb dL_law_2992 rfl (lv_at hl 1 rfl) ?_
  refine lv_aload_n hx hb dL_law_2993 rfl (lv_at hl 0 rfl) ?_
  refine lv_iload hx hb dL_law_2994 (lv_at hl 4 rfl) ?_
  refine lv_iconst (v := 1) hx hb dL_law_2996 (by decide) ?_
  refine lv_iadd hx hb dL_law_2997 ?_
  refine rsl hx hb hX hbl hbA hS hin1 ha1 dL_law_2998 ?_
  refine lv_aload_n hx hb dL_law_2999 rfl (lv_at hl 3 rfl) ?_
  obtain ⟨kv, M1, h1, h⟩ := h
  refine kSW (As := [.ref x, .int a1, .ref out]) (rest := []) hC hE hS hM (mt_L_save _ hfl E x a1 out _ _ _ h1) (gwSW qw_1057 qw_1058 qw_91 qz_L_save) ⟨rfl, rfl, (Nat.le_of_ble_eq_true rfl), (Nat.le_of_ble_eq_true rfl)⟩ dd_L_save rfl rfl hl.1 (Nat.le_of_ble_eq_true rfl) dL_law_3000 ⟨by have := hcs.1; show _ ≤ 601024; omega, by have := hcs.2; show _ ≤ 7293034; omega⟩ (fun z H locs hM hS => ?_)
  obtain ⟨M2, h, hP⟩ := h z (wfz_of hM)
  unfold fr_law_49 at h
  generalize setZ M1 z = M3 at h hM
  refine lv_istore (lv' := [(5, .int kv), (0, .ref b), (1, .ref x), (2, .ref mm), (3, .ref out), (4, .int x4)]) hx hb dL_law_3003 hl (by decide) rfl (fun ls hl => ?_)
  refine lv_aload_n hx hb dL_law_3005 rfl (lv_at hl 3 rfl) ?_
  refine lv_aload_n hx hb dL_law_3006 rfl (lv_at hl 1 rfl) ?_
  refine lv_iload hx hb dL_law_3007 (lv_at hl 5 rfl) ?_
  refine lv_iconst (v := 1) hx hb dL_law_3009 (by decide) ?_
  refine lv_iadd hx hb dL_law_3010 ?_
  refine rsl hx hb hX hbl hbA hS hin1 ha1 dL_law_3011 ?_
  obtain ⟨v4, M3, h1, h⟩ := ob2 h
  obtain ⟨hk1, h1⟩ := ifg h1
  refine kV1 (ci := 5) (As := [.int a1]) (rest := []) hC hE hS hM (mt_X5_save _ E mm a1 _ _ _ h1) (gwV qw_1597 qw_1598 qw_1599 qw_103 qw_1600) ⟨rfl, rfl, (Nat.le_of_ble_eq_true rfl), (Nat.le_of_ble_eq_true rfl)⟩ dd_X5_save rfl hk1 rfl rfl hl.1 (Nat.le_of_ble_eq_true rfl) dL_law_3012 ⟨by have := hcs.1; show _ ≤ 601024; omega, by have := hcs.2; show _ ≤ 7293034; omega⟩ (fun H locs hM hS => ?_)
  refine lv_istore (lv' := [(6, .int v4), (5, .int kv), (0, .ref b), (1, .ref x), (2, .ref mm), (3, .ref out), (4, .int x4)]) hx hb dL_law_3015 hl (by decide) rfl (fun ls hl => ?_)
  refine lv_aload_n hx hb dL_law_3017 rfl (lv_at hl 4 rfl) ?_
  obtain ⟨v6, M5, h1, h⟩ := ob2 h
  obtain ⟨hk1, h1⟩ := ifg h1
  refine kV1 (ci := 5) (As := []) (rest := []) hC hE hS hM (mt_X5_thrown _ E mm _ _ _ h1) (gwV qw_1233 qw_1234 qw_1235 qw_103 qw_1236) ⟨rfl, rfl, (Nat.le_of_ble_eq_true rfl), (Nat.le_of_ble_eq_true rfl)⟩ dd_X5_thrown rfl hk1 rfl rfl hl.1 (Nat.le_of_ble_eq_true rfl) dL_law_3018 ⟨by have := hcs.1; show _ ≤ 601024; omega, by have := hcs.2; show _ ≤ 7293034; omega⟩ (fun H locs hM hS => ?_)
  refine lv_iload hx hb dL_law_3021 (lv_at hl 1 rfl) ?_
  refine lv_icmp_eq (tgt := 3028) hx hb dL_law_3023 (by decide) (fun c1 => ?_) (fun c1 => ?_)
  · have h := ifp c1 h
    refine lv_iload hx hb dL_law_3028 (lv_at hl 1 rfl) ?_
    refine lv_if_ne (tgt := 3045) hx hb dL_law_3030 (by decide) (fun c1 => ?_) (fun c1 => ?_)
    · have h := ifn c1 h
      refine lv_goto (tgt := 3228) hx hb dL_law_3045 (by decide) ?_
      cases h
      refine W.widen (k := cells + 60) (n := slots + 3000) (by omega) (by omega) ?_
      exact hk _ _ _ _ hP hM hS (lv_sub hl [2, 3, 4, 5, 6] rfl)
    · have h := ifp c1 h
      refine lv_aload_n hx hb dL_law_3033 rfl (lv_at hl 5 rfl) ?_
      refine lv_iconst (v := 0) hx hb dL_law_3034 (by decide) ?_
      obtain ⟨v7, h1, h⟩ := ob h
      refine r_lald hx hb hE hM h1 dL_law_3035 ?_
      refine lv_iload hx hb dL_law_3036 (lv_at hl 0 rfl) ?_
      refine lv_i2l (v := v4.toInt64) hx hb dL_law_3038 rfl ?_
      refine W.lcmp hx hb dL_law_3039 ?_
      refine lv_if_eq (tgt := 3045) hx hb dL_law_3040 (by decide) (fun c1 => ?_) (fun c1 => ?_)
      · have h := ifp c1 h
        refine lv_goto (tgt := 3228) hx hb dL_law_3045 (by decide) ?_
        cases h
        refine W.widen (k := cells + 60) (n := slots + 3000) (by omega) (by omega) ?_
        exact hk _ _ _ _ hP hM hS (lv_sub hl [2, 3, 4, 5, 6] rfl)
      · have h := ifn c1 h
        refine lv_iconst (v := 0) hx hb dL_law_3043 (by decide) ?_
        cases h
  · have h := ifn c1 h
    refine lv_iconst (v := 0) hx hb dL_law_3026 (by decide) ?_
    cases h

noncomputable def fr_law_50 (x mm out : Nat) (kv : Int32) (a1 : Int32) (M3 : Mem) : Option Mem :=
  bn (cK 6 mm M3 (f_X5_writeTags mm a1 M3)) fun v4 M3 =>
  bn (cK 6 mm M3 (f_X5_thrown mm M3)) fun v6 M5 =>
  (if v6 = kv then
  (if kv = 0 then
  (gL out 0 M5).bind fun v7 =>
  (if (lg_cmp v7 v4.toInt64) = 0 then
  some M5
  else
  none)
  else
  some M5)
  else
  none)
/-- case 50: the wrapped call, and what follows it wherever the next address lies -/
def fk_law_50 (x mm out : Nat) (a1 : Int32) (M : Mem) (P : Mem → Prop) : Prop := ∃ kv M1, f_L_writeTags x a1 out M = some (kv, M1) ∧ ∀ z, wfz (setZ M1 z) → ∃ M2, fr_law_50 x mm out kv a1 (setZ M1 z) = some M2 ∧ P M2
set_option maxHeartbeats 4000000 in
set_option maxRecDepth 100000 in
theorem lc_50 {p : Program} {l : Launch} {e : Env} {s : State} {m : MethodId} {args : Array Value} {below : List Frame} {meth : Method} {c : Code} {E : KEnv} {H : Heap} {locs : List Loc} {ls : Array Slot} {cells slots : Nat} {Q : State → Prop} {M : Mem} {P : Mem → Prop} {b L x mm out : Nat} {xs : Nat → Int32} {x4 a1 : Int32} (hfl : l.stackTraces = false) (hC : CallFix p m c code 9 s args lw_G RL) (hE : EnvOK E s) (hX : va_X b L xs s s.heap) (hbl : b < s.heap.size) (hbA : ¬ eA E b) (hin1 : vp_in (x4 + 1) L) (ha1 : xs (x4 + 1).toNatClampNeg = a1) (hcs : cells + 60 ≤ 601024 ∧ slots + 3000 ≤ 7293034) (hM : MOK E M H) (hS : va_S (eA E) s.heap H locs) (hl : lv_has ls 9 [(0, .ref b), (1, .ref x), (2, .ref mm), (3, .ref out), (4, .int x4)]) (h : fk_law_50 x mm out a1 M P)
    (hk : ∀ (M2 : Mem) (H : Heap) (locs : List Loc) (ls : Array Slot), P M2 → MOK E M2 H → va_S (eA E) s.heap H locs → lv_has ls 9 [(0, .ref b), (1, .ref x), (2, .ref mm), (3, .ref out), (4, .int x4)] → W p l e room_1 s m args below meth c H locs (cells + 60) (slots + 3000) Q (F0 m 3228 ls [])) : W p l e room_1 s m args below meth c H locs cells slots Q (F0 m 3048 ls []) := by
  obtain ⟨hx, hb, hml, hown, hts⟩ := id hC
  refine lv_aload_n hx hb dL_law_3048 rfl (lv_at hl 1 rfl) ?_
  refine lv_aload_n hx hb dL_law_3049 rfl (lv_at hl 0 rfl) ?_
  refine lv_iload hx hb dL_law_3050 (lv_at hl 4 rfl) ?_
  refine lv_iconst (v := 1) hx hb dL_law_3052 (by decide) ?_
  refine lv_iadd hx hb dL_law_3053 ?_
  refine rsl hx hb hX hbl hbA hS hin1 ha1 dL_law_3054 ?_
  refine lv_aload_n hx hb dL_law_3055 rfl (lv_at hl 3 rfl) ?_
  obtain ⟨kv, M1, h1, h⟩ := h
  refine kSW (As := [.ref x, .int a1, .ref out]) (rest := []) hC hE hS hM (mt_L_writeTags _ hfl E x a1 out _ _ _ h1) (gwSW qw_1064 qw_1065 qw_91 qz_L_writeTags) ⟨rfl, rfl, (Nat.le_of_ble_eq_true rfl), (Nat.le_of_ble_eq_true rfl)⟩ dd_L_writeTags rfl rfl hl.1 (Nat.le_of_ble_eq_true rfl) dL_law_3056 ⟨by have := hcs.1; show _ ≤ 601024; omega, by have := hcs.2; show _ ≤ 7293034; omega⟩ (fun z H locs hM hS => ?_)
  obtain ⟨M2, h, hP⟩ := h z (wfz_of hM)
  unfold fr_law_50 at h
  generalize setZ M1 z = M3 at h hM
  refine lv_istore (lv' := [(5, .int kv), (0, .ref b), (1, .ref x), (2, .ref mm), (3, .ref out), (4, .int x4)]) hx hb dL_law_3059 hl (by decide) rfl (fun ls hl => ?_)
  refine lv_aload_n hx hb dL_law_3061 rfl (lv_at hl 3 rfl) ?_
  refine lv_aload_n hx hb dL_law_3062 rfl (lv_at hl 1 rfl) ?_
  refine lv_iload hx hb dL_law_3063 (lv_at hl 5 rfl) ?_
  refine lv_iconst (v := 1) hx hb dL_law_3065 (by decide) ?_
  refine lv_iadd hx hb dL_law_3066 ?_
  refine rsl hx hb hX hbl hbA hS hin1 ha1 dL_law_3067 ?_
  obtain ⟨v4, M3, h1, h⟩ := ob2 h
  obtain ⟨hk1, h1⟩ := ifg h1
  refine kV1 (ci := 5) (As := [.int a1]) (rest := []) hC hE hS hM (mt_X5_writeTags _ E mm a1 _ _ _ h1) (gwV qw_1601 qw_1602 qw_1603 qw_103 qw_1604) ⟨rfl, rfl, (Nat.le_of_ble_eq_true rfl), (Nat.le_of_ble_eq_true rfl)⟩ dd_X5_writeTags rfl hk1 rfl rfl hl.1 (Nat.le_of_ble_eq_true rfl) dL_law_3068 ⟨by have := hcs.1; show _ ≤ 601024; omega, by have := hcs.2; show _ ≤ 7293034; omega⟩ (fun H locs hM hS => ?_)
  refine lv_istore (lv' := [(6, .int v4), (5, .int kv), (0, .ref b), (1, .ref x), (2, .ref mm), (3, .ref out), (4, .int x4)]) hx hb dL_law_3071 hl (by decide) rfl (fun ls hl => ?_)
  refine lv_aload_n hx hb dL_law_3073 rfl (lv_at hl 4 rfl) ?_
  obtain ⟨v6, M5, h1, h⟩ := ob2 h
  obtain ⟨hk1, h1⟩ := ifg h1
  refine kV1 (ci := 5) (As := []) (rest := []) hC hE hS hM (mt_X5_thrown _ E mm _ _ _ h1) (gwV qw_1233 qw_1234 qw_1235 qw_103 qw_1236) ⟨rfl, rfl, (Nat.le_of_ble_eq_true rfl), (Nat.le_of_ble_eq_true rfl)⟩ dd_X5_thrown rfl hk1 rfl rfl hl.1 (Nat.le_of_ble_eq_true rfl) dL_law_3074 ⟨by have := hcs.1; show _ ≤ 601024; omega, by have := hcs.2; show _ ≤ 7293034; omega⟩ (fun H locs hM hS => ?_)
  refine lv_iload hx hb dL_law_3077 (lv_at hl 1 rfl) ?_
  refine lv_icmp_eq (tgt := 3084) hx hb dL_law_3079 (by decide) (fun c1 => ?_) (fun c1 => ?_)
  · have h := ifp c1 h
    refine lv_iload hx hb dL_law_3084 (lv_at hl 1 rfl) ?_
    refine lv_if_ne (tgt := 3101) hx hb dL_law_3086 (by decide) (fun c1 => ?_) (fun c1 => ?_)
    · have h := ifn c1 h
      refine lv_goto (tgt := 3228) hx hb dL_law_3101 (by decide) ?_
      cases h
      refine W.widen (k := cells + 60) (n := slots + 3000) (by omega) (by omega) ?_
      exact hk _ _ _ _ hP hM hS (lv_sub hl [2, 3, 4, 5, 6] rfl)
    · have h := ifp c1 h
      refine lv_aload_n hx hb dL_law_3089 rfl (lv_at hl 5 rfl) ?_
      refine lv_iconst (v := 0) hx hb dL_law_3090 (by decide) ?_
      obtain ⟨v7, h1, h⟩ := ob h
      refine r_lald hx hb hE hM h1 dL_law_3091 ?_
      refine lv_iload hx hb dL_law_3092 (lv_at hl 0 rfl) ?_
      refine lv_i2l (v := v4.toInt64) hx hb dL_law_3094 rfl ?_
      refine W.lcmp hx hb dL_law_3095 ?_
      refine lv_if_eq (tgt := 3101) hx hb dL_law_3096 (by decide) (fun c1 => ?_) (fun c1 => ?_)
      · have h := ifp c1 h
        refine lv_goto (tgt := 3228) hx hb dL_law_3101 (by decide) ?_
        cases h
        refine W.widen (k := cells + 60) (n := slots + 3000) (by omega) (by omega) ?_
        exact hk _ _ _ _ hP hM hS (lv_sub hl [2, 3, 4, 5, 6] rfl)
      · have h := ifn c1 h
        refine lv_iconst (v := 0) hx hb dL_law_3099 (by decide) ?_
        cases h
  · have h := ifn c1 h
    refine lv_iconst (v := 0) hx hb dL_law_3082 (by decide) ?_
    cases h

noncomputable def fr_law_51 (x mm out : Nat) (kv : Int32) (a1 : Int32) (a2 : Int32) (M3 : Mem) : Option Mem :=
  bn (cK 6 mm M3 (f_X5_writeRegister mm a1 a2 M3)) fun v4 M3 =>
  bn (cK 6 mm M3 (f_X5_thrown mm M3)) fun v6 M5 =>
  (if v6 = kv then
  (if kv = 0 then
  (gL out 0 M5).bind fun v7 =>
  (if (lg_cmp v7 v4.toInt64) = 0 then
  some M5
  else
  none)
  else
  some M5)
  else
  none)
/-- case 51: the wrapped call, and what follows it wherever the next address lies -/
def fk_law_51 (x mm out : Nat) (a1 : Int32) (a2 : Int32) (M : Mem) (P : Mem → Prop) : Prop := ∃ kv M1, f_L_writeRegister x a1 a2 out M = some (kv, M1) ∧ ∀ z, wfz (setZ M1 z) → ∃ M2, fr_law_51 x mm out kv a1 a2 (setZ M1 z) = some M2 ∧ P M2
set_option maxHeartbeats 4000000 in
set_option maxRecDepth 100000 in
theorem lc_51 {p : Program} {l : Launch} {e : Env} {s : State} {m : MethodId} {args : Array Value} {below : List Frame} {meth : Method} {c : Code} {E : KEnv} {H : Heap} {locs : List Loc} {ls : Array Slot} {cells slots : Nat} {Q : State → Prop} {M : Mem} {P : Mem → Prop} {b L x mm out : Nat} {xs : Nat → Int32} {x4 a1 a2 : Int32} (hfl : l.stackTraces = false) (hC : CallFix p m c code 9 s args lw_G RL) (hE : EnvOK E s) (hX : va_X b L xs s s.heap) (hbl : b < s.heap.size) (hbA : ¬ eA E b) (hin1 : vp_in (x4 + 1) L) (ha1 : xs (x4 + 1).toNatClampNeg = a1) (hin2 : vp_in (x4 + 2) L) (ha2 : xs (x4 + 2).toNatClampNeg = a2) (hcs : cells + 60 ≤ 601024 ∧ slots + 3000 ≤ 7293034) (hM : MOK E M H) (hS : va_S (eA E) s.heap H locs) (hl : lv_has ls 9 [(0, .ref b), (1, .ref x), (2, .ref mm), (3, .ref out), (4, .int x4)]) (h : fk_law_51 x mm out a1 a2 M P)
    (hk : ∀ (M2 : Mem) (H : Heap) (locs : List Loc) (ls : Array Slot), P M2 → MOK E M2 H → va_S (eA E) s.heap H locs → lv_has ls 9 [(0, .ref b), (1, .ref x), (2, .ref mm), (3, .ref out), (4, .int x4)] → W p l e room_1 s m args below meth c H locs (cells + 60) (slots + 3000) Q (F0 m 3228 ls [])) : W p l e room_1 s m args below meth c H locs cells slots Q (F0 m 3104 ls []) := by
  obtain ⟨hx, hb, hml, hown, hts⟩ := id hC
  refine lv_aload_n hx hb dL_law_3104 rfl (lv_at hl 1 rfl) ?_
  refine lv_aload_n hx hb dL_law_3105 rfl (lv_at hl 0 rfl) ?_
  refine lv_iload hx hb dL_law_3106 (lv_at hl 4 rfl) ?_
  refine lv_iconst (v := 1) hx hb dL_law_3108 (by decide) ?_
  refine lv_iadd hx hb dL_law_3109 ?_
  refine rsl hx hb hX hbl hbA hS hin1 ha1 dL_law_3110 ?_
  refine lv_aload_n hx hb dL_law_3111 rfl (lv_at hl 0 rfl) ?_
  refine lv_iload hx hb dL_law_3112 (lv_at hl 4 rfl) ?_
  refine lv_iconst (v := 2) hx hb dL_law_3114 (by decide) ?_
  refine lv_iadd hx hb dL_law_3115 ?_
  refine rsl hx hb hX hbl hbA hS hin2 ha2 dL_law_3116 ?_
  refine lv_aload_n hx hb dL_law_3117 rfl (lv_at hl 3 rfl) ?_
  obtain ⟨kv, M1, h1, h⟩ := h
  refine kSW (As := [.ref x, .int a1, .int a2, .ref out]) (rest := []) hC hE hS hM (mt_L_writeRegister _ hfl E x a1 a2 out _ _ _ h1) (gwSW qw_1075 qw_1076 qw_91 qz_L_writeRegister) ⟨rfl, rfl, (Nat.le_of_ble_eq_true rfl), (Nat.le_of_ble_eq_true rfl)⟩ dd_L_writeRegister rfl rfl hl.1 (Nat.le_of_ble_eq_true rfl) dL_law_3118 ⟨by have := hcs.1; show _ ≤ 601024; omega, by have := hcs.2; show _ ≤ 7293034; omega⟩ (fun z H locs hM hS => ?_)
  obtain ⟨M2, h, hP⟩ := h z (wfz_of hM)
  unfold fr_law_51 at h
  generalize setZ M1 z = M3 at h hM
  refine lv_istore (lv' := [(5, .int kv), (0, .ref b), (1, .ref x), (2, .ref mm), (3, .ref out), (4, .int x4)]) hx hb dL_law_3121 hl (by decide) rfl (fun ls hl => ?_)
  refine lv_aload_n hx hb dL_law_3123 rfl (lv_at hl 3 rfl) ?_
  refine lv_aload_n hx hb dL_law_3124 rfl (lv_at hl 1 rfl) ?_
  refine lv_iload hx hb dL_law_3125 (lv_at hl 5 rfl) ?_
  refine lv_iconst (v := 1) hx hb dL_law_3127 (by decide) ?_
  refine lv_iadd hx hb dL_law_3128 ?_
  refine rsl hx hb hX hbl hbA hS hin1 ha1 dL_law_3129 ?_
  refine lv_aload_n hx hb dL_law_3130 rfl (lv_at hl 1 rfl) ?_
  refine lv_iload hx hb dL_law_3131 (lv_at hl 5 rfl) ?_
  refine lv_iconst (v := 2) hx hb dL_law_3133 (by decide) ?_
  refine lv_iadd hx hb dL_law_3134 ?_
  refine rsl hx hb hX hbl hbA hS hin2 ha2 dL_law_3135 ?_
  obtain ⟨v4, M3, h1, h⟩ := ob2 h
  obtain ⟨hk1, h1⟩ := ifg h1
  refine kV1 (ci := 5) (As := [.int a1, .int a2]) (rest := []) hC hE hS hM (mt_X5_writeRegister _ E mm a1 a2 _ _ _ h1) (gwV qw_1609 qw_1610 qw_1611 qw_103 qw_1612) ⟨rfl, rfl, (Nat.le_of_ble_eq_true rfl), (Nat.le_of_ble_eq_true rfl)⟩ dd_X5_writeRegister rfl hk1 rfl rfl hl.1 (Nat.le_of_ble_eq_true rfl) dL_law_3136 ⟨by have := hcs.1; show _ ≤ 601024; omega, by have := hcs.2; show _ ≤ 7293034; omega⟩ (fun H locs hM hS => ?_)
  refine lv_istore (lv' := [(6, .int v4), (5, .int kv), (0, .ref b), (1, .ref x), (2, .ref mm), (3, .ref out), (4, .int x4)]) hx hb dL_law_3139 hl (by decide) rfl (fun ls hl => ?_)
  refine lv_aload_n hx hb dL_law_3141 rfl (lv_at hl 4 rfl) ?_
  obtain ⟨v6, M5, h1, h⟩ := ob2 h
  obtain ⟨hk1, h1⟩ := ifg h1
  refine kV1 (ci := 5) (As := []) (rest := []) hC hE hS hM (mt_X5_thrown _ E mm _ _ _ h1) (gwV qw_1233 qw_1234 qw_1235 qw_103 qw_1236) ⟨rfl, rfl, (Nat.le_of_ble_eq_true rfl), (Nat.le_of_ble_eq_true rfl)⟩ dd_X5_thrown rfl hk1 rfl rfl hl.1 (Nat.le_of_ble_eq_true rfl) dL_law_3142 ⟨by have := hcs.1; show _ ≤ 601024; omega, by have := hcs.2; show _ ≤ 7293034; omega⟩ (fun H locs hM hS => ?_)
  refine lv_iload hx hb dL_law_3145 (lv_at hl 1 rfl) ?_
  refine lv_icmp_eq (tgt := 3152) hx hb dL_law_3147 (by decide) (fun c1 => ?_) (fun c1 => ?_)
  · have h := ifp c1 h
    refine lv_iload hx hb dL_law_3152 (lv_at hl 1 rfl) ?_
    refine lv_if_ne (tgt := 3169) hx hb dL_law_3154 (by decide) (fun c1 => ?_) (fun c1 => ?_)
    · have h := ifn c1 h
      refine lv_goto (tgt := 3228) hx hb dL_law_3169 (by decide) ?_
      cases h
      refine W.widen (k := cells + 60) (n := slots + 3000) (by omega) (by omega) ?_
      exact hk _ _ _ _ hP hM hS (lv_sub hl [2, 3, 4, 5, 6] rfl)
    · have h := ifp c1 h
      refine lv_aload_n hx hb dL_law_3157 rfl (lv_at hl 5 rfl) ?_
      refine lv_iconst (v := 0) hx hb dL_law_3158 (by decide) ?_
      obtain ⟨v7, h1, h⟩ := ob h
      refine r_lald hx hb hE hM h1 dL_law_3159 ?_
      refine lv_iload hx hb dL_law_3160 (lv_at hl 0 rfl) ?_
      refine lv_i2l (v := v4.toInt64) hx hb dL_law_3162 rfl ?_
      refine W.lcmp hx hb dL_law_3163 ?_
      refine lv_if_eq (tgt := 3169) hx hb dL_law_3164 (by decide) (fun c1 => ?_) (fun c1 => ?_)
      · have h := ifp c1 h
        refine lv_goto (tgt := 3228) hx hb dL_law_3169 (by decide) ?_
        cases h
        refine W.widen (k := cells + 60) (n := slots + 3000) (by omega) (by omega) ?_
        exact hk _ _ _ _ hP hM hS (lv_sub hl [2, 3, 4, 5, 6] rfl)
      · have h := ifn c1 h
        refine lv_iconst (v := 0) hx hb dL_law_3167 (by decide) ?_
        cases h
  · have h := ifn c1 h
    refine lv_iconst (v := 0) hx hb dL_law_3150 (by decide) ?_
    cases h

noncomputable def fr_law_52 (x mm out : Nat) (kv : Int32) (a1 : Int32) (M3 : Mem) : Option Mem :=
  bn (cK 6 mm M3 (f_X5_outputByte mm a1 M3)) fun v4 M3 =>
  bn (cK 6 mm M3 (f_X5_thrown mm M3)) fun v6 M5 =>
  (if v6 = kv then
  (if kv = 0 then
  (gL out 0 M5).bind fun v7 =>
  (if (lg_cmp v7 v4.toInt64) = 0 then
  some M5
  else
  none)
  else
  some M5)
  else
  none)
/-- case 52: the wrapped call, and what follows it wherever the next address lies -/
def fk_law_52 (x mm out : Nat) (a1 : Int32) (M : Mem) (P : Mem → Prop) : Prop := ∃ kv M1, f_L_outputByte x a1 out M = some (kv, M1) ∧ ∀ z, wfz (setZ M1 z) → ∃ M2, fr_law_52 x mm out kv a1 (setZ M1 z) = some M2 ∧ P M2
set_option maxHeartbeats 4000000 in
set_option maxRecDepth 100000 in
theorem lc_52 {p : Program} {l : Launch} {e : Env} {s : State} {m : MethodId} {args : Array Value} {below : List Frame} {meth : Method} {c : Code} {E : KEnv} {H : Heap} {locs : List Loc} {ls : Array Slot} {cells slots : Nat} {Q : State → Prop} {M : Mem} {P : Mem → Prop} {b L x mm out : Nat} {xs : Nat → Int32} {x4 a1 : Int32} (hfl : l.stackTraces = false) (hC : CallFix p m c code 9 s args lw_G RL) (hE : EnvOK E s) (hX : va_X b L xs s s.heap) (hbl : b < s.heap.size) (hbA : ¬ eA E b) (hin1 : vp_in (x4 + 1) L) (ha1 : xs (x4 + 1).toNatClampNeg = a1) (hcs : cells + 60 ≤ 601024 ∧ slots + 3000 ≤ 7293034) (hM : MOK E M H) (hS : va_S (eA E) s.heap H locs) (hl : lv_has ls 9 [(0, .ref b), (1, .ref x), (2, .ref mm), (3, .ref out), (4, .int x4)]) (h : fk_law_52 x mm out a1 M P)
    (hk : ∀ (M2 : Mem) (H : Heap) (locs : List Loc) (ls : Array Slot), P M2 → MOK E M2 H → va_S (eA E) s.heap H locs → lv_has ls 9 [(0, .ref b), (1, .ref x), (2, .ref mm), (3, .ref out), (4, .int x4)] → W p l e room_1 s m args below meth c H locs (cells + 60) (slots + 3000) Q (F0 m 3228 ls [])) : W p l e room_1 s m args below meth c H locs cells slots Q (F0 m 3172 ls []) := by
  obtain ⟨hx, hb, hml, hown, hts⟩ := id hC
  refine lv_aload_n hx hb dL_law_3172 rfl (lv_at hl 1 rfl) ?_
  refine lv_aload_n hx hb dL_law_3173 rfl (lv_at hl 0 rfl) ?_
  refine lv_iload hx hb dL_law_3174 (lv_at hl 4 rfl) ?_
  refine lv_iconst (v := 1) hx hb dL_law_3176 (by decide) ?_
  refine lv_iadd hx hb dL_law_3177 ?_
  refine rsl hx hb hX hbl hbA hS hin1 ha1 dL_law_3178 ?_
  refine lv_aload_n hx hb dL_law_3179 rfl (lv_at hl 3 rfl) ?_
  obtain ⟨kv, M1, h1, h⟩ := h
  refine kSW (As := [.ref x, .int a1, .ref out]) (rest := []) hC hE hS hM (mt_L_outputByte _ hfl E x a1 out _ _ _ h1) (gwSW qw_1086 qw_1087 qw_91 qz_L_outputByte) ⟨rfl, rfl, (Nat.le_of_ble_eq_true rfl), (Nat.le_of_ble_eq_true rfl)⟩ dd_L_outputByte rfl rfl hl.1 (Nat.le_of_ble_eq_true rfl) dL_law_3180 ⟨by have := hcs.1; show _ ≤ 601024; omega, by have := hcs.2; show _ ≤ 7293034; omega⟩ (fun z H locs hM hS => ?_)
  obtain ⟨M2, h, hP⟩ := h z (wfz_of hM)
  unfold fr_law_52 at h
  generalize setZ M1 z = M3 at h hM
  refine lv_istore (lv' := [(5, .int kv), (0, .ref b), (1, .ref x), (2, .ref mm), (3, .ref out), (4, .int x4)]) hx hb dL_law_3183 hl (by decide) rfl (fun ls hl => ?_)
  refine lv_aload_n hx hb dL_law_3185 rfl (lv_at hl 3 rfl) ?_
  refine lv_aload_n hx hb dL_law_3186 rfl (lv_at hl 1 rfl) ?_
  refine lv_iload hx hb dL_law_3187 (lv_at hl 5 rfl) ?_
  refine lv_iconst (v := 1) hx hb dL_law_3189 (by decide) ?_
  refine lv_iadd hx hb dL_law_3190 ?_
  refine rsl hx hb hX hbl hbA hS hin1 ha1 dL_law_3191 ?_
  obtain ⟨v4, M3, h1, h⟩ := ob2 h
  obtain ⟨hk1, h1⟩ := ifg h1
  refine kV1 (ci := 5) (As := [.int a1]) (rest := []) hC hE hS hM (mt_X5_outputByte _ E mm a1 _ _ _ h1) (gwV qw_1613 qw_1614 qw_1615 qw_103 qw_1616) ⟨rfl, rfl, (Nat.le_of_ble_eq_true rfl), (Nat.le_of_ble_eq_true rfl)⟩ dd_X5_outputByte rfl hk1 rfl rfl hl.1 (Nat.le_of_ble_eq_true rfl) dL_law_3192 ⟨by have := hcs.1; show _ ≤ 601024; omega, by have := hcs.2; show _ ≤ 7293034; omega⟩ (fun H locs hM hS => ?_)
  refine lv_istore (lv' := [(6, .int v4), (5, .int kv), (0, .ref b), (1, .ref x), (2, .ref mm), (3, .ref out), (4, .int x4)]) hx hb dL_law_3195 hl (by decide) rfl (fun ls hl => ?_)
  refine lv_aload_n hx hb dL_law_3197 rfl (lv_at hl 4 rfl) ?_
  obtain ⟨v6, M5, h1, h⟩ := ob2 h
  obtain ⟨hk1, h1⟩ := ifg h1
  refine kV1 (ci := 5) (As := []) (rest := []) hC hE hS hM (mt_X5_thrown _ E mm _ _ _ h1) (gwV qw_1233 qw_1234 qw_1235 qw_103 qw_1236) ⟨rfl, rfl, (Nat.le_of_ble_eq_true rfl), (Nat.le_of_ble_eq_true rfl)⟩ dd_X5_thrown rfl hk1 rfl rfl hl.1 (Nat.le_of_ble_eq_true rfl) dL_law_3198 ⟨by have := hcs.1; show _ ≤ 601024; omega, by have := hcs.2; show _ ≤ 7293034; omega⟩ (fun H locs hM hS => ?_)
  refine lv_iload hx hb dL_law_3201 (lv_at hl 1 rfl) ?_
  refine lv_icmp_eq (tgt := 3208) hx hb dL_law_3203 (by decide) (fun c1 => ?_) (fun c1 => ?_)
  · have h := ifp c1 h
    refine lv_iload hx hb dL_law_3208 (lv_at hl 1 rfl) ?_
    refine lv_if_ne (tgt := 3225) hx hb dL_law_3210 (by decide) (fun c1 => ?_) (fun c1 => ?_)
    · have h := ifn c1 h
      refine lv_goto (tgt := 3228) hx hb dL_law_3225 (by decide) ?_
      cases h
      refine W.widen (k := cells + 60) (n := slots + 3000) (by omega) (by omega) ?_
      exact hk _ _ _ _ hP hM hS (lv_sub hl [2, 3, 4, 5, 6] rfl)
    · have h := ifp c1 h
      refine lv_aload_n hx hb dL_law_3213 rfl (lv_at hl 5 rfl) ?_
      refine lv_iconst (v := 0) hx hb dL_law_3214 (by decide) ?_
      obtain ⟨v7, h1, h⟩ := ob h
      refine r_lald hx hb hE hM h1 dL_law_3215 ?_
      refine lv_iload hx hb dL_law_3216 (lv_at hl 0 rfl) ?_
      refine lv_i2l (v := v4.toInt64) hx hb dL_law_3218 rfl ?_
      refine W.lcmp hx hb dL_law_3219 ?_
      refine lv_if_eq (tgt := 3225) hx hb dL_law_3220 (by decide) (fun c1 => ?_) (fun c1 => ?_)
      · have h := ifp c1 h
        refine lv_goto (tgt := 3228) hx hb dL_law_3225 (by decide) ?_
        cases h
        refine W.widen (k := cells + 60) (n := slots + 3000) (by omega) (by omega) ?_
        exact hk _ _ _ _ hP hM hS (lv_sub hl [2, 3, 4, 5, 6] rfl)
      · have h := ifn c1 h
        refine lv_iconst (v := 0) hx hb dL_law_3223 (by decide) ?_
        cases h
  · have h := ifn c1 h
    refine lv_iconst (v := 0) hx hb dL_law_3206 (by decide) ?_
    cases h
