/-! the cases of the law's switch -/
noncomputable def fr_law_17 (x mm out : Nat) (kv : Int32) (a1 : Int32) (a2 : Int32) (a3 : Int32) (M3 : Mem) : Option Mem :=
  bn (cK 6 mm M3 (f_X5_tagDot mm a1 a2 a3 M3)) fun v4 M3 =>
  bn (cK 6 mm M3 (f_X5_thrown mm M3)) fun v6 M5 =>
  (if v6 = kv then
  (if kv = 0 then
  (gL out 0 M5).bind fun v7 =>
  (if (lg_cmp v7 v4.toInt64) = 0 then
  some M5
  else
  none)
  else
  some M5)
  else
  none)
/-- case 17: the wrapped call, and what follows it wherever the next address lies -/
def fk_law_17 (x mm out : Nat) (a1 : Int32) (a2 : Int32) (a3 : Int32) (M : Mem) (P : Mem → Prop) : Prop := ∃ kv M1, f_L_tagDot x a1 a2 a3 out M = some (kv, M1) ∧ ∀ z, wfz (setZ M1 z) → ∃ M2, fr_law_17 x mm out kv a1 a2 a3 (setZ M1 z) = some M2 ∧ P M2
set_option maxHeartbeats 4000000 in
set_option maxRecDepth 100000 in
theorem lc_17 {p : Program} {l : Launch} {e : Env} {s : State} {m : MethodId} {args : Array Value} {below : List Frame} {meth : Method} {c : Code} {E : KEnv} {H : Heap} {locs : List Loc} {ls : Array Slot} {cells slots : Nat} {Q : State → Prop} {M : Mem} {P : Mem → Prop} {b L x mm out : Nat} {xs : Nat → Int32} {x4 a1 a2 a3 : Int32} (hfl : l.stackTraces = false) (hC : CallFix p m c code 9 s args lw_G RL) (hE : EnvOK E s) (hX : va_X b L xs s s.heap) (hbl : b < s.heap.size) (hbA : ¬ eA E b) (hin1 : vp_in (x4 + 1) L) (ha1 : xs (x4 + 1).toNatClampNeg = a1) (hin2 : vp_in (x4 + 2) L) (ha2 : xs (x4 + 2).toNatClampNeg = a2) (hin3 : vp_in (x4 + 3) L) (ha3 : xs (x4 + 3).toNatClampNeg = a3) (hcs : cells + 60 ≤ 601024 ∧ slots + 3000 ≤ 7293034) (hM : MOK E M H) (hS : va_S (eA E) s.heap H locs) (hl : lv_has ls 9 [(0, .ref b), (1, .ref x), (2, .ref mm), (3, .ref out), (4, .int x4)]) (h : fk_law_17 x mm out a1 a2 a3 M P)
    (hk : ∀ (M2 : Mem) (H : Heap) (locs : List Loc) (ls : Array Slot), P M2 → MOK E M2 H → va_S (eA E) s.heap H locs → lv_has ls 9 [(0, .ref b), (1, .ref x), (2, .ref mm), (3, .ref out), (4, .int x4)] → W p l e room_1 s m args below meth c H locs (cells + 60) (slots + 3000) Q (F0 m 3228 ls [])) : W p l e room_1 s m args below meth c H locs cells slots Q (F0 m 1170 ls []) := by
  obtain ⟨hx, hb, hml, hown, hts⟩ := id hC
  refine lv_aload_n hx hb dL_law_1170 rfl (lv_at hl 1 rfl) ?_
  refine lv_aload_n hx hb dL_law_1171 rfl (lv_at hl 0 rfl) ?_
  refine lv_iload hx hb dL_law_1172 (lv_at hl 4 rfl) ?_
  refine lv_iconst (v := 1) hx hb dL_law_1174 (by decide) ?_
  refine lv_iadd hx hb dL_law_1175 ?_
  refine rsl hx hb hX hbl hbA hS hin1 ha1 dL_law_1176 ?_
  refine lv_aload_n hx hb dL_law_1177 rfl (lv_at hl 0 rfl) ?_
  refine lv_iload hx hb dL_law_1178 (lv_at hl 4 rfl) ?_
  refine lv_iconst (v := 2) hx hb dL_law_1180 (by decide) ?_
  refine lv_iadd hx hb dL_law_1181 ?_
  refine rsl hx hb hX hbl hbA hS hin2 ha2 dL_law_1182 ?_
  refine lv_aload_n hx hb dL_law_1183 rfl (lv_at hl 0 rfl) ?_
  refine lv_iload hx hb dL_law_1184 (lv_at hl 4 rfl) ?_
  refine lv_iconst (v := 3) hx hb dL_law_1186 (by decide) ?_
  refine lv_iadd hx hb dL_law_1187 ?_
  refine rsl hx hb hX hbl hbA hS hin3 ha3 dL_law_1188 ?_
  refine lv_aload_n hx hb dL_law_1189 rfl (lv_at hl 3 rfl) ?_
  obtain ⟨kv, M1, h1, h⟩ := h
  refine kSW (As := [.ref x, .int a1, .int a2, .int a3, .ref out]) (rest := []) hC hE hS hM (mt_L_tagDot _ hfl E x a1 a2 a3 out _ _ _ h1) (gwSW qw_817 qw_818 qw_91 qz_L_tagDot) ⟨rfl, rfl, (Nat.le_of_ble_eq_true rfl), (Nat.le_of_ble_eq_true rfl)⟩ dd_L_tagDot rfl rfl hl.1 (Nat.le_of_ble_eq_true rfl) dL_law_1190 ⟨by have := hcs.1; show _ ≤ 601024; omega, by have := hcs.2; show _ ≤ 7293034; omega⟩ (fun z H locs hM hS => ?_)
  obtain ⟨M2, h, hP⟩ := h z (wfz_of hM)
  unfold fr_law_17 at h
  generalize setZ M1 z = M3 at h hM
  refine lv_istore (lv' := [(5, .int kv), (0, .ref b), (1, .ref x), (2, .ref mm), (3, .ref out), (4, .int x4)]) hx hb dL_law_1193 hl (by decide) rfl (fun ls hl => ?_)
  refine lv_aload_n hx hb dL_law_1195 rfl (lv_at hl 3 rfl) ?_
  refine lv_aload_n hx hb dL_law_1196 rfl (lv_at hl 1 rfl) ?_
  refine lv_iload hx hb dL_law_1197 (lv_at hl 5 rfl) ?_
  refine lv_iconst (v := 1) hx hb dL_law_1199 (by decide) ?_
  refine lv_iadd hx hb dL_law_1200 ?_
  refine rsl hx hb hX hbl hbA hS hin1 ha1 dL_law_1201 ?_
  refine lv_aload_n hx hb dL_law_1202 rfl (lv_at hl 1 rfl) ?_
  refine lv_iload hx hb dL_law_1203 (lv_at hl 5 rfl) ?_
  refine lv_iconst (v := 2) hx hb dL_law_1205 (by decide) ?_
  refine lv_iadd hx hb dL_law_1206 ?_
  refine rsl hx hb hX hbl hbA hS hin2 ha2 dL_law_1207 ?_
  refine lv_aload_n hx hb dL_law_1208 rfl (lv_at hl 1 rfl) ?_
  refine lv_iload hx hb dL_law_1209 (lv_at hl 5 rfl) ?_
  refine lv_iconst (v := 3) hx hb dL_law_1211 (by decide) ?_
  refine lv_iadd hx hb dL_law_1212 ?_
  refine rsl hx hb hX hbl hbA hS hin3 ha3 dL_law_1213 ?_
  obtain ⟨v4, M3, h1, h⟩ := ob2 h
  obtain ⟨hk1, h1⟩ := ifg h1
  refine kV1 (ci := 5) (As := [.int a1, .int a2, .int a3]) (rest := []) hC hE hS hM (mt_X5_tagDot _ E mm a1 a2 a3 _ _ _ h1) (gwV qw_1421 qw_1422 qw_1423 qw_103 qw_1424) ⟨rfl, rfl, (Nat.le_of_ble_eq_true rfl), (Nat.le_of_ble_eq_true rfl)⟩ dd_X5_tagDot rfl hk1 rfl rfl hl.1 (Nat.le_of_ble_eq_true rfl) dL_law_1214 ⟨by have := hcs.1; show _ ≤ 601024; omega, by have := hcs.2; show _ ≤ 7293034; omega⟩ (fun H locs hM hS => ?_)
  refine lv_istore (lv' := [(6, .int v4), (5, .int kv), (0, .ref b), (1, .ref x), (2, .ref mm), (3, .ref out), (4, .int x4)]) hx hb dL_law_1217 hl (by decide) rfl (fun ls hl => ?_)
  refine lv_aload_n hx hb dL_law_1219 rfl (lv_at hl 4 rfl) ?_
  obtain ⟨v6, M5, h1, h⟩ := ob2 h
  obtain ⟨hk1, h1⟩ := ifg h1
  refine kV1 (ci := 5) (As := []) (rest := []) hC hE hS hM (mt_X5_thrown _ E mm _ _ _ h1) (gwV qw_1233 qw_1234 qw_1235 qw_103 qw_1236) ⟨rfl, rfl, (Nat.le_of_ble_eq_true rfl), (Nat.le_of_ble_eq_true rfl)⟩ dd_X5_thrown rfl hk1 rfl rfl hl.1 (Nat.le_of_ble_eq_true rfl) dL_law_1220 ⟨by have := hcs.1; show _ ≤ 601024; omega, by have := hcs.2; show _ ≤ 7293034; omega⟩ (fun H locs hM hS => ?_)
  refine lv_iload hx hb dL_law_1223 (lv_at hl 1 rfl) ?_
  refine lv_icmp_eq (tgt := 1230) hx hb dL_law_1225 (by decide) (fun c1 => ?_) (fun c1 => ?_)
  · have h := ifp c1 h
    refine lv_iload hx hb dL_law_1230 (lv_at hl 1 rfl) ?_
    refine lv_if_ne (tgt := 1247) hx hb dL_law_1232 (by decide) (fun c1 => ?_) (fun c1 => ?_)
    · have h := ifn c1 h
      refine lv_goto (tgt := 3228) hx hb dL_law_1247 (by decide) ?_
      cases h
      refine W.widen (k := cells + 60) (n := slots + 3000) (by omega) (by omega) ?_
      exact hk _ _ _ _ hP hM hS (lv_sub hl [2, 3, 4, 5, 6] rfl)
    · have h := ifp c1 h
      refine lv_aload_n hx hb dL_law_1235 rfl (lv_at hl 5 rfl) ?_
      refine lv_iconst (v := 0) hx hb dL_law_1236 (by decide) ?_
      obtain ⟨v7, h1, h⟩ := ob h
      refine r_lald hx hb hE hM h1 dL_law_1237 ?_
      refine lv_iload hx hb dL_law_1238 (lv_at hl 0 rfl) ?_
      refine lv_i2l (v := v4.toInt64) hx hb dL_law_1240 rfl ?_
      refine W.lcmp hx hb dL_law_1241 ?_
      refine lv_if_eq (tgt := 1247) hx hb dL_law_1242 (by decide) (fun c1 => ?_) (fun c1 => ?_)
      · have h := ifp c1 h
        refine lv_goto (tgt := 3228) hx hb dL_law_1247 (by decide) ?_
        cases h
        refine W.widen (k := cells + 60) (n := slots + 3000) (by omega) (by omega) ?_
        exact hk _ _ _ _ hP hM hS (lv_sub hl [2, 3, 4, 5, 6] rfl)
      · have h := ifn c1 h
        refine lv_iconst (v := 0) hx hb dL_law_1245 (by decide) ?_
        cases h
  · have h := ifn c1 h
    refine lv_iconst (v := 0) hx hb dL_law_1228 (by decide) ?_
    cases h

noncomputable def fr_law_18 (x mm out : Nat) (kv : Int32) (a1 : Int32) (M3 : Mem) : Option Mem :=
  bn (cK 6 mm M3 (f_X5_tagCount mm a1 M3)) fun v4 M3 =>
  bn (cK 6 mm M3 (f_X5_thrown mm M3)) fun v6 M5 =>
  (if v6 = kv then
  (if kv = 0 then
  (gL out 0 M5).bind fun v7 =>
  (if (lg_cmp v7 v4.toInt64) = 0 then
  some M5
  else
  none)
  else
  some M5)
  else
  none)
/-- case 18: the wrapped call, and what follows it wherever the next address lies -/
def fk_law_18 (x mm out : Nat) (a1 : Int32) (M : Mem) (P : Mem → Prop) : Prop := ∃ kv M1, f_L_tagCount x a1 out M = some (kv, M1) ∧ ∀ z, wfz (setZ M1 z) → ∃ M2, fr_law_18 x mm out kv a1 (setZ M1 z) = some M2 ∧ P M2
set_option maxHeartbeats 4000000 in
set_option maxRecDepth 100000 in
theorem lc_18 {p : Program} {l : Launch} {e : Env} {s : State} {m : MethodId} {args : Array Value} {below : List Frame} {meth : Method} {c : Code} {E : KEnv} {H : Heap} {locs : List Loc} {ls : Array Slot} {cells slots : Nat} {Q : State → Prop} {M : Mem} {P : Mem → Prop} {b L x mm out : Nat} {xs : Nat → Int32} {x4 a1 : Int32} (hfl : l.stackTraces = false) (hC : CallFix p m c code 9 s args lw_G RL) (hE : EnvOK E s) (hX : va_X b L xs s s.heap) (hbl : b < s.heap.size) (hbA : ¬ eA E b) (hin1 : vp_in (x4 + 1) L) (ha1 : xs (x4 + 1).toNatClampNeg = a1) (hcs : cells + 60 ≤ 601024 ∧ slots + 3000 ≤ 7293034) (hM : MOK E M H) (hS : va_S (eA E) s.heap H locs) (hl : lv_has ls 9 [(0, .ref b), (1, .ref x), (2, .ref mm), (3, .ref out), (4, .int x4)]) (h : fk_law_18 x mm out a1 M P)
    (hk : ∀ (M2 : Mem) (H : Heap) (locs : List Loc) (ls : Array Slot), P M2 → MOK E M2 H → va_S (eA E) s.heap H locs → lv_has ls 9 [(0, .ref b), (1, .ref x), (2, .ref mm), (3, .ref out), (4, .int x4)] → W p l e room_1 s m args below meth c H locs (cells + 60) (slots + 3000) Q (F0 m 3228 ls [])) : W p l e room_1 s m args below meth c H locs cells slots Q (F0 m 1250 ls []) := by
  obtain ⟨hx, hb, hml, hown, hts⟩ := id hC
  refine lv_aload_n hx hb dL_law_1250 rfl (lv_at hl 1 rfl) ?_
  refine lv_aload_n hx hb dL_law_1251 rfl (lv_at hl 0 rfl) ?_
  refine lv_iload hx hb dL_law_1252 (lv_at hl 4 rfl) ?_
  refine lv_iconst (v := 1) hx hb dL_law_1254 (by decide) ?_
  refine lv_iadd hx hb dL_law_1255 ?_
  refine rsl hx hb hX hbl hbA hS hin1 ha1 dL_law_1256 ?_
  refine lv_aload_n hx hb dL_law_1257 rfl (lv_at hl 3 rfl) ?_
  obtain ⟨kv, M1, h1, h⟩ := h
  refine kSW (As := [.ref x, .int a1, .ref out]) (rest := []) hC hE hS hM (mt_L_tagCount _ hfl E x a1 out _ _ _ h1) (gwSW qw_828 qw_829 qw_91 qz_L_tagCount) ⟨rfl, rfl, (Nat.le_of_ble_eq_true rfl), (Nat.le_of_ble_eq_true rfl)⟩ dd_L_tagCount rfl rfl hl.1 (Nat.le_of_ble_eq_true rfl) dL_law_1258 ⟨by have := hcs.1; show _ ≤ 601024; omega, by have := hcs.2; show _ ≤ 7293034; omega⟩ (fun z H locs hM hS => ?_)
  obtain ⟨M2, h, hP⟩ := h z (wfz_of hM)
  unfold fr_law_18 at h
  generalize setZ M1 z = M3 at h hM
  refine lv_istore (lv' := [(5, .int kv), (0, .ref b), (1, .ref x), (2, .ref mm), (3, .ref out), (4, .int x4)]) hx hb dL_law_1261 hl (by decide) rfl (fun ls hl => ?_)
  refine lv_aload_n hx hb dL_law_1263 rfl (lv_at hl 3 rfl) ?_
  refine lv_aload_n hx hb dL_law_1264 rfl (lv_at hl 1 rfl) ?_
  refine lv_iload hx hb dL_law_1265 (lv_at hl 5 rfl) ?_
  refine lv_iconst (v := 1) hx hb dL_law_1267 (by decide) ?_
  refine lv_iadd hx hb dL_law_1268 ?_
  refine rsl hx hb hX hbl hbA hS hin1 ha1 dL_law_1269 ?_
  obtain ⟨v4, M3, h1, h⟩ := ob2 h
  obtain ⟨hk1, h1⟩ := ifg h1
  refine kV1 (ci := 5) (As := [.int a1]) (rest := []) hC hE hS hM (mt_X5_tagCount _ E mm a1 _ _ _ h1) (gwV qw_1425 qw_1426 qw_1427 qw_103 qw_1428) ⟨rfl, rfl, (Nat.le_of_ble_eq_true rfl), (Nat.le_of_ble_eq_true rfl)⟩ dd_X5_tagCount rfl hk1 rfl rfl hl.1 (Nat.le_of_ble_eq_true rfl) dL_law_1270 ⟨by have := hcs.1; show _ ≤ 601024; omega, by have := hcs.2; show _ ≤ 7293034; omega⟩ (fun H locs hM hS => ?_)
  refine lv_istore (lv' := [(6, .int v4), (5, .int kv), (0, .ref b), (1, .ref x), (2, .ref mm), (3, .ref out), (4, .int x4)]) hx hb dL_law_1273 hl (by decide) rfl (fun ls hl => ?_)
  refine lv_aload_n hx hb dL_law_1275 rfl (lv_at hl 4 rfl) ?_
  obtain ⟨v6, M5, h1, h⟩ := ob2 h
  obtain ⟨hk1, h1⟩ := ifg h1
  refine kV1 (ci := 5) (As := []) (rest := []) hC hE hS hM (mt_X5_thrown _ E mm _ _ _ h1) (gwV qw_1233 qw_1234 qw_1235 qw_103 qw_1236) ⟨rfl, rfl, (Nat.le_of_ble_eq_true rfl), (Nat.le_of_ble_eq_true rfl)⟩ dd_X5_thrown rfl hk1 rfl rfl hl.1 (Nat.le_of_ble_eq_true rfl) dL_law_1276 ⟨by have := hcs.1; show _ ≤ 601024; omega, by have := hcs.2; show _ ≤ 7293034; omega⟩ (fun H locs hM hS => ?_)
  refine lv_iload hx hb dL_law_1279 (lv_at hl 1 rfl) ?_
  refine lv_icmp_eq (tgt := 1286) hx hb dL_law_1281 (by decide) (fun c1 => ?_) (fun c1 => ?_)
  · have h := ifp c1 h
    refine lv_iload hx hb dL_law_1286 (lv_at hl 1 rfl) ?_
    refine lv_if_ne (tgt := 1303) hx hb dL_law_1288 (by decide) (fun c1 => ?_) (fun c1 => ?_)
    · have h := ifn c1 h
      refine lv_goto (tgt := 3228) hx hb dL_law_1303 (by decide) ?_
      cases h
      refine W.widen (k := cells + 60) (n := slots + 3000) (by omega) (by omega) ?_
      exact hk _ _ _ _ hP hM hS (lv_sub hl [2, 3, 4, 5, 6] rfl)
    · have h := ifp c1 h
      refine lv_aload_n hx hb dL_law_1291 rfl (lv_at hl 5 rfl) ?_
      refine lv_iconst (v := 0) hx hb dL_law_1292 (by decide) ?_
      obtain ⟨v7, h1, h⟩ := ob h
      refine r_lald hx hb hE hM h1 dL_law_1293 ?_
      refine lv_iload hx hb dL_law_1294 (lv_at hl 0 rfl) ?_
      refine lv_i2l (v := v4.toInt64) hx hb dL_law_1296 rfl ?_
      refine W.lcmp hx hb dL_law_1297 ?_
      refine lv_if_eq (tgt := 1303) hx hb dL_law_1298 (by decide) (fun c1 => ?_) (fun c1 => ?_)
      · have h := ifp c1 h
        refine lv_goto (tgt := 3228) hx hb dL_law_1303 (by decide) ?_
        cases h
        refine W.widen (k := cells + 60) (n := slots + 3000) (by omega) (by omega) ?_
        exact hk _ _ _ _ hP hM hS (lv_sub hl [2, 3, 4, 5, 6] rfl)
      · have h := ifn c1 h
        refine lv_iconst (v := 0) hx hb dL_law_1301 (by decide) ?_
        cases h
  · have h := ifn c1 h
    refine lv_iconst (v := 0) hx hb dL_law_1284 (by decide) ?_
    cases h

noncomputable def fr_law_19 (x mm out : Nat) (kv : Int32) (a1 : Int32) (a2 : Int32) (M3 : Mem) : Option Mem :=
  bn (cK 6 mm M3 (f_X5_tagAt mm a1 a2 M3)) fun v4 M3 =>
  bn (cK 6 mm M3 (f_X5_thrown mm M3)) fun v6 M5 =>
  (if v6 = kv then
  (if kv = 0 then
  (gL out 0 M5).bind fun v7 =>
  (if (lg_cmp v7 v4.toInt64) = 0 then
  some M5
  else
  none)
  else
  some M5)
  else
  none)
/-- case 19: the wrapped call, and what follows it wherever the next address lies -/
def fk_law_19 (x mm out : Nat) (a1 : Int32) (a2 : Int32) (M : Mem) (P : Mem → Prop) : Prop := ∃ kv M1, f_L_tagAt x a1 a2 out M = some (kv, M1) ∧ ∀ z, wfz (setZ M1 z) → ∃ M2, fr_law_19 x mm out kv a1 a2 (setZ M1 z) = some M2 ∧ P M2
set_option maxHeartbeats 4000000 in
set_option maxRecDepth 100000 in
theorem lc_19 {p : Program} {l : Launch} {e : Env} {s : State} {m : MethodId} {args : Array Value} {below : List Frame} {meth : Method} {c : Code} {E : KEnv} {H : Heap} {locs : List Loc} {ls : Array Slot} {cells slots : Nat} {Q : State → Prop} {M : Mem} {P : Mem → Prop} {b L x mm out : Nat} {xs : Nat → Int32} {x4 a1 a2 : Int32} (hfl : l.stackTraces = false) (hC : CallFix p m c code 9 s args lw_G RL) (hE : EnvOK E s) (hX : va_X b L xs s s.heap) (hbl : b < s.heap.size) (hbA : ¬ eA E b) (hin1 : vp_in (x4 + 1) L) (ha1 : xs (x4 + 1).toNatClampNeg = a1) (hin2 : vp_in (x4 + 2) L) (ha2 : xs (x4 + 2).toNatClampNeg = a2) (hcs : cells + 60 ≤ 601024 ∧ slots + 3000 ≤ 7293034) (hM : MOK E M H) (hS : va_S (eA E) s.heap H locs) (hl : lv_has ls 9 [(0, .ref b), (1, .ref x), (2, .ref mm), (3, .ref out), (4, .int x4)]) (h : fk_law_19 x mm out a1 a2 M P)
    (hk : ∀ (M2 : Mem) (H : Heap) (locs : List Loc) (ls : Array Slot), P M2 → MOK E M2 H → va_S (eA E) s.heap H locs → lv_has ls 9 [(0, .ref b), (1, .ref x), (2, .ref mm), (3, .ref out), (4, .int x4)] → W p l e room_1 s m args below meth c H locs (cells + 60) (slots + 3000) Q (F0 m 3228 ls [])) : W p l e room_1 s m args below meth c H locs cells slots Q (F0 m 1306 ls []) := by
  obtain ⟨hx, hb, hml, hown, hts⟩ := id hC
  refine lv_aload_n hx hb dL_law_1306 rfl (lv_at hl 1 rfl) ?_
  refine lv_aload_n hx hb dL_law_1307 rfl (lv_at hl 0 rfl) ?_
  refine lv_iload hx hb dL_law_1308 (lv_at hl 4 rfl) ?_
  refine lv_iconst (v := 1) hx hb dL_law_1310 (by decide) ?_
  refine lv_iadd hx hb dL_law_1311 ?_
  refine rsl hx hb hX hbl hbA hS hin1 ha1 dL_law_1312 ?_
  refine lv_aload_n hx hb dL_law_1313 rfl (lv_at hl 0 rfl) ?_
  refine lv_iload hx hb dL_law_1314 (lv_at hl 4 rfl) ?_
  refine lv_iconst (v := 2) hx hb dL_law_1316 (by decide) ?_
  refine lv_iadd hx hb dL_law_1317 ?_
  refine rsl hx hb hX hbl hbA hS hin2 ha2 dL_law_1318 ?_
  refine lv_aload_n hx hb dL_law_1319 rfl (lv_at hl 3 rfl) ?_
  obtain ⟨kv, M1, h1, h⟩ := h
  refine kSW (As := [.ref x, .int a1, .int a2, .ref out]) (rest := []) hC hE hS hM (mt_L_tagAt _ hfl E x a1 a2 out _ _ _ h1) (gwSW qw_835 qw_836 qw_91 qz_L_tagAt) ⟨rfl, rfl, (Nat.le_of_ble_eq_true rfl), (Nat.le_of_ble_eq_true rfl)⟩ dd_L_tagAt rfl rfl hl.1 (Nat.le_of_ble_eq_true rfl) dL_law_1320 ⟨by have := hcs.1; show _ ≤ 601024; omega, by have := hcs.2; show _ ≤ 7293034; omega⟩ (fun z H locs hM hS => ?_)
  obtain ⟨M2, h, hP⟩ := h z (wfz_of hM)
  unfold fr_law_19 at h
  generalize setZ M1 z = M3 at h hM
  refine lv_istore (lv' := [(5, .int kv), (0, .ref b), (1, .ref x), (2, .ref mm), (3, .ref out), (4, .int x4)]) hx hb dL_law_1323 hl (by decide) rfl (fun ls hl => ?_)
  refine lv_aload_n hx hb dL_law_1325 rfl (lv_at hl 3 rfl) ?_
  refine lv_aload_n hx hb dL_law_1326 rfl (lv_at hl 1 rfl) ?_
  refine lv_iload hx hb dL_law_1327 (lv_at hl 5 rfl) ?_
  refine lv_iconst (v := 1) hx hb dL_law_1329 (by decide) ?_
  refine lv_iadd hx hb dL_law_1330 ?_
  refine rsl hx hb hX hbl hbA hS hin1 ha1 dL_law_1331 ?_
  refine lv_aload_n hx hb dL_law_1332 rfl (lv_at hl 1 rfl) ?_
  refine lv_iload hx hb dL_law_1333 (lv_at hl 5 rfl) ?_
  refine lv_iconst (v := 2) hx hb dL_law_1335 (by decide) ?_
  refine lv_iadd hx hb dL_law_1336 ?_
  refine rsl hx hb hX hbl hbA hS hin2 ha2 dL_law_1337 ?_
  obtain ⟨v4, M3, h1, h⟩ := ob2 h
  obtain ⟨hk1, h1⟩ := ifg h1
  refine kV1 (ci := 5) (As := [.int a1, .int a2]) (rest := []) hC hE hS hM (mt_X5_tagAt _ E mm a1 a2 _ _ _ h1) (gwV qw_1433 qw_1434 qw_1435 qw_103 qw_1436) ⟨rfl, rfl, (Nat.le_of_ble_eq_true rfl), (Nat.le_of_ble_eq_true rfl)⟩ dd_X5_tagAt rfl hk1 rfl rfl hl.1 (Nat.le_of_ble_eq_true rfl) dL_law_1338 ⟨by have := hcs.1; show _ ≤ 601024; omega, by have := hcs.2; show _ ≤ 7293034; omega⟩ (fun H locs hM hS => ?_)
  refine lv_istore (lv' := [(6, .int v4), (5, .int kv), (0, .ref b), (1, .ref x), (2, .ref mm), (3, .ref out), (4, .int x4)]) hx hb dL_law_1341 hl (by decide) rfl (fun ls hl => ?_)
  refine lv_aload_n hx hb dL_law_1343 rfl (lv_at hl 4 rfl) ?_
  obtain ⟨v6, M5, h1, h⟩ := ob2 h
  obtain ⟨hk1, h1⟩ := ifg h1
  refine kV1 (ci := 5) (As := []) (rest := []) hC hE hS hM (mt_X5_thrown _ E mm _ _ _ h1) (gwV qw_1233 qw_1234 qw_1235 qw_103 qw_1236) ⟨rfl, rfl, (Nat.le_of_ble_eq_true rfl), (Nat.le_of_ble_eq_true rfl)⟩ dd_X5_thrown rfl hk1 rfl rfl hl.1 (Nat.le_of_ble_eq_true rfl) dL_law_1344 ⟨by have := hcs.1; show _ ≤ 601024; omega, by have := hcs.2; show _ ≤ 7293034; omega⟩ (fun H locs hM hS => ?_)
  refine lv_iload hx hb dL_law_1347 (lv_at hl 1 rfl) ?_
  refine lv_icmp_eq (tgt := 1354) hx hb dL_law_1349 (by decide) (fun c1 => ?_) (fun c1 => ?_)
  · have h := ifp c1 h
    refine lv_iload hx hb dL_law_1354 (lv_at hl 1 rfl) ?_
    refine lv_if_ne (tgt := 1371) hx hb dL_law_1356 (by decide) (fun c1 => ?_) (fun c1 => ?_)
    · have h := ifn c1 h
      refine lv_goto (tgt := 3228) hx hb dL_law_1371 (by decide) ?_
      cases h
      refine W.widen (k := cells + 60) (n := slots + 3000) (by omega) (by omega) ?_
      exact hk _ _ _ _ hP hM hS (lv_sub hl [2, 3, 4, 5, 6] rfl)
    · have h := ifp c1 h
      refine lv_aload_n hx hb dL_law_1359 rfl (lv_at hl 5 rfl) ?_
      refine lv_iconst (v := 0) hx hb dL_law_1360 (by decide) ?_
      obtain ⟨v7, h1, h⟩ := ob h
      refine r_lald hx hb hE hM h1 dL_law_1361 ?_
      refine lv_iload hx hb dL_law_1362 (lv_at hl 0 rfl) ?_
      refine lv_i2l (v := v4.toInt64) hx hb dL_law_1364 rfl ?_
      refine W.lcmp hx hb dL_law_1365 ?_
      refine lv_if_eq (tgt := 1371) hx hb dL_law_1366 (by decide) (fun c1 => ?_) (fun c1 => ?_)
      · have h := ifp c1 h
        refine lv_goto (tgt := 3228) hx hb dL_law_1371 (by decide) ?_
        cases h
        refine W.widen (k := cells + 60) (n := slots + 3000) (by omega) (by omega) ?_
        exact hk _ _ _ _ hP hM hS (lv_sub hl [2, 3, 4, 5, 6] rfl)
      · have h := ifn c1 h
        refine lv_iconst (v := 0) hx hb dL_law_1369 (by decide) ?_
        cases h
  · have h := ifn c1 h
    refine lv_iconst (v := 0) hx hb dL_law_1352 (by decide) ?_
    cases h

noncomputable def fr_law_20 (x mm out : Nat) (kv : Int32) (a1 : Int32) (a2 : Int32) (M3 : Mem) : Option Mem :=
  bn (cK 6 mm M3 (f_X5_entryCount mm a1 a2 M3)) fun v4 M3 =>
  bn (cK 6 mm M3 (f_X5_thrown mm M3)) fun v6 M5 =>
  (if v6 = kv then
  (if kv = 0 then
  (gL out 0 M5).bind fun v7 =>
  (if (lg_cmp v7 v4.toInt64) = 0 then
  some M5
  else
  none)
  else
  some M5)
  else
  none)
/-- case 20: the wrapped call, and what follows it wherever the next address lies -/
def fk_law_20 (x mm out : Nat) (a1 : Int32) (a2 : Int32) (M : Mem) (P : Mem → Prop) : Prop := ∃ kv M1, f_L_entryCount x a1 a2 out M = some (kv, M1) ∧ ∀ z, wfz (setZ M1 z) → ∃ M2, fr_law_20 x mm out kv a1 a2 (setZ M1 z) = some M2 ∧ P M2
set_option maxHeartbeats 4000000 in
set_option maxRecDepth 100000 in
theorem lc_20 {p : Program} {l : Launch} {e : Env} {s : State} {m : MethodId} {args : Array Value} {below : List Frame} {meth : Method} {c : Code} {E : KEnv} {H : Heap} {locs : List Loc} {ls : Array Slot} {cells slots : Nat} {Q : State → Prop} {M : Mem} {P : Mem → Prop} {b L x mm out : Nat} {xs : Nat → Int32} {x4 a1 a2 : Int32} (hfl : l.stackTraces = false) (hC : CallFix p m c code 9 s args lw_G RL) (hE : EnvOK E s) (hX : va_X b L xs s s.heap) (hbl : b < s.heap.size) (hbA : ¬ eA E b) (hin1 : vp_in (x4 + 1) L) (ha1 : xs (x4 + 1).toNatClampNeg = a1) (hin2 : vp_in (x4 + 2) L) (ha2 : xs (x4 + 2).toNatClampNeg = a2) (hcs : cells + 60 ≤ 601024 ∧ slots + 3000 ≤ 7293034) (hM : MOK E M H) (hS : va_S (eA E) s.heap H locs) (hl : lv_has ls 9 [(0, .ref b), (1, .ref x), (2, .ref mm), (3, .ref out), (4, .int x4)]) (h : fk_law_20 x mm out a1 a2 M P)
    (hk : ∀ (M2 : Mem) (H : Heap) (locs : List Loc) (ls : Array Slot), P M2 → MOK E M2 H → va_S (eA E) s.heap H locs → lv_has ls 9 [(0, .ref b), (1, .ref x), (2, .ref mm), (3, .ref out), (4, .int x4)] → W p l e room_1 s m args below meth c H locs (cells + 60) (slots + 3000) Q (F0 m 3228 ls [])) : W p l e room_1 s m args below meth c H locs cells slots Q (F0 m 1374 ls []) := by
  obtain ⟨hx, hb, hml, hown, hts⟩ := id hC
  refine lv_aload_n hx hb dL_law_1374 rfl (lv_at hl 1 rfl) ?_
  refine lv_aload_n hx hb dL_law_1375 rfl (lv_at hl 0 rfl) ?_
  refine lv_iload hx hb dL_law_1376 (lv_at hl 4 rfl) ?_
  refine lv_iconst (v := 1) hx hb dL_law_1378 (by decide) ?_
  refine lv_iadd hx hb dL_law_1379 ?_
  refine rsl hx hb hX hbl hbA hS hin1 ha1 dL_law_1380 ?_
  refine lv_aload_n hx hb dL_law_1381 rfl (lv_at hl 0 rfl) ?_
  refine lv_iload hx hb dL_law_1382 (lv_at hl 4 rfl) ?_
  refine lv_iconst (v := 2) hx hb dL_law_1384 (by decide) ?_
  refine lv_iadd hx hb dL_law_1385 ?_
  refine rsl hx hb hX hbl hbA hS hin2 ha2 dL_law_1386 ?_
  refine lv_aload_n hx hb dL_law_1387 rfl (lv_at hl 3 rfl) ?_
  obtain ⟨kv, M1, h1, h⟩ := h
  refine kSW (As := [.ref x, .int a1, .int a2, .ref out]) (rest := []) hC hE hS hM (mt_L_entryCount _ hfl E x a1 a2 out _ _ _ h1) (gwSW qw_846 qw_847 qw_91 qz_L_entryCount) ⟨rfl, rfl, (Nat.le_of_ble_eq_true rfl), (Nat.le_of_ble_eq_true rfl)⟩ dd_L_entryCount rfl rfl hl.1 (Nat.le_of_ble_eq_true rfl) dL_law_1388 ⟨by have := hcs.1; show _ ≤ 601024; omega, by have := hcs.2; show _ ≤ 7293034; omega⟩ (fun z H locs hM hS => ?_)
  obtain ⟨M2, h, hP⟩ := h z (wfz_of hM)
  unfold fr_law_20 at h
  generalize setZ M1 z = M3 at h hM
  refine lv_istore (lv' := [(5, .int kv), (0, .ref b), (1, .ref x), (2, .ref mm), (3, .ref out), (4, .int x4)]) hx hb dL_law_1391 hl (by decide) rfl (fun ls hl => ?_)
  refine lv_aload_n hx hb dL_law_1393 rfl (lv_at hl 3 rfl) ?_
  refine lv_aload_n hx hb dL_law_1394 rfl (lv_at hl 1 rfl) ?_
  refine lv_iload hx hb dL_law_1395 (lv_at hl 5 rfl) ?_
  refine lv_iconst (v := 1) hx hb dL_law_1397 (by decide) ?_
  refine lv_iadd hx hb dL_law_1398 ?_
  refine rsl hx hb hX hbl hbA hS hin1 ha1 dL_law_1399 ?_
  refine lv_aload_n hx hb dL_law_1400 rfl (lv_at hl 1 rfl) ?_
  refine lv_iload hx hb dL_law_1401 (lv_at hl 5 rfl) ?_
  refine lv_iconst (v := 2) hx hb dL_law_1403 (by decide) ?_
  refine lv_iadd hx hb dL_law_1404 ?_
  refine rsl hx hb hX hbl hbA hS hin2 ha2 dL_law_1405 ?_
  obtain ⟨v4, M3, h1, h⟩ := ob2 h
  obtain ⟨hk1, h1⟩ := ifg h1
  refine kV1 (ci := 5) (As := [.int a1, .int a2]) (rest := []) hC hE hS hM (mt_X5_entryCount _ E mm a1 a2 _ _ _ h1) (gwV qw_1437 qw_1438 qw_1439 qw_103 qw_1440) ⟨rfl, rfl, (Nat.le_of_ble_eq_true rfl), (Nat.le_of_ble_eq_true rfl)⟩ dd_X5_entryCount rfl hk1 rfl rfl hl.1 (Nat.le_of_ble_eq_true rfl) dL_law_1406 ⟨by have := hcs.1; show _ ≤ 601024; omega, by have := hcs.2; show _ ≤ 7293034; omega⟩ (fun H locs hM hS => ?_)
  refine lv_istore (lv' := [(6, .int v4), (5, .int kv), (0, .ref b), (1, .ref x), (2, .ref mm), (3, .ref out), (4, .int x4)]) hx hb dL_law_1409 hl (by decide) rfl (fun ls hl => ?_)
  refine lv_aload_n hx hb dL_law_1411 rfl (lv_at hl 4 rfl) ?_
  obtain ⟨v6, M5, h1, h⟩ := ob2 h
  obtain ⟨hk1, h1⟩ := ifg h1
  refine kV1 (ci := 5) (As := []) (rest := []) hC hE hS hM (mt_X5_thrown _ E mm _ _ _ h1) (gwV qw_1233 qw_1234 qw_1235 qw_103 qw_1236) ⟨rfl, rfl, (Nat.le_of_ble_eq_true rfl), (Nat.le_of_ble_eq_true rfl)⟩ dd_X5_thrown rfl hk1 rfl rfl hl.1 (Nat.le_of_ble_eq_true rfl) dL_law_1412 ⟨by have := hcs.1; show _ ≤ 601024; omega, by have := hcs.2; show _ ≤ 7293034; omega⟩ (fun H locs hM hS => ?_)
  refine lv_iload hx hb dL_law_1415 (lv_at hl 1 rfl) ?_
  refine lv_icmp_eq (tgt := 1422) hx hb dL_law_1417 (by decide) (fun c1 => ?_) (fun c1 => ?_)
  · have h := ifp c1 h
    refine lv_iload hx hb dL_law_1422 (lv_at hl 1 rfl) ?_
    refine lv_if_ne (tgt := 1439) hx hb dL_law_1424 (by decide) (fun c1 => ?_) (fun c1 => ?_)
    · have h := ifn c1 h
      refine lv_goto (tgt := 3228) hx hb dL_law_1439 (by decide) ?_
      cases h
      refine W.widen (k := cells + 60) (n := slots + 3000) (by omega) (by omega) ?_
      exact hk _ _ _ _ hP hM hS (lv_sub hl [2, 3, 4, 5, 6] rfl)
    · have h := ifp c1 h
      refine lv_aload_n hx hb dL_law_1427 rfl (lv_at hl 5 rfl) ?_
      refine lv_iconst (v := 0) hx hb dL_law_1428 (by decide) ?_
      obtain ⟨v7, h1, h⟩ := ob h
      refine r_lald hx hb hE hM h1 dL_law_1429 ?_
      refine lv_iload hx hb dL_law_1430 (lv_at hl 0 rfl) ?_
      refine lv_i2l (v := v4.toInt64) hx hb dL_law_1432 rfl ?_
      refine W.lcmp hx hb dL_law_1433 ?_
      refine lv_if_eq (tgt := 1439) hx hb dL_law_1434 (by decide) (fun c1 => ?_) (fun c1 => ?_)
      · have h := ifp c1 h
        refine lv_goto (tgt := 3228) hx hb dL_law_1439 (by decide) ?_
        cases h
        refine W.widen (k := cells + 60) (n := slots + 3000) (by omega) (by omega) ?_
        exact hk _ _ _ _ hP hM hS (lv_sub hl [2, 3, 4, 5, 6] rfl)
      · have h := ifn c1 h
        refine lv_iconst (v := 0) hx hb dL_law_1437 (by decide) ?_
        cases h
  · have h := ifn c1 h
    refine lv_iconst (v := 0) hx hb dL_law_1420 (by decide) ?_
    cases h

noncomputable def fr_law_21 (x mm out : Nat) (kv : Int32) (a1 : Int32) (a2 : Int32) (a3 : Int32) (M3 : Mem) : Option Mem :=
  bn (cK 6 mm M3 (f_X5_entryValue mm a1 a2 a3 M3)) fun v4 M3 =>
  bn (cK 6 mm M3 (f_X5_thrown mm M3)) fun v6 M5 =>
  (if v6 = kv then
  (if kv = 0 then
  (gL out 0 M5).bind fun v7 =>
  (if (lg_cmp v7 v4.toInt64) = 0 then
  some M5
  else
  none)
  else
  some M5)
  else
  none)
/-- case 21: the wrapped call, and what follows it wherever the next address lies -/
def fk_law_21 (x mm out : Nat) (a1 : Int32) (a2 : Int32) (a3 : Int32) (M : Mem) (P : Mem → Prop) : Prop := ∃ kv M1, f_L_entryValue x a1 a2 a3 out M = some (kv, M1) ∧ ∀ z, wfz (setZ M1 z) → ∃ M2, fr_law_21 x mm out kv a1 a2 a3 (setZ M1 z) = some M2 ∧ P M2
set_option maxHeartbeats 4000000 in
set_option maxRecDepth 100000 in
theorem lc_21 {p : Program} {l : Launch} {e : Env} {s : State} {m : MethodId} {args : Array Value} {below : List Frame} {meth : Method} {c : Code} {E : KEnv} {H : Heap} {locs : List Loc} {ls : Array Slot} {cells slots : Nat} {Q : State → Prop} {M : Mem} {P : Mem → Prop} {b L x mm out : Nat} {xs : Nat → Int32} {x4 a1 a2 a3 : Int32} (hfl : l.stackTraces = false) (hC : CallFix p m c code 9 s args lw_G RL) (hE : EnvOK E s) (hX : va_X b L xs s s.heap) (hbl : b < s.heap.size) (hbA : ¬ eA E b) (hin1 : vp_in (x4 + 1) L) (ha1 : xs (x4 + 1).toNatClampNeg = a1) (hin2 : vp_in (x4 + 2) L) (ha2 : xs (x4 + 2).toNatClampNeg = a2) (hin3 : vp_in (x4 + 3) L) (ha3 : xs (x4 + 3).toNatClampNeg = a3) (hcs : cells + 60 ≤ 601024 ∧ slots + 3000 ≤ 7293034) (hM : MOK E M H) (hS : va_S (eA E) s.heap H locs) (hl : lv_has ls 9 [(0, .ref b), (1, .ref x), (2, .ref mm), (3, .ref out), (4, .int x4)]) (h : fk_law_21 x mm out a1 a2 a3 M P)
    (hk : ∀ (M2 : Mem) (H : Heap) (locs : List Loc) (ls : Array Slot), P M2 → MOK E M2 H → va_S (eA E) s.heap H locs → lv_has ls 9 [(0, .ref b), (1, .ref x), (2, .ref mm), (3, .ref out), (4, .int x4)] → W p l e room_1 s m args below meth c H locs (cells + 60) (slots + 3000) Q (F0 m 3228 ls [])) : W p l e room_1 s m args below meth c H locs cells slots Q (F0 m 1442 ls []) := by
  obtain ⟨hx, hb, hml, hown, hts⟩ := id hC
  refine lv_aload_n hx hb dL_law_1442 rfl (lv_at hl 1 rfl) ?_
  refine lv_aload_n hx hb dL_law_1443 rfl (lv_at hl 0 rfl) ?_
  refine lv_iload hx hb dL_law_1444 (lv_at hl 4 rfl) ?_
  refine lv_iconst (v := 1) hx hb dL_law_1446 (by decide) ?_
  refine lv_iadd hx hb dL_law_1447 ?_
  refine rsl hx hb hX hbl hbA hS hin1 ha1 dL_law_1448 ?_
  refine lv_aload_n hx hb dL_law_1449 rfl (lv_at hl 0 rfl) ?_
  refine lv_iload hx hb dL_law_1450 (lv_at hl 4 rfl) ?_
  refine lv_iconst (v := 2) hx hb dL_law_1452 (by decide) ?_
  refine lv_iadd hx hb dL_law_1453 ?_
  refine rsl hx hb hX hbl hbA hS hin2 ha2 dL_law_1454 ?_
  refine lv_aload_n hx hb dL_law_1455 rfl (lv_at hl 0 rfl) ?_
  refine lv_iload hx hb dL_law_1456 (lv_at hl 4 rfl) ?_
  refine lv_iconst (v := 3) hx hb dL_law_1458 (by decide) ?_
  refine lv_iadd hx hb dL_law_1459 ?_
  refine rsl hx hb hX hbl hbA hS hin3 ha3 dL_law_1460 ?_
  refine lv_aload_n hx hb dL_law_1461 rfl (lv_at hl 3 rfl) ?_
  obtain ⟨kv, M1, h1, h⟩ := h
  refine kSW (As := [.ref x, .int a1, .int a2, .int a3, .ref out]) (rest := []) hC hE hS hM (mt_L_entryValue _ hfl E x a1 a2 a3 out _ _ _ h1) (gwSW qw_859 qw_860 qw_91 qz_L_entryValue) ⟨rfl, rfl, (Nat.le_of_ble_eq_true rfl), (Nat.le_of_ble_eq_true rfl)⟩ dd_L_entryValue rfl rfl hl.1 (Nat.le_of_ble_eq_true rfl) dL_law_1462 ⟨by have := hcs.1; show _ ≤ 601024; omega, by have := hcs.2; show _ ≤ 7293034; omega⟩ (fun z H locs hM hS => ?_)
  obtain ⟨M2, h, hP⟩ := h z (wfz_of hM)
  unfold fr_law_21 at h
  generalize setZ M1 z = M3 at h hM
  refine lv_istore (lv' := [(5, .int kv), (0, .ref b), (1, .ref x), (2, .ref mm), (3, .ref out), (4, .int x4)]) hx hb dL_law_1465 hl (by decide) rfl (fun ls hl => ?_)
  refine lv_aload_n hx hb dL_law_1467 rfl (lv_at hl 3 rfl) ?_
  refine lv_aload_n hx hb dL_law_1468 rfl (lv_at hl 1 rfl) ?_
  refine lv_iload hx hb dL_law_1469 (lv_at hl 5 rfl) ?_
  refine lv_iconst (v := 1) hx hb dL_law_1471 (by decide) ?_
  refine lv_iadd hx hb dL_law_1472 ?_
  refine rsl hx hb hX hbl hbA hS hin1 ha1 dL_law_1473 ?_
  refine lv_aload_n hx hb dL_law_1474 rfl (lv_at hl 1 rfl) ?_
  refine lv_iload hx hb dL_law_1475 (lv_at hl 5 rfl) ?_
  refine lv_iconst (v := 2) hx hb dL_law_1477 (by decide) ?_
  refine lv_iadd hx hb dL_law_1478 ?_
  refine rsl hx hb hX hbl hbA hS hin2 ha2 dL_law_1479 ?_
  refine lv_aload_n hx hb dL_law_1480 rfl (lv_at hl 1 rfl) ?_
  refine lv_iload hx hb dL_law_1481 (lv_at hl 5 rfl) ?_
  refine lv_iconst (v := 3) hx hb dL_law_1483 (by decide) ?_
  refine lv_iadd hx hb dL_law_1484 ?_
  refine rsl hx hb hX hbl hbA hS hin3 ha3 dL_law_1485 ?_
  obtain ⟨v4, M3, h1, h⟩ := ob2 h
  obtain ⟨hk1, h1⟩ := ifg h1
  refine kV1 (ci := 5) (As := [.int a1, .int a2, .int a3]) (rest := []) hC hE hS hM (mt_X5_entryValue _ E mm a1 a2 a3 _ _ _ h1) (gwV qw_1445 qw_1446 qw_1447 qw_103 qw_1448) ⟨rfl, rfl, (Nat.le_of_ble_eq_true rfl), (Nat.le_of_ble_eq_true rfl)⟩ dd_X5_entryValue rfl hk1 rfl rfl hl.1 (Nat.le_of_ble_eq_true rfl) dL_law_1486 ⟨by have := hcs.1; show _ ≤ 601024; omega, by have := hcs.2; show _ ≤ 7293034; omega⟩ (fun H locs hM hS => ?_)
  refine lv_istore (lv' := [(6, .int v4), (5, .int kv), (0, .ref b), (1, .ref x), (2, .ref mm), (3, .ref out), (4, .int x4)]) hx hb dL_law_1489 hl (by decide) rfl (fun ls hl => ?_)
  refine lv_aload_n hx hb dL_law_1491 rfl (lv_at hl 4 rfl) ?_
  obtain ⟨v6, M5, h1, h⟩ := ob2 h
  obtain ⟨hk1, h1⟩ := ifg h1
  refine kV1 (ci := 5) (As := []) (rest := []) hC hE hS hM (mt_X5_thrown _ E mm _ _ _ h1) (gwV qw_1233 qw_1234 qw_1235 qw_103 qw_1236) ⟨rfl, rfl, (Nat.le_of_ble_eq_true rfl), (Nat.le_of_ble_eq_true rfl)⟩ dd_X5_thrown rfl hk1 rfl rfl hl.1 (Nat.le_of_ble_eq_true rfl) dL_law_1492 ⟨by have := hcs.1; show _ ≤ 601024; omega, by have := hcs.2; show _ ≤ 7293034; omega⟩ (fun H locs hM hS => ?_)
  refine lv_iload hx hb dL_law_1495 (lv_at hl 1 rfl) ?_
  refine lv_icmp_eq (tgt := 1502) hx hb dL_law_1497 (by decide) (fun c1 => ?_) (fun c1 => ?_)
  · have h := ifp c1 h
    refine lv_iload hx hb dL_law_1502 (lv_at hl 1 rfl) ?_
    refine lv_if_ne (tgt := 1519) hx hb dL_law_1504 (by decide) (fun c1 => ?_) (fun c1 => ?_)
    · have h := ifn c1 h
      refine lv_goto (tgt := 3228) hx hb dL_law_1519 (by decide) ?_
      cases h
      refine W.widen (k := cells + 60) (n := slots + 3000) (by omega) (by omega) ?_
      exact hk _ _ _ _ hP hM hS (lv_sub hl [2, 3, 4, 5, 6] rfl)
    · have h := ifp c1 h
      refine lv_aload_n hx hb dL_law_1507 rfl (lv_at hl 5 rfl) ?_
      refine lv_iconst (v := 0) hx hb dL_law_1508 (by decide) ?_
      obtain ⟨v7, h1, h⟩ := ob h
      refine r_lald hx hb hE hM h1 dL_law_1509 ?_
      refine lv_iload hx hb dL_law_1510 (lv_at hl 0 rfl) ?_
      refine lv_i2l (v := v4.toInt64) hx hb dL_law_1512 rfl ?_
      refine W.lcmp hx hb dL_law_1513 ?_
      refine lv_if_eq (tgt := 1519) hx hb dL_law_1514 (by decide) (fun c1 => ?_) (fun c1 => ?_)
      · have h := ifp c1 h
        refine lv_goto (tgt := 3228) hx hb dL_law_1519 (by decide) ?_
        cases h
        refine W.widen (k := cells + 60) (n := slots + 3000) (by omega) (by omega) ?_
        exact hk _ _ _ _ hP hM hS (lv_sub hl [2, 3, 4, 5, 6] rfl)
      · have h := ifn c1 h
        refine lv_iconst (v := 0) hx hb dL_law_1517 (by decide) ?_
        cases h
  · have h := ifn c1 h
    refine lv_iconst (v := 0) hx hb dL_law_1500 (by decide) ?_
    cases h

noncomputable def fr_law_22 (x mm out : Nat) (kv : Int32) (a1 : Int32) (a2 : Int32) (M3 : Mem) : Option Mem :=
  bn (cK 6 mm M3 (f_X5_greatestValue mm a1 a2 M3)) fun v4 M3 =>
  bn (cK 6 mm M3 (f_X5_thrown mm M3)) fun v6 M5 =>
  (if v6 = kv then
  (if kv = 0 then
  (gL out 0 M5).bind fun v7 =>
  (if (lg_cmp v7 v4.toInt64) = 0 then
  some M5
  else
  none)
  else
  some M5)
  else
  none)
/-- case 22: the wrapped call, and what follows it wherever the next address lies -/
def fk_law_22 (x mm out : Nat) (a1 : Int32) (a2 : Int32) (M : Mem) (P : Mem → Prop) : Prop := ∃ kv M1, f_L_greatestValue x a1 a2 out M = some (kv, M1) ∧ ∀ z, wfz (setZ M1 z) → ∃ M2, fr_law_22 x mm out kv a1 a2 (setZ M1 z) = some M2 ∧ P M2
set_option maxHeartbeats 4000000 in
set_option maxRecDepth 100000 in
theorem lc_22 {p : Program} {l : Launch} {e : Env} {s : State} {m : MethodId} {args : Array Value} {below : List Frame} {meth : Method} {c : Code} {E : KEnv} {H : Heap} {locs : List Loc} {ls : Array Slot} {cells slots : Nat} {Q : State → Prop} {M : Mem} {P : Mem → Prop} {b L x mm out : Nat} {xs : Nat → Int32} {x4 a1 a2 : Int32} (hfl : l.stackTraces = false) (hC : CallFix p m c code 9 s args lw_G RL) (hE : EnvOK E s) (hX : va_X b L xs s s.heap) (hbl : b < s.heap.size) (hbA : ¬ eA E b) (hin1 : vp_in (x4 + 1) L) (ha1 : xs (x4 + 1).toNatClampNeg = a1) (hin2 : vp_in (x4 + 2) L) (ha2 : xs (x4 + 2).toNatClampNeg = a2) (hcs : cells + 60 ≤ 601024 ∧ slots + 3000 ≤ 7293034) (hM : MOK E M H) (hS : va_S (eA E) s.heap H locs) (hl : lv_has ls 9 [(0, .ref b), (1, .ref x), (2, .ref mm), (3, .ref out), (4, .int x4)]) (h : fk_law_22 x mm out a1 a2 M P)
    (hk : ∀ (M2 : Mem) (H : Heap) (locs : List Loc) (ls : Array Slot), P M2 → MOK E M2 H → va_S (eA E) s.heap H locs → lv_has ls 9 [(0, .ref b), (1, .ref x), (2, .ref mm), (3, .ref out), (4, .int x4)] → W p l e room_1 s m args below meth c H locs (cells + 60) (slots + 3000) Q (F0 m 3228 ls [])) : W p l e room_1 s m args below meth c H locs cells slots Q (F0 m 1522 ls []) := by
  obtain ⟨hx, hb, hml, hown, hts⟩ := id hC
  refine lv_aload_n hx hb dL_law_1522 rfl (lv_at hl 1 rfl) ?_
  refine lv_aload_n hx hb dL_law_1523 rfl (lv_at hl 0 rfl) ?_
  refine lv_iload hx hb dL_law_1524 (lv_at hl 4 rfl) ?_
  refine lv_iconst (v := 1) hx hb dL_law_1526 (by decide) ?_
  refine lv_iadd hx hb dL_law_1527 ?_
  refine rsl hx hb hX hbl hbA hS hin1 ha1 dL_law_1528 ?_
  refine lv_aload_n hx hb dL_law_1529 rfl (lv_at hl 0 rfl) ?_
  refine lv_iload hx hb dL_law_1530 (lv_at hl 4 rfl) ?_
  refine lv_iconst (v := 2) hx hb dL_law_1532 (by decide) ?_
  refine lv_iadd hx hb dL_law_1533 ?_
  refine rsl hx hb hX hbl hbA hS hin2 ha2 dL_law_1534 ?_
  refine lv_aload_n hx hb dL_law_1535 rfl (lv_at hl 3 rfl) ?_
  obtain ⟨kv, M1, h1, h⟩ := h
  refine kSW (As := [.ref x, .int a1, .int a2, .ref out]) (rest := []) hC hE hS hM (mt_L_greatestValue _ hfl E x a1 a2 out _ _ _ h1) (gwSW qw_870 qw_871 qw_91 qz_L_greatestValue) ⟨rfl, rfl, (Nat.le_of_ble_eq_true rfl), (Nat.le_of_ble_eq_true rfl)⟩ dd_L_greatestValue rfl rfl hl.1 (Nat.le_of_ble_eq_true rfl) dL_law_1536 ⟨by have := hcs.1; show _ ≤ 601024; omega, by have := hcs.2; show _ ≤ 7293034; omega⟩ (fun z H locs hM hS => ?_)
  obtain ⟨M2, h, hP⟩ := h z (wfz_of hM)
  unfold fr_law_22 at h
  generalize setZ M1 z = M3 at h hM
  refine lv_istore (lv' := [(5, .int kv), (0, .ref b), (1, .ref x), (2, .ref mm), (3, .ref out), (4, .int x4)]) hx hb dL_law_1539 hl (by decide) rfl (fun ls hl => ?_)
  refine lv_aload_n hx hb dL_law_1541 rfl (lv_at hl 3 rfl) ?_
  refine lv_aload_n hx hb dL_law_1542 rfl (lv_at hl 1 rfl) ?_
  refine lv_iload hx hb dL_law_1543 (lv_at hl 5 rfl) ?_
  refine lv_iconst (v := 1) hx hb dL_law_1545 (by decide) ?_
  refine lv_iadd hx hb dL_law_1546 ?_
  refine rsl hx hb hX hbl hbA hS hin1 ha1 dL_law_1547 ?_
  refine lv_aload_n hx hb dL_law_1548 rfl (lv_at hl 1 rfl) ?_
  refine lv_iload hx hb dL_law_1549 (lv_at hl 5 rfl) ?_
  refine lv_iconst (v := 2) hx hb dL_law_1551 (by decide) ?_
  refine lv_iadd hx hb dL_law_1552 ?_
  refine rsl hx hb hX hbl hbA hS hin2 ha2 dL_law_1553 ?_
  obtain ⟨v4, M3, h1, h⟩ := ob2 h
  obtain ⟨hk1, h1⟩ := ifg h1
  refine kV1 (ci := 5) (As := [.int a1, .int a2]) (rest := []) hC hE hS hM (mt_X5_greatestValue _ E mm a1 a2 _ _ _ h1) (gwV qw_1453 qw_1454 qw_1455 qw_103 qw_1456) ⟨rfl, rfl, (Nat.le_of_ble_eq_true rfl), (Nat.le_of_ble_eq_true rfl)⟩ dd_X5_greatestValue rfl hk1 rfl rfl hl.1 (Nat.le_of_ble_eq_true rfl) dL_law_1554 ⟨by have := hcs.1; show _ ≤ 601024; omega, by have := hcs.2; show _ ≤ 7293034; omega⟩ (fun H locs hM hS => ?_)
  refine lv_istore (lv' := [(6, .int v4), (5, .int kv), (0, .ref b), (1, .ref x), (2, .ref mm), (3, .ref out), (4, .int x4)]) hx hb dL_law_1557 hl (by decide) rfl (fun ls hl => ?_)
  refine lv_aload_n hx hb dL_law_1559 rfl (lv_at hl 4 rfl) ?_
  obtain ⟨v6, M5, h1, h⟩ := ob2 h
  obtain ⟨hk1, h1⟩ := ifg h1
  refine kV1 (ci := 5) (As := []) (rest := []) hC hE hS hM (mt_X5_thrown _ E mm _ _ _ h1) (gwV qw_1233 qw_1234 qw_1235 qw_103 qw_1236) ⟨rfl, rfl, (Nat.le_of_ble_eq_true rfl), (Nat.le_of_ble_eq_true rfl)⟩ dd_X5_thrown rfl hk1 rfl rfl hl.1 (Nat.le_of_ble_eq_true rfl) dL_law_1560 ⟨by have := hcs.1; show _ ≤ 601024; omega, by have := hcs.2; show _ ≤ 7293034; omega⟩ (fun H locs hM hS => ?_)
  refine lv_iload hx hb dL_law_1563 (lv_at hl 1 rfl) ?_
  refine lv_icmp_eq (tgt := 1570) hx hb dL_law_1565 (by decide) (fun c1 => ?_) (fun c1 => ?_)
  · have h := ifp c1 h
    refine lv_iload hx hb dL_law_1570 (lv_at hl 1 rfl) ?_
    refine lv_if_ne (tgt := 1587) hx hb dL_law_1572 (by decide) (fun c1 => ?_) (fun c1 => ?_)
    · have h := ifn c1 h
      refine lv_goto (tgt := 3228) hx hb dL_law_1587 (by decide) ?_
      cases h
      refine W.widen (k := cells + 60) (n := slots + 3000) (by omega) (by omega) ?_
      exact hk _ _ _ _ hP hM hS (lv_sub hl [2, 3, 4, 5, 6] rfl)
    · have h := ifp c1 h
      refine lv_aload_n hx hb dL_law_1575 rfl (lv_at hl 5 rfl) ?_
      refine lv_iconst (v := 0) hx hb dL_law_1576 (by decide) ?_
      obtain ⟨v7, h1, h⟩ := ob h
      refine r_lald hx hb hE hM h1 dL_law_1577 ?_
      refine lv_iload hx hb dL_law_1578 (lv_at hl 0 rfl) ?_
      refine lv_i2l (v := v4.toInt64) hx hb dL_law_1580 rfl ?_
      refine W.lcmp hx hb dL_law_1581 ?_
      refine lv_if_eq (tgt := 1587) hx hb dL_law_1582 (by decide) (fun c1 => ?_) (fun c1 => ?_)
      · have h := ifp c1 h
        refine lv_goto (tgt := 3228) hx hb dL_law_1587 (by decide) ?_
        cases h
        refine W.widen (k := cells + 60) (n := slots + 3000) (by omega) (by omega) ?_
        exact hk _ _ _ _ hP hM hS (lv_sub hl [2, 3, 4, 5, 6] rfl)
      · have h := ifn c1 h
        refine lv_iconst (v := 0) hx hb dL_law_1585 (by decide) ?_
        cases h
  · have h := ifn c1 h
    refine lv_iconst (v := 0) hx hb dL_law_1568 (by decide) ?_
    cases h

noncomputable def fr_law_23 (x mm out : Nat) (kv : Int32) (a1 : Int32) (M3 : Mem) : Option Mem :=
  bn (cK 6 mm M3 (f_X5_conflicts mm a1 M3)) fun v4 M3 =>
  bn (cK 6 mm M3 (f_X5_thrown mm M3)) fun v6 M5 =>
  (if v6 = kv then
  (if kv = 0 then
  (gL out 0 M5).bind fun v7 =>
  (if (lg_cmp v7 v4.toInt64) = 0 then
  some M5
  else
  none)
  else
  some M5)
  else
  none)
/-- case 23: the wrapped call, and what follows it wherever the next address lies -/
def fk_law_23 (x mm out : Nat) (a1 : Int32) (M : Mem) (P : Mem → Prop) : Prop := ∃ kv M1, f_L_conflicts x a1 out M = some (kv, M1) ∧ ∀ z, wfz (setZ M1 z) → ∃ M2, fr_law_23 x mm out kv a1 (setZ M1 z) = some M2 ∧ P M2
set_option maxHeartbeats 4000000 in
set_option maxRecDepth 100000 in
theorem lc_23 {p : Program} {l : Launch} {e : Env} {s : State} {m : MethodId} {args : Array Value} {below : List Frame} {meth : Method} {c : Code} {E : KEnv} {H : Heap} {locs : List Loc} {ls : Array Slot} {cells slots : Nat} {Q : State → Prop} {M : Mem} {P : Mem → Prop} {b L x mm out : Nat} {xs : Nat → Int32} {x4 a1 : Int32} (hfl : l.stackTraces = false) (hC : CallFix p m c code 9 s args lw_G RL) (hE : EnvOK E s) (hX : va_X b L xs s s.heap) (hbl : b < s.heap.size) (hbA : ¬ eA E b) (hin1 : vp_in (x4 + 1) L) (ha1 : xs (x4 + 1).toNatClampNeg = a1) (hcs : cells + 60 ≤ 601024 ∧ slots + 3000 ≤ 7293034) (hM : MOK E M H) (hS : va_S (eA E) s.heap H locs) (hl : lv_has ls 9 [(0, .ref b), (1, .ref x), (2, .ref mm), (3, .ref out), (4, .int x4)]) (h : fk_law_23 x mm out a1 M P)
    (hk : ∀ (M2 : Mem) (H : Heap) (locs : List Loc) (ls : Array Slot), P M2 → MOK E M2 H → va_S (eA E) s.heap H locs → lv_has ls 9 [(0, .ref b), (1, .ref x), (2, .ref mm), (3, .ref out), (4, .int x4)] → W p l e room_1 s m args below meth c H locs (cells + 60) (slots + 3000) Q (F0 m 3228 ls [])) : W p l e room_1 s m args below meth c H locs cells slots Q (F0 m 1590 ls []) := by
  obtain ⟨hx, hb, hml, hown, hts⟩ := id hC
  refine lv_aload_n hx hb dL_law_1590 rfl (lv_at hl 1 rfl) ?_
  refine lv_aload_n hx hb dL_law_1591 rfl (lv_at hl 0 rfl) ?_
  refine lv_iload hx hb dL_law_1592 (lv_at hl 4 rfl) ?_
  refine lv_iconst (v := 1) hx hb dL_law_1594 (by decide) ?_
  refine lv_iadd hx hb dL_law_1595 ?_
  refine rsl hx hb hX hbl hbA hS hin1 ha1 dL_law_1596 ?_
  refine lv_aload_n hx hb dL_law_1597 rfl (lv_at hl 3 rfl) ?_
  obtain ⟨kv, M1, h1, h⟩ := h
  refine kSW (As := [.ref x, .int a1, .ref out]) (rest := []) hC hE hS hM (mt_L_conflicts _ hfl E x a1 out _ _ _ h1) (gwSW qw_878 qw_879 qw_91 qz_L_conflicts) ⟨rfl, rfl, (Nat.le_of_ble_eq_true rfl), (Nat.le_of_ble_eq_true rfl)⟩ dd_L_conflicts rfl rfl hl.1 (Nat.le_of_ble_eq_true rfl) dL_law_1598 ⟨by have := hcs.1; show _ ≤ 601024; omega, by have := hcs.2; show _ ≤ 7293034; omega⟩ (fun z H locs hM hS => ?_)
  obtain ⟨M2, h, hP⟩ := h z (wfz_of hM)
  unfold fr_law_23 at h
  generalize setZ M1 z = M3 at h hM
  refine lv_istore (lv' := [(5, .int kv), (0, .ref b), (1, .ref x), (2, .ref mm), (3, .ref out), (4, .int x4)]) hx hb dL_law_1601 hl (by decide) rfl (fun ls hl => ?_)
  refine lv_aload_n hx hb dL_law_1603 rfl (lv_at hl 3 rfl) ?_
  refine lv_aload_n hx hb dL_law_1604 rfl (lv_at hl 1 rfl) ?_
  refine lv_iload hx hb dL_law_1605 (lv_at hl 5 rfl) ?_
  refine lv_iconst (v := 1) hx hb dL_law_1607 (by decide) ?_
  refine lv_iadd hx hb dL_law_1608 ?_
  refine rsl hx hb hX hbl hbA hS hin1 ha1 dL_law_1609 ?_
  obtain ⟨v4, M3, h1, h⟩ := ob2 h
  obtain ⟨hk1, h1⟩ := ifg h1
  refine kV1 (ci := 5) (As := [.int a1]) (rest := []) hC hE hS hM (mt_X5_conflicts _ E mm a1 _ _ _ h1) (gwV qw_1457 qw_1458 qw_1459 qw_103 qw_1460) ⟨rfl, rfl, (Nat.le_of_ble_eq_true rfl), (Nat.le_of_ble_eq_true rfl)⟩ dd_X5_conflicts rfl hk1 rfl rfl hl.1 (Nat.le_of_ble_eq_true rfl) dL_law_1610 ⟨by have := hcs.1; show _ ≤ 601024; omega, by have := hcs.2; show _ ≤ 7293034; omega⟩ (fun H locs hM hS => ?_)
  refine lv_istore (lv' := [(6, .int v4), (5, .int kv), (0, .ref b), (1, .ref x), (2, .ref mm), (3, .ref out), (4, .int x4)]) hx hb dL_law_1613 hl (by decide) rfl (fun ls hl => ?_)
  refine lv_aload_n hx hb dL_law_1615 rfl (lv_at hl 4 rfl) ?_
  obtain ⟨v6, M5, h1, h⟩ := ob2 h
  obtain ⟨hk1, h1⟩ := ifg h1
  refine kV1 (ci := 5) (As := []) (rest := []) hC hE hS hM (mt_X5_thrown _ E mm _ _ _ h1) (gwV qw_1233 qw_1234 qw_1235 qw_103 qw_1236) ⟨rfl, rfl, (Nat.le_of_ble_eq_true rfl), (Nat.le_of_ble_eq_true rfl)⟩ dd_X5_thrown rfl hk1 rfl rfl hl.1 (Nat.le_of_ble_eq_true rfl) dL_law_1616 ⟨by have := hcs.1; show _ ≤ 601024; omega, by have := hcs.2; show _ ≤ 7293034; omega⟩ (fun H locs hM hS => ?_)
  refine lv_iload hx hb dL_law_1619 (lv_at hl 1 rfl) ?_
  refine lv_icmp_eq (tgt := 1626) hx hb dL_law_1621 (by decide) (fun c1 => ?_) (fun c1 => ?_)
  · have h := ifp c1 h
    refine lv_iload hx hb dL_law_1626 (lv_at hl 1 rfl) ?_
    refine lv_if_ne (tgt := 1643) hx hb dL_law_1628 (by decide) (fun c1 => ?_) (fun c1 => ?_)
    · have h := ifn c1 h
      refine lv_goto (tgt := 3228) hx hb dL_law_1643 (by decide) ?_
      cases h
      refine W.widen (k := cells + 60) (n := slots + 3000) (by omega) (by omega) ?_
      exact hk _ _ _ _ hP hM hS (lv_sub hl [2, 3, 4, 5, 6] rfl)
    · have h := ifp c1 h
      refine lv_aload_n hx hb dL_law_1631 rfl (lv_at hl 5 rfl) ?_
      refine lv_iconst (v := 0) hx hb dL_law_1632 (by decide) ?_
      obtain ⟨v7, h1, h⟩ := ob h
      refine r_lald hx hb hE hM h1 dL_law_1633 ?_
      refine lv_iload hx hb dL_law_1634 (lv_at hl 0 rfl) ?_
      refine lv_i2l (v := v4.toInt64) hx hb dL_law_1636 rfl ?_
      refine W.lcmp hx hb dL_law_1637 ?_
      refine lv_if_eq (tgt := 1643) hx hb dL_law_1638 (by decide) (fun c1 => ?_) (fun c1 => ?_)
      · have h := ifp c1 h
        refine lv_goto (tgt := 3228) hx hb dL_law_1643 (by decide) ?_
        cases h
        refine W.widen (k := cells + 60) (n := slots + 3000) (by omega) (by omega) ?_
        exact hk _ _ _ _ hP hM hS (lv_sub hl [2, 3, 4, 5, 6] rfl)
      · have h := ifn c1 h
        refine lv_iconst (v := 0) hx hb dL_law_1641 (by decide) ?_
        cases h
  · have h := ifn c1 h
    refine lv_iconst (v := 0) hx hb dL_law_1624 (by decide) ?_
    cases h

noncomputable def fr_law_24 (x mm out : Nat) (kv : Int32) (a1 : Int32) (a2 : Int32) (M3 : Mem) : Option Mem :=
  bn (cK 6 mm M3 (f_X5_unseenDots mm a1 a2 M3)) fun v4 M3 =>
  bn (cK 6 mm M3 (f_X5_thrown mm M3)) fun v6 M5 =>
  (if v6 = kv then
  (if kv = 0 then
  (gL out 0 M5).bind fun v7 =>
  (if (lg_cmp v7 v4.toInt64) = 0 then
  some M5
  else
  none)
  else
  some M5)
  else
  none)
/-- case 24: the wrapped call, and what follows it wherever the next address lies -/
def fk_law_24 (x mm out : Nat) (a1 : Int32) (a2 : Int32) (M : Mem) (P : Mem → Prop) : Prop := ∃ kv M1, f_L_unseenDots x a1 a2 out M = some (kv, M1) ∧ ∀ z, wfz (setZ M1 z) → ∃ M2, fr_law_24 x mm out kv a1 a2 (setZ M1 z) = some M2 ∧ P M2
set_option maxHeartbeats 4000000 in
set_option maxRecDepth 100000 in
theorem lc_24 {p : Program} {l : Launch} {e : Env} {s : State} {m : MethodId} {args : Array Value} {below : List Frame} {meth : Method} {c : Code} {E : KEnv} {H : Heap} {locs : List Loc} {ls : Array Slot} {cells slots : Nat} {Q : State → Prop} {M : Mem} {P : Mem → Prop} {b L x mm out : Nat} {xs : Nat → Int32} {x4 a1 a2 : Int32} (hfl : l.stackTraces = false) (hC : CallFix p m c code 9 s args lw_G RL) (hE : EnvOK E s) (hX : va_X b L xs s s.heap) (hbl : b < s.heap.size) (hbA : ¬ eA E b) (hin1 : vp_in (x4 + 1) L) (ha1 : xs (x4 + 1).toNatClampNeg = a1) (hin2 : vp_in (x4 + 2) L) (ha2 : xs (x4 + 2).toNatClampNeg = a2) (hcs : cells + 60 ≤ 601024 ∧ slots + 3000 ≤ 7293034) (hM : MOK E M H) (hS : va_S (eA E) s.heap H locs) (hl : lv_has ls 9 [(0, .ref b), (1, .ref x), (2, .ref mm), (3, .ref out), (4, .int x4)]) (h : fk_law_24 x mm out a1 a2 M P)
    (hk : ∀ (M2 : Mem) (H : Heap) (locs : List Loc) (ls : Array Slot), P M2 → MOK E M2 H → va_S (eA E) s.heap H locs → lv_has ls 9 [(0, .ref b), (1, .ref x), (2, .ref mm), (3, .ref out), (4, .int x4)] → W p l e room_1 s m args below meth c H locs (cells + 60) (slots + 3000) Q (F0 m 3228 ls [])) : W p l e room_1 s m args below meth c H locs cells slots Q (F0 m 1646 ls []) := by
  obtain ⟨hx, hb, hml, hown, hts⟩ := id hC
  refine lv_aload_n hx hb dL_law_1646 rfl (lv_at hl 1 rfl) ?_
  refine lv_aload_n hx hb dL_law_1647 rfl (lv_at hl 0 rfl) ?_
  refine lv_iload hx hb dL_law_1648 (lv_at hl 4 rfl) ?_
  refine lv_iconst (v := 1) hx hb dL_law_1650 (by decide) ?_
  refine lv_iadd hx hb dL_law_1651 ?_
  refine rsl hx hb hX hbl hbA hS hin1 ha1 dL_law_1652 ?_
  refine lv_aload_n hx hb dL_law_1653 rfl (lv_at hl 0 rfl) ?_
  refine lv_iload hx hb dL_law_1654 (lv_at hl 4 rfl) ?_
  refine lv_iconst (v := 2) hx hb dL_law_1656 (by decide) ?_
  refine lv_iadd hx hb dL_law_1657 ?_
  refine rsl hx hb hX hbl hbA hS hin2 ha2 dL_law_1658 ?_
  refine lv_aload_n hx hb dL_law_1659 rfl (lv_at hl 3 rfl) ?_
  obtain ⟨kv, M1, h1, h⟩ := h
  refine kSW (As := [.ref x, .int a1, .int a2, .ref out]) (rest := []) hC hE hS hM (mt_L_unseenDots _ hfl E x a1 a2 out _ _ _ h1) (gwSW qw_885 qw_886 qw_91 qz_L_unseenDots) ⟨rfl, rfl, (Nat.le_of_ble_eq_true rfl), (Nat.le_of_ble_eq_true rfl)⟩ dd_L_unseenDots rfl rfl hl.1 (Nat.le_of_ble_eq_true rfl) dL_law_1660 ⟨by have := hcs.1; show _ ≤ 601024; omega, by have := hcs.2; show _ ≤ 7293034; omega⟩ (fun z H locs hM hS => ?_)
  obtain ⟨M2, h, hP⟩ := h z (wfz_of hM)
  unfold fr_law_24 at h
  generalize setZ M1 z = M3 at h hM
  refine lv_istore (lv' := [(5, .int kv), (0, .ref b), (1, .ref x), (2, .ref mm), (3, .ref out), (4, .int x4)]) hx hb dL_law_1663 hl (by decide) rfl (fun ls hl => ?_)
  refine lv_aload_n hx hb dL_law_1665 rfl (lv_at hl 3 rfl) ?_
  refine lv_aload_n hx hb dL_law_1666 rfl (lv_at hl 1 rfl) ?_
  refine lv_iload hx hb dL_law_1667 (lv_at hl 5 rfl) ?_
  refine lv_iconst (v := 1) hx hb dL_law_1669 (by decide) ?_
  refine lv_iadd hx hb dL_law_1670 ?_
  refine rsl hx hb hX hbl hbA hS hin1 ha1 dL_law_1671 ?_
  refine lv_aload_n hx hb dL_law_1672 rfl (lv_at hl 1 rfl) ?_
  refine lv_iload hx hb dL_law_1673 (lv_at hl 5 rfl) ?_
  refine lv_iconst (v := 2) hx hb dL_law_1675 (by decide) ?_
  refine lv_iadd hx hb dL_law_1676 ?_
  refine rsl hx hb hX hbl hbA hS hin2 ha2 dL_law_1677 ?_
  obtain ⟨v4, M3, h1, h⟩ := ob2 h
  obtain ⟨hk1, h1⟩ := ifg h1
  refine kV1 (ci := 5) (As := [.int a1, .int a2]) (rest := []) hC hE hS hM (mt_X5_unseenDots _ E mm a1 a2 _ _ _ h1) (gwV qw_1465 qw_1466 qw_1467 qw_103 qw_1468) ⟨rfl, rfl, (Nat.le_of_ble_eq_true rfl), (Nat.le_of_ble_eq_true rfl)⟩ dd_X5_unseenDots rfl hk1 rfl rfl hl.1 (Nat.le_of_ble_eq_true rfl) dL_law_1678 ⟨by have := hcs.1; show _ ≤ 601024; omega, by have := hcs.2; show _ ≤ 7293034; omega⟩ (fun H locs hM hS => ?_)
  refine lv_istore (lv' := [(6, .int v4), (5, .int kv), (0, .ref b), (1, .ref x), (2, .ref mm), (3, .ref out), (4, .int x4)]) hx hb dL_law_1681 hl (by decide) rfl (fun ls hl => ?_)
  refine lv_aload_n hx hb dL_law_1683 rfl (lv_at hl 4 rfl) ?_
  obtain ⟨v6, M5, h1, h⟩ := ob2 h
  obtain ⟨hk1, h1⟩ := ifg h1
  refine kV1 (ci := 5) (As := []) (rest := []) hC hE hS hM (mt_X5_thrown _ E mm _ _ _ h1) (gwV qw_1233 qw_1234 qw_1235 qw_103 qw_1236) ⟨rfl, rfl, (Nat.le_of_ble_eq_true rfl), (Nat.le_of_ble_eq_true rfl)⟩ dd_X5_thrown rfl hk1 rfl rfl hl.1 (Nat.le_of_ble_eq_true rfl) dL_law_1684 ⟨by have := hcs.1; show _ ≤ 601024; omega, by have := hcs.2; show _ ≤ 7293034; omega⟩ (fun H locs hM hS => ?_)
  refine lv_iload hx hb dL_law_1687 (lv_at hl 1 rfl) ?_
  refine lv_icmp_eq (tgt := 1694) hx hb dL_law_1689 (by decide) (fun c1 => ?_) (fun c1 => ?_)
  · have h := ifp c1 h
    refine lv_iload hx hb dL_law_1694 (lv_at hl 1 rfl) ?_
    refine lv_if_ne (tgt := 1711) hx hb dL_law_1696 (by decide) (fun c1 => ?_) (fun c1 => ?_)
    · have h := ifn c1 h
      refine lv_goto (tgt := 3228) hx hb dL_law_1711 (by decide) ?_
      cases h
      refine W.widen (k := cells + 60) (n := slots + 3000) (by omega) (by omega) ?_
      exact hk _ _ _ _ hP hM hS (lv_sub hl [2, 3, 4, 5, 6] rfl)
    · have h := ifp c1 h
      refine lv_aload_n hx hb dL_law_1699 rfl (lv_at hl 5 rfl) ?_
      refine lv_iconst (v := 0) hx hb dL_law_1700 (by decide) ?_
      obtain ⟨v7, h1, h⟩ := ob h
      refine r_lald hx hb hE hM h1 dL_law_1701 ?_
      refine lv_iload hx hb dL_law_1702 (lv_at hl 0 rfl) ?_
      refine lv_i2l (v := v4.toInt64) hx hb dL_law_1704 rfl ?_
      refine W.lcmp hx hb dL_law_1705 ?_
      refine lv_if_eq (tgt := 1711) hx hb dL_law_1706 (by decide) (fun c1 => ?_) (fun c1 => ?_)
      · have h := ifp c1 h
        refine lv_goto (tgt := 3228) hx hb dL_law_1711 (by decide) ?_
        cases h
        refine W.widen (k := cells + 60) (n := slots + 3000) (by omega) (by omega) ?_
        exact hk _ _ _ _ hP hM hS (lv_sub hl [2, 3, 4, 5, 6] rfl)
      · have h := ifn c1 h
        refine lv_iconst (v := 0) hx hb dL_law_1709 (by decide) ?_
        cases h
  · have h := ifn c1 h
    refine lv_iconst (v := 0) hx hb dL_law_1692 (by decide) ?_
    cases h

noncomputable def fr_law_25 (x mm out : Nat) (kv : Int32) (a1 : Int32) (a2 : Int32) (M3 : Mem) : Option Mem :=
  bn (cK 6 mm M3 (f_X5_deltaSize mm a1 a2 M3)) fun v4 M3 =>
  bn (cK 6 mm M3 (f_X5_thrown mm M3)) fun v6 M5 =>
  (if v6 = kv then
  (if kv = 0 then
  (gL out 0 M5).bind fun v7 =>
  (if (lg_cmp v7 v4.toInt64) = 0 then
  some M5
  else
  none)
  else
  some M5)
  else
  none)
/-- case 25: the wrapped call, and what follows it wherever the next address lies -/
def fk_law_25 (x mm out : Nat) (a1 : Int32) (a2 : Int32) (M : Mem) (P : Mem → Prop) : Prop := ∃ kv M1, f_L_deltaSize x a1 a2 out M = some (kv, M1) ∧ ∀ z, wfz (setZ M1 z) → ∃ M2, fr_law_25 x mm out kv a1 a2 (setZ M1 z) = some M2 ∧ P M2
set_option maxHeartbeats 4000000 in
set_option maxRecDepth 100000 in
theorem lc_25 {p : Program} {l : Launch} {e : Env} {s : State} {m : MethodId} {args : Array Value} {below : List Frame} {meth : Method} {c : Code} {E : KEnv} {H : Heap} {locs : List Loc} {ls : Array Slot} {cells slots : Nat} {Q : State → Prop} {M : Mem} {P : Mem → Prop} {b L x mm out : Nat} {xs : Nat → Int32} {x4 a1 a2 : Int32} (hfl : l.stackTraces = false) (hC : CallFix p m c code 9 s args lw_G RL) (hE : EnvOK E s) (hX : va_X b L xs s s.heap) (hbl : b < s.heap.size) (hbA : ¬ eA E b) (hin1 : vp_in (x4 + 1) L) (ha1 : xs (x4 + 1).toNatClampNeg = a1) (hin2 : vp_in (x4 + 2) L) (ha2 : xs (x4 + 2).toNatClampNeg = a2) (hcs : cells + 60 ≤ 601024 ∧ slots + 3000 ≤ 7293034) (hM : MOK E M H) (hS : va_S (eA E) s.heap H locs) (hl : lv_has ls 9 [(0, .ref b), (1, .ref x), (2, .ref mm), (3, .ref out), (4, .int x4)]) (h : fk_law_25 x mm out a1 a2 M P)
    (hk : ∀ (M2 : Mem) (H : Heap) (locs : List Loc) (ls : Array Slot), P M2 → MOK E M2 H → va_S (eA E) s.heap H locs → lv_has ls 9 [(0, .ref b), (1, .ref x), (2, .ref mm), (3, .ref out), (4, .int x4)] → W p l e room_1 s m args below meth c H locs (cells + 60) (slots + 3000) Q (F0 m 3228 ls [])) : W p l e room_1 s m args below meth c H locs cells slots Q (F0 m 1714 ls []) := by
  obtain ⟨hx, hb, hml, hown, hts⟩ := id hC
  refine lv_aload_n hx hb dL_law_1714 rfl (lv_at hl 1 rfl) ?_
  refine lv_aload_n hx hb dL_law_1715 rfl (lv_at hl 0 rfl) ?_
  refine lv_iload hx hb dL_law_1716 (lv_at hl 4 rfl) ?_
  refine lv_iconst (v := 1) hx hb dL_law_1718 (by decide) ?_
  refine lv_iadd hx hb dL_law_1719 ?_
  refine rsl hx hb hX hbl hbA hS hin1 ha1 dL_law_1720 ?_
  refine lv_aload_n hx hb dL_law_1721 rfl (lv_at hl 0 rfl) ?_
  refine lv_iload hx hb dL_law_1722 (lv_at hl 4 rfl) ?_
  refine lv_iconst (v := 2) hx hb dL_law_1724 (by decide) ?_
  refine lv_iadd hx hb dL_law_1725 ?_
  refine rsl hx hb hX hbl hbA hS hin2 ha2 dL_law_1726 ?_
  refine lv_aload_n hx hb dL_law_1727 rfl (lv_at hl 3 rfl) ?_
  obtain ⟨kv, M1, h1, h⟩ := h
  refine kSW (As := [.ref x, .int a1, .int a2, .ref out]) (rest := []) hC hE hS hM (mt_L_deltaSize _ hfl E x a1 a2 out _ _ _ h1) (gwSW qw_892 qw_893 qw_91 qz_L_deltaSize) ⟨rfl, rfl, (Nat.le_of_ble_eq_true rfl), (Nat.le_of_ble_eq_true rfl)⟩ dd_L_deltaSize rfl rfl hl.1 (Nat.le_of_ble_eq_true rfl) dL_law_1728 ⟨by have := hcs.1; show _ ≤ 601024; omega, by have := hcs.2; show _ ≤ 7293034; omega⟩ (fun z H locs hM hS => ?_)
  obtain ⟨M2, h, hP⟩ := h z (wfz_of hM)
  unfold fr_law_25 at h
  generalize setZ M1 z = M3 at h hM
  refine lv_istore (lv' := [(5, .int kv), (0, .ref b), (1, .ref x), (2, .ref mm), (3, .ref out), (4, .int x4)]) hx hb dL_law_1731 hl (by decide) rfl (fun ls hl => ?_)
  refine lv_aload_n hx hb dL_law_1733 rfl (lv_at hl 3 rfl) ?_
  refine lv_aload_n hx hb dL_law_1734 rfl (lv_at hl 1 rfl) ?_
  refine lv_iload hx hb dL_law_1735 (lv_at hl 5 rfl) ?_
  refine lv_iconst (v := 1) hx hb dL_law_1737 (by decide) ?_
  refine lv_iadd hx hb dL_law_1738 ?_
  refine rsl hx hb hX hbl hbA hS hin1 ha1 dL_law_1739 ?_
  refine lv_aload_n hx hb dL_law_1740 rfl (lv_at hl 1 rfl) ?_
  refine lv_iload hx hb dL_law_1741 (lv_at hl 5 rfl) ?_
  refine lv_iconst (v := 2) hx hb dL_law_1743 (by decide) ?_
  refine lv_iadd hx hb dL_law_1744 ?_
  refine rsl hx hb hX hbl hbA hS hin2 ha2 dL_law_1745 ?_
  obtain ⟨v4, M3, h1, h⟩ := ob2 h
  obtain ⟨hk1, h1⟩ := ifg h1
  refine kV1 (ci := 5) (As := [.int a1, .int a2]) (rest := []) hC hE hS hM (mt_X5_deltaSize _ E mm a1 a2 _ _ _ h1) (gwV qw_1469 qw_1470 qw_1471 qw_103 qw_1472) ⟨rfl, rfl, (Nat.le_of_ble_eq_true rfl), (Nat.le_of_ble_eq_true rfl)⟩ dd_X5_deltaSize rfl hk1 rfl rfl hl.1 (Nat.le_of_ble_eq_true rfl) dL_law_1746 ⟨by have := hcs.1; show _ ≤ 601024; omega, by have := hcs.2; show _ ≤ 7293034; omega⟩ (fun H locs hM hS => ?_)
  refine lv_istore (lv' := [(6, .int v4), (5, .int kv), (0, .ref b), (1, .ref x), (2, .ref mm), (3, .ref out), (4, .int x4)]) hx hb dL_law_1749 hl (by decide) rfl (fun ls hl => ?_)
  refine lv_aload_n hx hb dL_law_1751 rfl (lv_at hl 4 rfl) ?_
  obtain ⟨v6, M5, h1, h⟩ := ob2 h
  obtain ⟨hk1, h1⟩ := ifg h1
  refine kV1 (ci := 5) (As := []) (rest := []) hC hE hS hM (mt_X5_thrown _ E mm _ _ _ h1) (gwV qw_1233 qw_1234 qw_1235 qw_103 qw_1236) ⟨rfl, rfl, (Nat.le_of_ble_eq_true rfl), (Nat.le_of_ble_eq_true rfl)⟩ dd_X5_thrown rfl hk1 rfl rfl hl.1 (Nat.le_of_ble_eq_true rfl) dL_law_1752 ⟨by have := hcs.1; show _ ≤ 601024; omega, by have := hcs.2; show _ ≤ 7293034; omega⟩ (fun H locs hM hS => ?_)
  refine lv_iload hx hb dL_law_1755 (lv_at hl 1 rfl) ?_
  refine lv_icmp_eq (tgt := 1762) hx hb dL_law_1757 (by decide) (fun c1 => ?_) (fun c1 => ?_)
  · have h := ifp c1 h
    refine lv_iload hx hb dL_law_1762 (lv_at hl 1 rfl) ?_
    refine lv_if_ne (tgt := 1779) hx hb dL_law_1764 (by decide) (fun c1 => ?_) (fun c1 => ?_)
    · have h := ifn c1 h
      refine lv_goto (tgt := 3228) hx hb dL_law_1779 (by decide) ?_
      cases h
      refine W.widen (k := cells + 60) (n := slots + 3000) (by omega) (by omega) ?_
      exact hk _ _ _ _ hP hM hS (lv_sub hl [2, 3, 4, 5, 6] rfl)
    · have h := ifp c1 h
      refine lv_aload_n hx hb dL_law_1767 rfl (lv_at hl 5 rfl) ?_
      refine lv_iconst (v := 0) hx hb dL_law_1768 (by decide) ?_
      obtain ⟨v7, h1, h⟩ := ob h
      refine r_lald hx hb hE hM h1 dL_law_1769 ?_
      refine lv_iload hx hb dL_law_1770 (lv_at hl 0 rfl) ?_
      refine lv_i2l (v := v4.toInt64) hx hb dL_law_1772 rfl ?_
      refine W.lcmp hx hb dL_law_1773 ?_
      refine lv_if_eq (tgt := 1779) hx hb dL_law_1774 (by decide) (fun c1 => ?_) (fun c1 => ?_)
      · have h := ifp c1 h
        refine lv_goto (tgt := 3228) hx hb dL_law_1779 (by decide) ?_
        cases h
        refine W.widen (k := cells + 60) (n := slots + 3000) (by omega) (by omega) ?_
        exact hk _ _ _ _ hP hM hS (lv_sub hl [2, 3, 4, 5, 6] rfl)
      · have h := ifn c1 h
        refine lv_iconst (v := 0) hx hb dL_law_1777 (by decide) ?_
        cases h
  · have h := ifn c1 h
    refine lv_iconst (v := 0) hx hb dL_law_1760 (by decide) ?_
    cases h

noncomputable def fr_law_26 (x mm out : Nat) (kv : Int32) (a1 : Int32) (a2 : Int32) (M3 : Mem) : Option Mem :=
  bn (cK 6 mm M3 (f_X5_tagsGained mm a1 a2 M3)) fun v4 M3 =>
  bn (cK 6 mm M3 (f_X5_thrown mm M3)) fun v6 M5 =>
  (if v6 = kv then
  (if kv = 0 then
  (gL out 0 M5).bind fun v7 =>
  (if (lg_cmp v7 v4.toInt64) = 0 then
  some M5
  else
  none)
  else
  some M5)
  else
  none)
/-- case 26: the wrapped call, and what follows it wherever the next address lies -/
def fk_law_26 (x mm out : Nat) (a1 : Int32) (a2 : Int32) (M : Mem) (P : Mem → Prop) : Prop := ∃ kv M1, f_L_tagsGained x a1 a2 out M = some (kv, M1) ∧ ∀ z, wfz (setZ M1 z) → ∃ M2, fr_law_26 x mm out kv a1 a2 (setZ M1 z) = some M2 ∧ P M2
set_option maxHeartbeats 4000000 in
set_option maxRecDepth 100000 in
theorem lc_26 {p : Program} {l : Launch} {e : Env} {s : State} {m : MethodId} {args : Array Value} {below : List Frame} {meth : Method} {c : Code} {E : KEnv} {H : Heap} {locs : List Loc} {ls : Array Slot} {cells slots : Nat} {Q : State → Prop} {M : Mem} {P : Mem → Prop} {b L x mm out : Nat} {xs : Nat → Int32} {x4 a1 a2 : Int32} (hfl : l.stackTraces = false) (hC : CallFix p m c code 9 s args lw_G RL) (hE : EnvOK E s) (hX : va_X b L xs s s.heap) (hbl : b < s.heap.size) (hbA : ¬ eA E b) (hin1 : vp_in (x4 + 1) L) (ha1 : xs (x4 + 1).toNatClampNeg = a1) (hin2 : vp_in (x4 + 2) L) (ha2 : xs (x4 + 2).toNatClampNeg = a2) (hcs : cells + 60 ≤ 601024 ∧ slots + 3000 ≤ 7293034) (hM : MOK E M H) (hS : va_S (eA E) s.heap H locs) (hl : lv_has ls 9 [(0, .ref b), (1, .ref x), (2, .ref mm), (3, .ref out), (4, .int x4)]) (h : fk_law_26 x mm out a1 a2 M P)
    (hk : ∀ (M2 : Mem) (H : Heap) (locs : List Loc) (ls : Array Slot), P M2 → MOK E M2 H → va_S (eA E) s.heap H locs → lv_has ls 9 [(0, .ref b), (1, .ref x), (2, .ref mm), (3, .ref out), (4, .int x4)] → W p l e room_1 s m args below meth c H locs (cells + 60) (slots + 3000) Q (F0 m 3228 ls [])) : W p l e room_1 s m args below meth c H locs cells slots Q (F0 m 1782 ls []) := by
  obtain ⟨hx, hb, hml, hown, hts⟩ := id hC
  refine lv_aload_n hx hb dL_law_1782 rfl (lv_at hl 1 rfl) ?_
  refine lv_aload_n hx hb dL_law_1783 rfl (lv_at hl 0 rfl) ?_
  refine lv_iload hx hb dL_law_1784 (lv_at hl 4 rfl) ?_
  refine lv_iconst (v := 1) hx hb dL_law_1786 (by decide) ?_
  refine lv_iadd hx hb dL_law_1787 ?_
  refine rsl hx hb hX hbl hbA hS hin1 ha1 dL_law_1788 ?_
  refine lv_aload_n hx hb dL_law_1789 rfl (lv_at hl 0 rfl) ?_
  refine lv_iload hx hb dL_law_1790 (lv_at hl 4 rfl) ?_
  refine lv_iconst (v := 2) hx hb dL_law_1792 (by decide) ?_
  refine lv_iadd hx hb dL_law_1793 ?_
  refine rsl hx hb hX hbl hbA hS hin2 ha2 dL_law_1794 ?_
  refine lv_aload_n hx hb dL_law_1795 rfl (lv_at hl 3 rfl) ?_
  obtain ⟨kv, M1, h1, h⟩ := h
  refine kSW (As := [.ref x, .int a1, .int a2, .ref out]) (rest := []) hC hE hS hM (mt_L_tagsGained _ hfl E x a1 a2 out _ _ _ h1) (gwSW qw_903 qw_904 qw_91 qz_L_tagsGained) ⟨rfl, rfl, (Nat.le_of_ble_eq_true rfl), (Nat.le_of_ble_eq_true rfl)⟩ dd_L_tagsGained rfl rfl hl.1 (Nat.le_of_ble_eq_true rfl) dL_law_1796 ⟨by have := hcs.1; show _ ≤ 601024; omega, by have := hcs.2; show _ ≤ 7293034; omega⟩ (fun z H locs hM hS => ?_)
  obtain ⟨M2, h, hP⟩ := h z (wfz_of hM)
  unfold fr_law_26 at h
  generalize setZ M1 z = M3 at h hM
  refine lv_istore (lv' := [(5, .int kv), (0, .ref b), (1, .ref x), (2, .ref mm), (3, .ref out), (4, .int x4)]) hx hb dL_law_1799 hl (by decide) rfl (fun ls hl => ?_)
  refine lv_aload_n hx hb dL_law_1801 rfl (lv_at hl 3 rfl) ?_
  refine lv_aload_n hx hb dL_law_1802 rfl (lv_at hl 1 rfl) ?_
  refine lv_iload hx hb dL_law_1803 (lv_at hl 5 rfl) ?_
  refine lv_iconst (v := 1) hx hb dL_law_1805 (by decide) ?_
  refine lv_iadd hx hb dL_law_1806 ?_
  refine rsl hx hb hX hbl hbA hS hin1 ha1 dL_law_1807 ?_
  refine lv_aload_n hx hb dL_law_1808 rfl (lv_at hl 1 rfl) ?_
  refine lv_iload hx hb dL_law_1809 (lv_at hl 5 rfl) ?_
  refine lv_iconst (v := 2) hx hb dL_law_1811 (by decide) ?_
  refine lv_iadd hx hb dL_law_1812 ?_
  refine rsl hx hb hX hbl hbA hS hin2 ha2 dL_law_1813 ?_
  obtain ⟨v4, M3, h1, h⟩ := ob2 h
  obtain ⟨hk1, h1⟩ := ifg h1
  refine kV1 (ci := 5) (As := [.int a1, .int a2]) (rest := []) hC hE hS hM (mt_X5_tagsGained _ E mm a1 a2 _ _ _ h1) (gwV qw_1477 qw_1478 qw_1479 qw_103 qw_1480) ⟨rfl, rfl, (Nat.le_of_ble_eq_true rfl), (Nat.le_of_ble_eq_true rfl)⟩ dd_X5_tagsGained rfl hk1 rfl rfl hl.1 (Nat.le_of_ble_eq_true rfl) dL_law_1814 ⟨by have := hcs.1; show _ ≤ 601024; omega, by have := hcs.2; show _ ≤ 7293034; omega⟩ (fun H locs hM hS => ?_)
  refine lv_istore (lv' := [(6, .int v4), (5, .int kv), (0, .ref b), (1, .ref x), (2, .ref mm), (3, .ref out), (4, .int x4)]) hx hb dL_law_1817 hl (by decide) rfl (fun ls hl => ?_)
  refine lv_aload_n hx hb dL_law_1819 rfl (lv_at hl 4 rfl) ?_
  obtain ⟨v6, M5, h1, h⟩ := ob2 h
  obtain ⟨hk1, h1⟩ := ifg h1
  refine kV1 (ci := 5) (As := []) (rest := []) hC hE hS hM (mt_X5_thrown _ E mm _ _ _ h1) (gwV qw_1233 qw_1234 qw_1235 qw_103 qw_1236) ⟨rfl, rfl, (Nat.le_of_ble_eq_true rfl), (Nat.le_of_ble_eq_true rfl)⟩ dd_X5_thrown rfl hk1 rfl rfl hl.1 (Nat.le_of_ble_eq_true rfl) dL_law_1820 ⟨by have := hcs.1; show _ ≤ 601024; omega, by have := hcs.2; show _ ≤ 7293034; omega⟩ (fun H locs hM hS => ?_)
  refine lv_iload hx hb dL_law_1823 (lv_at hl 1 rfl) ?_
  refine lv_icmp_eq (tgt := 1830) hx hb dL_law_1825 (by decide) (fun c1 => ?_) (fun c1 => ?_)
  · have h := ifp c1 h
    refine lv_iload hx hb dL_law_1830 (lv_at hl 1 rfl) ?_
    refine lv_if_ne (tgt := 1847) hx hb dL_law_1832 (by decide) (fun c1 => ?_) (fun c1 => ?_)
    · have h := ifn c1 h
      refine lv_goto (tgt := 3228) hx hb dL_law_1847 (by decide) ?_
      cases h
      refine W.widen (k := cells + 60) (n := slots + 3000) (by omega) (by omega) ?_
      exact hk _ _ _ _ hP hM hS (lv_sub hl [2, 3, 4, 5, 6] rfl)
    · have h := ifp c1 h
      refine lv_aload_n hx hb dL_law_1835 rfl (lv_at hl 5 rfl) ?_
      refine lv_iconst (v := 0) hx hb dL_law_1836 (by decide) ?_
      obtain ⟨v7, h1, h⟩ := ob h
      refine r_lald hx hb hE hM h1 dL_law_1837 ?_
      refine lv_iload hx hb dL_law_1838 (lv_at hl 0 rfl) ?_
      refine lv_i2l (v := v4.toInt64) hx hb dL_law_1840 rfl ?_
      refine W.lcmp hx hb dL_law_1841 ?_
      refine lv_if_eq (tgt := 1847) hx hb dL_law_1842 (by decide) (fun c1 => ?_) (fun c1 => ?_)
      · have h := ifp c1 h
        refine lv_goto (tgt := 3228) hx hb dL_law_1847 (by decide) ?_
        cases h
        refine W.widen (k := cells + 60) (n := slots + 3000) (by omega) (by omega) ?_
        exact hk _ _ _ _ hP hM hS (lv_sub hl [2, 3, 4, 5, 6] rfl)
      · have h := ifn c1 h
        refine lv_iconst (v := 0) hx hb dL_law_1845 (by decide) ?_
        cases h
  · have h := ifn c1 h
    refine lv_iconst (v := 0) hx hb dL_law_1828 (by decide) ?_
    cases h

noncomputable def fr_law_27 (x mm out : Nat) (kv : Int32) (a1 : Int32) (a2 : Int32) (M3 : Mem) : Option Mem :=
  bn (cK 6 mm M3 (f_X5_tagsLost mm a1 a2 M3)) fun v4 M3 =>
  bn (cK 6 mm M3 (f_X5_thrown mm M3)) fun v6 M5 =>
  (if v6 = kv then
  (if kv = 0 then
  (gL out 0 M5).bind fun v7 =>
  (if (lg_cmp v7 v4.toInt64) = 0 then
  some M5
  else
  none)
  else
  some M5)
  else
  none)
/-- case 27: the wrapped call, and what follows it wherever the next address lies -/
def fk_law_27 (x mm out : Nat) (a1 : Int32) (a2 : Int32) (M : Mem) (P : Mem → Prop) : Prop := ∃ kv M1, f_L_tagsLost x a1 a2 out M = some (kv, M1) ∧ ∀ z, wfz (setZ M1 z) → ∃ M2, fr_law_27 x mm out kv a1 a2 (setZ M1 z) = some M2 ∧ P M2
set_option maxHeartbeats 4000000 in
set_option maxRecDepth 100000 in
theorem lc_27 {p : Program} {l : Launch} {e : Env} {s : State} {m : MethodId} {args : Array Value} {below : List Frame} {meth : Method} {c : Code} {E : KEnv} {H : Heap} {locs : List Loc} {ls : Array Slot} {cells slots : Nat} {Q : State → Prop} {M : Mem} {P : Mem → Prop} {b L x mm out : Nat} {xs : Nat → Int32} {x4 a1 a2 : Int32} (hfl : l.stackTraces = false) (hC : CallFix p m c code 9 s args lw_G RL) (hE : EnvOK E s) (hX : va_X b L xs s s.heap) (hbl : b < s.heap.size) (hbA : ¬ eA E b) (hin1 : vp_in (x4 + 1) L) (ha1 : xs (x4 + 1).toNatClampNeg = a1) (hin2 : vp_in (x4 + 2) L) (ha2 : xs (x4 + 2).toNatClampNeg = a2) (hcs : cells + 60 ≤ 601024 ∧ slots + 3000 ≤ 7293034) (hM : MOK E M H) (hS : va_S (eA E) s.heap H locs) (hl : lv_has ls 9 [(0, .ref b), (1, .ref x), (2, .ref mm), (3, .ref out), (4, .int x4)]) (h : fk_law_27 x mm out a1 a2 M P)
    (hk : ∀ (M2 : Mem) (H : Heap) (locs : List Loc) (ls : Array Slot), P M2 → MOK E M2 H → va_S (eA E) s.heap H locs → lv_has ls 9 [(0, .ref b), (1, .ref x), (2, .ref mm), (3, .ref out), (4, .int x4)] → W p l e room_1 s m args below meth c H locs (cells + 60) (slots + 3000) Q (F0 m 3228 ls [])) : W p l e room_1 s m args below meth c H locs cells slots Q (F0 m 1850 ls []) := by
  obtain ⟨hx, hb, hml, hown, hts⟩ := id hC
  refine lv_aload_n hx hb dL_law_1850 rfl (lv_at hl 1 rfl) ?_
  refine lv_aload_n hx hb dL_law_1851 rfl (lv_at hl 0 rfl) ?_
  refine lv_iload hx hb dL_law_1852 (lv_at hl 4 rfl) ?_
  refine lv_iconst (v := 1) hx hb dL_law_1854 (by decide) ?_
  refine lv_iadd hx hb dL_law_1855 ?_
  refine rsl hx hb hX hbl hbA hS hin1 ha1 dL_law_1856 ?_
  refine lv_aload_n hx hb dL_law_1857 rfl (lv_at hl 0 rfl) ?_
  refine lv_iload hx hb dL_law_1858 (lv_at hl 4 rfl) ?_
  refine lv_iconst (v := 2) hx hb dL_law_1860 (by decide) ?_
  refine lv_iadd hx hb dL_law_1861 ?_
  refine rsl hx hb hX hbl hbA hS hin2 ha2 dL_law_1862 ?_
  refine lv_aload_n hx hb dL_law_1863 rfl (lv_at hl 3 rfl) ?_
  obtain ⟨kv, M1, h1, h⟩ := h
  refine kSW (As := [.ref x, .int a1, .int a2, .ref out]) (rest := []) hC hE hS hM (mt_L_tagsLost _ hfl E x a1 a2 out _ _ _ h1) (gwSW qw_914 qw_915 qw_91 qz_L_tagsLost) ⟨rfl, rfl, (Nat.le_of_ble_eq_true rfl), (Nat.le_of_ble_eq_true rfl)⟩ dd_L_tagsLost rfl rfl hl.1 (Nat.le_of_ble_eq_true rfl) dL_law_1864 ⟨by have := hcs.1; show _ ≤ 601024; omega, by have := hcs.2; show _ ≤ 7293034; omega⟩ (fun z H locs hM hS => ?_)
  obtain ⟨M2, h, hP⟩ := h z (wfz_of hM)
  unfold fr_law_27 at h
  generalize setZ M1 z = M3 at h hM
  refine lv_istore (lv' := [(5, .int kv), (0, .ref b), (1, .ref x), (2, .ref mm), (3, .ref out), (4, .int x4)]) hx hb dL_law_1867 hl (by decide) rfl (fun ls hl => ?_)
  refine lv_aload_n hx hb dL_law_1869 rfl (lv_at hl 3 rfl) ?_
  refine lv_aload_n hx hb dL_law_1870 rfl (lv_at hl 1 rfl) ?_
  refine lv_iload hx hb dL_law_1871 (lv_at hl 5 rfl) ?_
  refine lv_iconst (v := 1) hx hb dL_law_1873 (by decide) ?_
  refine lv_iadd hx hb dL_law_1874 ?_
  refine rsl hx hb hX hbl hbA hS hin1 ha1 dL_law_1875 ?_
  refine lv_aload_n hx hb dL_law_1876 rfl (lv_at hl 1 rfl) ?_
  refine lv_iload hx hb dL_law_1877 (lv_at hl 5 rfl) ?_
  refine lv_iconst (v := 2) hx hb dL_law_1879 (by decide) ?_
  refine lv_iadd hx hb dL_law_1880 ?_
  refine rsl hx hb hX hbl hbA hS hin2 ha2 dL_law_1881 ?_
  obtain ⟨v4, M3, h1, h⟩ := ob2 h
  obtain ⟨hk1, h1⟩ := ifg h1
  refine kV1 (ci := 5) (As := [.int a1, .int a2]) (rest := []) hC hE hS hM (mt_X5_tagsLost _ E mm a1 a2 _ _ _ h1) (gwV qw_1485 qw_1486 qw_1487 qw_103 qw_1488) ⟨rfl, rfl, (Nat.le_of_ble_eq_true rfl), (Nat.le_of_ble_eq_true rfl)⟩ dd_X5_tagsLost rfl hk1 rfl rfl hl.1 (Nat.le_of_ble_eq_true rfl) dL_law_1882 ⟨by have := hcs.1; show _ ≤ 601024; omega, by have := hcs.2; show _ ≤ 7293034; omega⟩ (fun H locs hM hS => ?_)
  refine lv_istore (lv' := [(6, .int v4), (5, .int kv), (0, .ref b), (1, .ref x), (2, .ref mm), (3, .ref out), (4, .int x4)]) hx hb dL_law_1885 hl (by decide) rfl (fun ls hl => ?_)
  refine lv_aload_n hx hb dL_law_1887 rfl (lv_at hl 4 rfl) ?_
  obtain ⟨v6, M5, h1, h⟩ := ob2 h
  obtain ⟨hk1, h1⟩ := ifg h1
  refine kV1 (ci := 5) (As := []) (rest := []) hC hE hS hM (mt_X5_thrown _ E mm _ _ _ h1) (gwV qw_1233 qw_1234 qw_1235 qw_103 qw_1236) ⟨rfl, rfl, (Nat.le_of_ble_eq_true rfl), (Nat.le_of_ble_eq_true rfl)⟩ dd_X5_thrown rfl hk1 rfl rfl hl.1 (Nat.le_of_ble_eq_true rfl) dL_law_1888 ⟨by have := hcs.1; show _ ≤ 601024; omega, by have := hcs.2; show _ ≤ 7293034; omega⟩ (fun H locs hM hS => ?_)
  refine lv_iload hx hb dL_law_1891 (lv_at hl 1 rfl) ?_
  refine lv_icmp_eq (tgt := 1898) hx hb dL_law_1893 (by decide) (fun c1 => ?_) (fun c1 => ?_)
  · have h := ifp c1 h
    refine lv_iload hx hb dL_law_1898 (lv_at hl 1 rfl) ?_
    refine lv_if_ne (tgt := 1915) hx hb dL_law_1900 (by decide) (fun c1 => ?_) (fun c1 => ?_)
    · have h := ifn c1 h
      refine lv_goto (tgt := 3228) hx hb dL_law_1915 (by decide) ?_
      cases h
      refine W.widen (k := cells + 60) (n := slots + 3000) (by omega) (by omega) ?_
      exact hk _ _ _ _ hP hM hS (lv_sub hl [2, 3, 4, 5, 6] rfl)
    · have h := ifp c1 h
      refine lv_aload_n hx hb dL_law_1903 rfl (lv_at hl 5 rfl) ?_
      refine lv_iconst (v := 0) hx hb dL_law_1904 (by decide) ?_
      obtain ⟨v7, h1, h⟩ := ob h
      refine r_lald hx hb hE hM h1 dL_law_1905 ?_
      refine lv_iload hx hb dL_law_1906 (lv_at hl 0 rfl) ?_
      refine lv_i2l (v := v4.toInt64) hx hb dL_law_1908 rfl ?_
      refine W.lcmp hx hb dL_law_1909 ?_
      refine lv_if_eq (tgt := 1915) hx hb dL_law_1910 (by decide) (fun c1 => ?_) (fun c1 => ?_)
      · have h := ifp c1 h
        refine lv_goto (tgt := 3228) hx hb dL_law_1915 (by decide) ?_
        cases h
        refine W.widen (k := cells + 60) (n := slots + 3000) (by omega) (by omega) ?_
        exact hk _ _ _ _ hP hM hS (lv_sub hl [2, 3, 4, 5, 6] rfl)
      · have h := ifn c1 h
        refine lv_iconst (v := 0) hx hb dL_law_1913 (by decide) ?_
        cases h
  · have h := ifn c1 h
    refine lv_iconst (v := 0) hx hb dL_law_1896 (by decide) ?_
    cases h

noncomputable def fr_law_28 (x mm out : Nat) (kv : Int32) (a1 : Int32) (M3 : Mem) : Option Mem :=
  bn (cK 6 mm M3 (f_X5_mergedValue mm a1 M3)) fun v4 M3 =>
  bn (cK 6 mm M3 (f_X5_thrown mm M3)) fun v6 M5 =>
  (if v6 = kv then
  (if kv = 0 then
  (gL out 0 M5).bind fun v7 =>
  (if (lg_cmp v7 v4.toInt64) = 0 then
  some M5
  else
  none)
  else
  some M5)
  else
  none)
/-- case 28: the wrapped call, and what follows it wherever the next address lies -/
def fk_law_28 (x mm out : Nat) (a1 : Int32) (M : Mem) (P : Mem → Prop) : Prop := ∃ kv M1, f_L_mergedValue x a1 out M = some (kv, M1) ∧ ∀ z, wfz (setZ M1 z) → ∃ M2, fr_law_28 x mm out kv a1 (setZ M1 z) = some M2 ∧ P M2
set_option maxHeartbeats 4000000 in
set_option maxRecDepth 100000 in
theorem lc_28 {p : Program} {l : Launch} {e : Env} {s : State} {m : MethodId} {args : Array Value} {below : List Frame} {meth : Method} {c : Code} {E : KEnv} {H : Heap} {locs : List Loc} {ls : Array Slot} {cells slots : Nat} {Q : State → Prop} {M : Mem} {P : Mem → Prop} {b L x mm out : Nat} {xs : Nat → Int32} {x4 a1 : Int32} (hfl : l.stackTraces = false) (hC : CallFix p m c code 9 s args lw_G RL) (hE : EnvOK E s) (hX : va_X b L xs s s.heap) (hbl : b < s.heap.size) (hbA : ¬ eA E b) (hin1 : vp_in (x4 + 1) L) (ha1 : xs (x4 + 1).toNatClampNeg = a1) (hcs : cells + 60 ≤ 601024 ∧ slots + 3000 ≤ 7293034) (hM : MOK E M H) (hS : va_S (eA E) s.heap H locs) (hl : lv_has ls 9 [(0, .ref b), (1, .ref x), (2, .ref mm), (3, .ref out), (4, .int x4)]) (h : fk_law_28 x mm out a1 M P)
    (hk : ∀ (M2 : Mem) (H : Heap) (locs : List Loc) (ls : Array Slot), P M2 → MOK E M2 H → va_S (eA E) s.heap H locs → lv_has ls 9 [(0, .ref b), (1, .ref x), (2, .ref mm), (3, .ref out), (4, .int x4)] → W p l e room_1 s m args below meth c H locs (cells + 60) (slots + 3000) Q (F0 m 3228 ls [])) : W p l e room_1 s m args below meth c H locs cells slots Q (F0 m 1918 ls []) := by
  obtain ⟨hx, hb, hml, hown, hts⟩ := id hC
  refine lv_aload_n hx hb dL_law_1918 rfl (lv_at hl 1 rfl) ?_
  refine lv_aload_n hx hb dL_law_1919 rfl (lv_at hl 0 rfl) ?_
  refine lv_iload hx hb dL_law_1920 (lv_at hl 4 rfl) ?_
  refine lv_iconst (v := 1) hx hb dL_law_1922 (by decide) ?_
  refine lv_iadd hx hb dL_law_1923 ?_
  refine rsl hx hb hX hbl hbA hS hin1 ha1 dL_law_1924 ?_
  refine lv_aload_n hx hb dL_law_1925 rfl (lv_at hl 3 rfl) ?_
  obtain ⟨kv, M1, h1, h⟩ := h
  refine kSW (As := [.ref x, .int a1, .ref out]) (rest := []) hC hE hS hM (mt_L_mergedValue _ hfl E x a1 out _ _ _ h1) (gwSW qw_921 qw_922 qw_91 qz_L_mergedValue) ⟨rfl, rfl, (Nat.le_of_ble_eq_true rfl), (Nat.le_of_ble_eq_true rfl)⟩ dd_L_mergedValue rfl rfl hl.1 (Nat.le_of_ble_eq_true rfl) dL_law_1926 ⟨by have := hcs.1; show _ ≤ 601024; omega, by have := hcs.2; show _ ≤ 7293034; omega⟩ (fun z H locs hM hS => ?_)
  obtain ⟨M2, h, hP⟩ := h z (wfz_of hM)
  unfold fr_law_28 at h
  generalize setZ M1 z = M3 at h hM
  refine lv_istore (lv' := [(5, .int kv), (0, .ref b), (1, .ref x), (2, .ref mm), (3, .ref out), (4, .int x4)]) hx hb dL_law_1929 hl (by decide) rfl (fun ls hl => ?_)
  refine lv_aload_n hx hb dL_law_1931 rfl (lv_at hl 3 rfl) ?_
  refine lv_aload_n hx hb dL_law_1932 rfl (lv_at hl 1 rfl) ?_
  refine lv_iload hx hb dL_law_1933 (lv_at hl 5 rfl) ?_
  refine lv_iconst (v := 1) hx hb dL_law_1935 (by decide) ?_
  refine lv_iadd hx hb dL_law_1936 ?_
  refine rsl hx hb hX hbl hbA hS hin1 ha1 dL_law_1937 ?_
  obtain ⟨v4, M3, h1, h⟩ := ob2 h
  obtain ⟨hk1, h1⟩ := ifg h1
  refine kV1 (ci := 5) (As := [.int a1]) (rest := []) hC hE hS hM (mt_X5_mergedValue _ E mm a1 _ _ _ h1) (gwV qw_1489 qw_1490 qw_1491 qw_103 qw_1492) ⟨rfl, rfl, (Nat.le_of_ble_eq_true rfl), (Nat.le_of_ble_eq_true rfl)⟩ dd_X5_mergedValue rfl hk1 rfl rfl hl.1 (Nat.le_of_ble_eq_true rfl) dL_law_1938 ⟨by have := hcs.1; show _ ≤ 601024; omega, by have := hcs.2; show _ ≤ 7293034; omega⟩ (fun H locs hM hS => ?_)
  refine lv_istore (lv' := [(6, .int v4), (5, .int kv), (0, .ref b), (1, .ref x), (2, .ref mm), (3, .ref out), (4, .int x4)]) hx hb dL_law_1941 hl (by decide) rfl (fun ls hl => ?_)
  refine lv_aload_n hx hb dL_law_1943 rfl (lv_at hl 4 rfl) ?_
  obtain ⟨v6, M5, h1, h⟩ := ob2 h
  obtain ⟨hk1, h1⟩ := ifg h1
  refine kV1 (ci := 5) (As := []) (rest := []) hC hE hS hM (mt_X5_thrown _ E mm _ _ _ h1) (gwV qw_1233 qw_1234 qw_1235 qw_103 qw_1236) ⟨rfl, rfl, (Nat.le_of_ble_eq_true rfl), (Nat.le_of_ble_eq_true rfl)⟩ dd_X5_thrown rfl hk1 rfl rfl hl.1 (Nat.le_of_ble_eq_true rfl) dL_law_1944 ⟨by have := hcs.1; show _ ≤ 601024; omega, by have := hcs.2; show _ ≤ 7293034; omega⟩ (fun H locs hM hS => ?_)
  refine lv_iload hx hb dL_law_1947 (lv_at hl 1 rfl) ?_
  refine lv_icmp_eq (tgt := 1954) hx hb dL_law_1949 (by decide) (fun c1 => ?_) (fun c1 => ?_)
  · have h := ifp c1 h
    refine lv_iload hx hb dL_law_1954 (lv_at hl 1 rfl) ?_
    refine lv_if_ne (tgt := 1971) hx hb dL_law_1956 (by decide) (fun c1 => ?_) (fun c1 => ?_)
    · have h := ifn c1 h
      refine lv_goto (tgt := 3228) hx hb dL_law_1971 (by decide) ?_
      cases h
      refine W.widen (k := cells + 60) (n := slots + 3000) (by omega) (by omega) ?_
      exact hk _ _ _ _ hP hM hS (lv_sub hl [2, 3, 4, 5, 6] rfl)
    · have h := ifp c1 h
      refine lv_aload_n hx hb dL_law_1959 rfl (lv_at hl 5 rfl) ?_
      refine lv_iconst (v := 0) hx hb dL_law_1960 (by decide) ?_
      obtain ⟨v7, h1, h⟩ := ob h
      refine r_lald hx hb hE hM h1 dL_law_1961 ?_
      refine lv_iload hx hb dL_law_1962 (lv_at hl 0 rfl) ?_
      refine lv_i2l (v := v4.toInt64) hx hb dL_law_1964 rfl ?_
      refine W.lcmp hx hb dL_law_1965 ?_
      refine lv_if_eq (tgt := 1971) hx hb dL_law_1966 (by decide) (fun c1 => ?_) (fun c1 => ?_)
      · have h := ifp c1 h
        refine lv_goto (tgt := 3228) hx hb dL_law_1971 (by decide) ?_
        cases h
        refine W.widen (k := cells + 60) (n := slots + 3000) (by omega) (by omega) ?_
        exact hk _ _ _ _ hP hM hS (lv_sub hl [2, 3, 4, 5, 6] rfl)
      · have h := ifn c1 h
        refine lv_iconst (v := 0) hx hb dL_law_1969 (by decide) ?_
        cases h
  · have h := ifn c1 h
    refine lv_iconst (v := 0) hx hb dL_law_1952 (by decide) ?_
    cases h

noncomputable def fr_law_29 (x mm out : Nat) (M : Mem) : Option Mem :=
  bn (cK 5 x M (f_X4_mergedTags x M)) fun v2 M1 =>
  bn (cK 6 mm M1 (f_X5_mergedTags mm M1)) fun v4 M3 =>
  (if v2 = v4 then
  some M3
  else
  none)
/-- case 29 -/
def fk_law_29 (x mm out : Nat) (M : Mem) (P : Mem → Prop) : Prop := ∃ M2, fr_law_29 x mm out M = some M2 ∧ P M2
set_option maxHeartbeats 4000000 in
set_option maxRecDepth 100000 in
theorem lc_29 {p : Program} {l : Launch} {e : Env} {s : State} {m : MethodId} {args : Array Value} {below : List Frame} {meth : Method} {c : Code} {E : KEnv} {H : Heap} {locs : List Loc} {ls : Array Slot} {cells slots : Nat} {Q : State → Prop} {M : Mem} {P : Mem → Prop} {b L x mm out : Nat} {xs : Nat → Int32} {x4 : Int32} (hfl : l.stackTraces = false) (hC : CallFix p m c code 9 s args lw_G RL) (hE : EnvOK E s) (hX : va_X b L xs s s.heap) (hbl : b < s.heap.size) (hbA : ¬ eA E b) (hcs : cells + 60 ≤ 601024 ∧ slots + 3000 ≤ 7293034) (hM : MOK E M H) (hS : va_S (eA E) s.heap H locs) (hl : lv_has ls 9 [(0, .ref b), (1, .ref x), (2, .ref mm), (3, .ref out), (4, .int x4)]) (h : fk_law_29 x mm out M P)
    (hk : ∀ (M2 : Mem) (H : Heap) (locs : List Loc) (ls : Array Slot), P M2 → MOK E M2 H → va_S (eA E) s.heap H locs → lv_has ls 9 [(0, .ref b), (1, .ref x), (2, .ref mm), (3, .ref out), (4, .int x4)] → W p l e room_1 s m args below meth c H locs (cells + 60) (slots + 3000) Q (F0 m 3228 ls [])) : W p l e room_1 s m args below meth c H locs cells slots Q (F0 m 1974 ls []) := by
  obtain ⟨hx, hb, hml, hown, hts⟩ := id hC
  obtain ⟨M2, h, hP⟩ := h
  unfold fr_law_29 at h
  refine lv_aload_n hx hb dL_law_1974 rfl (lv_at hl 1 rfl) ?_
  obtain ⟨v2, M1, h1, h⟩ := ob2 h
  obtain ⟨hk1, h1⟩ := ifg h1
  refine kV1 (ci := 4) (As := []) (rest := []) hC hE hS hM (mt_X4_mergedTags _ E x _ _ _ h1) (gwV qw_516 qw_517 qw_518 qw_92 qw_519) ⟨rfl, rfl, (Nat.le_of_ble_eq_true rfl), (Nat.le_of_ble_eq_true rfl)⟩ dd_X4_mergedTags rfl hk1 rfl rfl hl.1 (Nat.le_of_ble_eq_true rfl) dL_law_1975 ⟨by have := hcs.1; show _ ≤ 601024; omega, by have := hcs.2; show _ ≤ 7293034; omega⟩ (fun H locs hM hS => ?_)
  refine lv_aload_n hx hb dL_law_1978 rfl (lv_at hl 2 rfl) ?_
  obtain ⟨v4, M3, h1, h⟩ := ob2 h
  obtain ⟨hk1, h1⟩ := ifg h1
  refine kV1 (ci := 5) (As := []) (rest := [.int v2]) hC hE hS hM (mt_X5_mergedTags _ E mm _ _ _ h1) (gwV qw_1497 qw_1498 qw_1499 qw_103 qw_1500) ⟨rfl, rfl, (Nat.le_of_ble_eq_true rfl), (Nat.le_of_ble_eq_true rfl)⟩ dd_X5_mergedTags rfl hk1 rfl rfl hl.1 (Nat.le_of_ble_eq_true rfl) dL_law_1979 ⟨by have := hcs.1; show _ ≤ 601024; omega, by have := hcs.2; show _ ≤ 7293034; omega⟩ (fun H locs hM hS => ?_)
  refine lv_icmp_eq (tgt := 3228) hx hb dL_law_1982 (by decide) (fun c1 => ?_) (fun c1 => ?_)
  · have h := ifp c1 h
    cases h
    refine W.widen (k := cells + 60) (n := slots + 3000) (by omega) (by omega) ?_
    exact hk _ _ _ _ hP hM hS (lv_sub hl [0, 1, 2, 3, 4] rfl)
  · have h := ifn c1 h
    refine lv_iconst (v := 0) hx hb dL_law_1985 (by decide) ?_
    cases h

noncomputable def fr_law_30 (x mm out : Nat) (M : Mem) : Option Mem :=
  bn (cK 5 x M (f_X4_mergedConflicts x M)) fun v2 M1 =>
  bn (cK 6 mm M1 (f_X5_mergedConflicts mm M1)) fun v4 M3 =>
  (if v2 = v4 then
  some M3
  else
  none)
/-- case 30 -/
def fk_law_30 (x mm out : Nat) (M : Mem) (P : Mem → Prop) : Prop := ∃ M2, fr_law_30 x mm out M = some M2 ∧ P M2
set_option maxHeartbeats 4000000 in
set_option maxRecDepth 100000 in
theorem lc_30 {p : Program} {l : Launch} {e : Env} {s : State} {m : MethodId} {args : Array Value} {below : List Frame} {meth : Method} {c : Code} {E : KEnv} {H : Heap} {locs : List Loc} {ls : Array Slot} {cells slots : Nat} {Q : State → Prop} {M : Mem} {P : Mem → Prop} {b L x mm out : Nat} {xs : Nat → Int32} {x4 : Int32} (hfl : l.stackTraces = false) (hC : CallFix p m c code 9 s args lw_G RL) (hE : EnvOK E s) (hX : va_X b L xs s s.heap) (hbl : b < s.heap.size) (hbA : ¬ eA E b) (hcs : cells + 60 ≤ 601024 ∧ slots + 3000 ≤ 7293034) (hM : MOK E M H) (hS : va_S (eA E) s.heap H locs) (hl : lv_has ls 9 [(0, .ref b), (1, .ref x), (2, .ref mm), (3, .ref out), (4, .int x4)]) (h : fk_law_30 x mm out M P)
    (hk : ∀ (M2 : Mem) (H : Heap) (locs : List Loc) (ls : Array Slot), P M2 → MOK E M2 H → va_S (eA E) s.heap H locs → lv_has ls 9 [(0, .ref b), (1, .ref x), (2, .ref mm), (3, .ref out), (4, .int x4)] → W p l e room_1 s m args below meth c H locs (cells + 60) (slots + 3000) Q (F0 m 3228 ls [])) : W p l e room_1 s m args below meth c H locs cells slots Q (F0 m 1987 ls []) := by
  obtain ⟨hx, hb, hml, hown, hts⟩ := id hC
  obtain ⟨M2, h, hP⟩ := h
  unfold fr_law_30 at h
  refine lv_aload_n hx hb dL_law_1987 rfl (lv_at hl 1 rfl) ?_
  obtain ⟨v2, M1, h1, h⟩ := ob2 h
  obtain ⟨hk1, h1⟩ := ifg h1
  refine kV1 (ci := 4) (As := []) (rest := []) hC hE hS hM (mt_X4_mergedConflicts _ E x _ _ _ h1) (gwV qw_531 qw_532 qw_533 qw_92 qw_534) ⟨rfl, rfl, (Nat.le_of_ble_eq_true rfl), (Nat.le_of_ble_eq_true rfl)⟩ dd_X4_mergedConflicts rfl hk1 rfl rfl hl.1 (Nat.le_of_ble_eq_true rfl) dL_law_1988 ⟨by have := hcs.1; show _ ≤ 601024; omega, by have := hcs.2; show _ ≤ 7293034; omega⟩ (fun H locs hM hS => ?_)
  refine lv_aload_n hx hb dL_law_1991 rfl (lv_at hl 2 rfl) ?_
  obtain ⟨v4, M3, h1, h⟩ := ob2 h
  obtain ⟨hk1, h1⟩ := ifg h1
  refine kV1 (ci := 5) (As := []) (rest := [.int v2]) hC hE hS hM (mt_X5_mergedConflicts _ E mm _ _ _ h1) (gwV qw_1501 qw_1502 qw_1503 qw_103 qw_1504) ⟨rfl, rfl, (Nat.le_of_ble_eq_true rfl), (Nat.le_of_ble_eq_true rfl)⟩ dd_X5_mergedConflicts rfl hk1 rfl rfl hl.1 (Nat.le_of_ble_eq_true rfl) dL_law_1992 ⟨by have := hcs.1; show _ ≤ 601024; omega, by have := hcs.2; show _ ≤ 7293034; omega⟩ (fun H locs hM hS => ?_)
  refine lv_icmp_eq (tgt := 3228) hx hb dL_law_1995 (by decide) (fun c1 => ?_) (fun c1 => ?_)
  · have h := ifp c1 h
    cases h
    refine W.widen (k := cells + 60) (n := slots + 3000) (by omega) (by omega) ?_
    exact hk _ _ _ _ hP hM hS (lv_sub hl [0, 1, 2, 3, 4] rfl)
  · have h := ifn c1 h
    refine lv_iconst (v := 0) hx hb dL_law_1998 (by decide) ?_
    cases h

noncomputable def fr_law_31 (x mm out : Nat) (M : Mem) : Option Mem :=
  bn (cK 5 x M (f_X4_convergenceErrors x M)) fun v2 M1 =>
  bn (cK 6 mm M1 (f_X5_convergenceErrors mm M1)) fun v4 M3 =>
  (if v2 = v4 then
  some M3
  else
  none)
/-- case 31 -/
def fk_law_31 (x mm out : Nat) (M : Mem) (P : Mem → Prop) : Prop := ∃ M2, fr_law_31 x mm out M = some M2 ∧ P M2
set_option maxHeartbeats 4000000 in
set_option maxRecDepth 100000 in
theorem lc_31 {p : Program} {l : Launch} {e : Env} {s : State} {m : MethodId} {args : Array Value} {below : List Frame} {meth : Method} {c : Code} {E : KEnv} {H : Heap} {locs : List Loc} {ls : Array Slot} {cells slots : Nat} {Q : State → Prop} {M : Mem} {P : Mem → Prop} {b L x mm out : Nat} {xs : Nat → Int32} {x4 : Int32} (hfl : l.stackTraces = false) (hC : CallFix p m c code 9 s args lw_G RL) (hE : EnvOK E s) (hX : va_X b L xs s s.heap) (hbl : b < s.heap.size) (hbA : ¬ eA E b) (hcs : cells + 60 ≤ 601024 ∧ slots + 3000 ≤ 7293034) (hM : MOK E M H) (hS : va_S (eA E) s.heap H locs) (hl : lv_has ls 9 [(0, .ref b), (1, .ref x), (2, .ref mm), (3, .ref out), (4, .int x4)]) (h : fk_law_31 x mm out M P)
    (hk : ∀ (M2 : Mem) (H : Heap) (locs : List Loc) (ls : Array Slot), P M2 → MOK E M2 H → va_S (eA E) s.heap H locs → lv_has ls 9 [(0, .ref b), (1, .ref x), (2, .ref mm), (3, .ref out), (4, .int x4)] → W p l e room_1 s m args below meth c H locs (cells + 60) (slots + 3000) Q (F0 m 3228 ls [])) : W p l e room_1 s m args below meth c H locs cells slots Q (F0 m 2000 ls []) := by
  obtain ⟨hx, hb, hml, hown, hts⟩ := id hC
  obtain ⟨M2, h, hP⟩ := h
  unfold fr_law_31 at h
  refine lv_aload_n hx hb dL_law_2000 rfl (lv_at hl 1 rfl) ?_
  obtain ⟨v2, M1, h1, h⟩ := ob2 h
  obtain ⟨hk1, h1⟩ := ifg h1
  refine kV1 (ci := 4) (As := []) (rest := []) hC hE hS hM (mt_X4_convergenceErrors _ E x _ _ _ h1) (gwV qw_543 qw_544 qw_545 qw_92 qw_546) ⟨rfl, rfl, (Nat.le_of_ble_eq_true rfl), (Nat.le_of_ble_eq_true rfl)⟩ dd_X4_convergenceErrors rfl hk1 rfl rfl hl.1 (Nat.le_of_ble_eq_true rfl) dL_law_2001 ⟨by have := hcs.1; show _ ≤ 601024; omega, by have := hcs.2; show _ ≤ 7293034; omega⟩ (fun H locs hM hS => ?_)
  refine lv_aload_n hx hb dL_law_2004 rfl (lv_at hl 2 rfl) ?_
  obtain ⟨v4, M3, h1, h⟩ := ob2 h
  obtain ⟨hk1, h1⟩ := ifg h1
  refine kV1 (ci := 5) (As := []) (rest := [.int v2]) hC hE hS hM (mt_X5_convergenceErrors _ E mm _ _ _ h1) (gwV qw_1505 qw_1506 qw_1507 qw_103 qw_1508) ⟨rfl, rfl, (Nat.le_of_ble_eq_true rfl), (Nat.le_of_ble_eq_true rfl)⟩ dd_X5_convergenceErrors rfl hk1 rfl rfl hl.1 (Nat.le_of_ble_eq_true rfl) dL_law_2005 ⟨by have := hcs.1; show _ ≤ 601024; omega, by have := hcs.2; show _ ≤ 7293034; omega⟩ (fun H locs hM hS => ?_)
  refine lv_icmp_eq (tgt := 3228) hx hb dL_law_2008 (by decide) (fun c1 => ?_) (fun c1 => ?_)
  · have h := ifp c1 h
    cases h
    refine W.widen (k := cells + 60) (n := slots + 3000) (by omega) (by omega) ?_
    exact hk _ _ _ _ hP hM hS (lv_sub hl [0, 1, 2, 3, 4] rfl)
  · have h := ifn c1 h
    refine lv_iconst (v := 0) hx hb dL_law_2011 (by decide) ?_
    cases h

noncomputable def fr_law_32 (x mm out : Nat) (M : Mem) : Option Mem :=
  bn (cK 5 x M (f_X4_meanTags x M)) fun v2 M1 =>
  bn (cK 6 mm M1 (f_X5_meanTags mm M1)) fun v4 M3 =>
  (if (Op.cmpValue (FP.dcmp v2 v4) CmpOp.l) = 0 then
  some M3
  else
  (if (Op.cmpValue (FP.dcmp v2 v2) CmpOp.l) = 0 then
  none
  else
  (if (Op.cmpValue (FP.dcmp v4 v4) CmpOp.l) = 0 then
  none
  else
  some M3)))
/-- case 32 -/
def fk_law_32 (x mm out : Nat) (M : Mem) (P : Mem → Prop) : Prop := ∃ M2, fr_law_32 x mm out M = some M2 ∧ P M2
set_option maxHeartbeats 4000000 in
set_option maxRecDepth 100000 in
theorem lc_32 {p : Program} {l : Launch} {e : Env} {s : State} {m : MethodId} {args : Array Value} {below : List Frame} {meth : Method} {c : Code} {E : KEnv} {H : Heap} {locs : List Loc} {ls : Array Slot} {cells slots : Nat} {Q : State → Prop} {M : Mem} {P : Mem → Prop} {b L x mm out : Nat} {xs : Nat → Int32} {x4 : Int32} (hfl : l.stackTraces = false) (hC : CallFix p m c code 9 s args lw_G RL) (hE : EnvOK E s) (hX : va_X b L xs s s.heap) (hbl : b < s.heap.size) (hbA : ¬ eA E b) (hcs : cells + 60 ≤ 601024 ∧ slots + 3000 ≤ 7293034) (hM : MOK E M H) (hS : va_S (eA E) s.heap H locs) (hl : lv_has ls 9 [(0, .ref b), (1, .ref x), (2, .ref mm), (3, .ref out), (4, .int x4)]) (h : fk_law_32 x mm out M P)
    (hk : ∀ (M2 : Mem) (H : Heap) (locs : List Loc) (ls : Array Slot), P M2 → MOK E M2 H → va_S (eA E) s.heap H locs → lv_has ls 9 [(0, .ref b), (1, .ref x), (2, .ref mm), (3, .ref out), (4, .int x4)] → W p l e room_1 s m args below meth c H locs (cells + 60) (slots + 3000) Q (F0 m 3228 ls [])) : W p l e room_1 s m args below meth c H locs cells slots Q (F0 m 2013 ls []) := by
  obtain ⟨hx, hb, hml, hown, hts⟩ := id hC
  obtain ⟨M2, h, hP⟩ := h
  unfold fr_law_32 at h
  refine lv_aload_n hx hb dL_law_2013 rfl (lv_at hl 1 rfl) ?_
  obtain ⟨v2, M1, h1, h⟩ := ob2 h
  obtain ⟨hk1, h1⟩ := ifg h1
  refine kV1 (ci := 4) (As := []) (rest := []) hC hE hS hM (mt_X4_meanTags _ E x _ _ _ h1) (gwV qw_547 qw_548 qw_549 qw_92 qw_550) ⟨rfl, rfl, (Nat.le_of_ble_eq_true rfl), (Nat.le_of_ble_eq_true rfl)⟩ dd_X4_meanTags rfl hk1 rfl rfl hl.1 (Nat.le_of_ble_eq_true rfl) dL_law_2014 ⟨by have := hcs.1; show _ ≤ 601024; omega, by have := hcs.2; show _ ≤ 7293034; omega⟩ (fun H locs hM hS => ?_)
  refine lv_dstore (lv' := [(5, .double v2), (0, .ref b), (1, .ref x), (2, .ref mm), (3, .ref out), (4, .int x4)]) hx hb dL_law_2017 hl (by decide) rfl (fun ls hl => ?_)
  refine lv_aload_n hx hb dL_law_2019 rfl (lv_at hl 3 rfl) ?_
  obtain ⟨v4, M3, h1, h⟩ := ob2 h
  obtain ⟨hk1, h1⟩ := ifg h1
  refine kV1 (ci := 5) (As := []) (rest := []) hC hE hS hM (mt_X5_meanTags _ E mm _ _ _ h1) (gwV qw_1513 qw_1514 qw_1515 qw_103 qw_1516) ⟨rfl, rfl, (Nat.le_of_ble_eq_true rfl), (Nat.le_of_ble_eq_true rfl)⟩ dd_X5_meanTags rfl hk1 rfl rfl hl.1 (Nat.le_of_ble_eq_true rfl) dL_law_2020 ⟨by have := hcs.1; show _ ≤ 601024; omega, by have := hcs.2; show _ ≤ 7293034; omega⟩ (fun H locs hM hS => ?_)
  refine lv_dstore (lv' := [(7, .double v4), (5, .double v2), (0, .ref b), (1, .ref x), (2, .ref mm), (3, .ref out), (4, .int x4)]) hx hb dL_law_2023 hl (by decide) rfl (fun ls hl => ?_)
  refine lv_dload hx hb dL_law_2025 (lv_at hl 1 rfl) ?_
  refine lv_dload hx hb dL_law_2027 (lv_at hl 0 rfl) ?_
  refine lv_dcmp hx hb dL_law_2029 ?_
  refine lv_if_eq (tgt := 2051) hx hb dL_law_2030 (by decide) (fun c1 => ?_) (fun c1 => ?_)
  · have h := ifp c1 h
    refine lv_goto (tgt := 3228) hx hb dL_law_2051 (by decide) ?_
    cases h
    refine W.widen (k := cells + 60) (n := slots + 3000) (by omega) (by omega) ?_
    exact hk _ _ _ _ hP hM hS (lv_sub hl [2, 3, 4, 5, 6] rfl)
  · have h := ifn c1 h
    refine lv_dload hx hb dL_law_2033 (lv_at hl 1 rfl) ?_
    refine lv_dload hx hb dL_law_2035 (lv_at hl 1 rfl) ?_
    refine lv_dcmp hx hb dL_law_2037 ?_
    refine lv_if_eq (tgt := 2049) hx hb dL_law_2038 (by decide) (fun c1 => ?_) (fun c1 => ?_)
    · have h := ifp c1 h
      refine lv_iconst (v := 0) hx hb dL_law_2049 (by decide) ?_
      cases h
    · have h := ifn c1 h
      refine lv_dload hx hb dL_law_2041 (lv_at hl 0 rfl) ?_
      refine lv_dload hx hb dL_law_2043 (lv_at hl 0 rfl) ?_
      refine lv_dcmp hx hb dL_law_2045 ?_
      refine lv_if_ne (tgt := 2051) hx hb dL_law_2046 (by decide) (fun c1 => ?_) (fun c1 => ?_)
      · have h := ifn c1 h
        refine lv_goto (tgt := 3228) hx hb dL_law_2051 (by decide) ?_
        cases h
        refine W.widen (k := cells + 60) (n := slots + 3000) (by omega) (by omega) ?_
        exact hk _ _ _ _ hP hM hS (lv_sub hl [2, 3, 4, 5, 6] rfl)
      · have h := ifp c1 h
        refine lv_iconst (v := 0) hx hb dL_law_2049 (by decide) ?_
        cases h

noncomputable def fr_law_33 (x mm out : Nat) (M : Mem) : Option Mem :=
  bn (cK 5 x M (f_X4_completeShare x M)) fun v2 M1 =>
  (nd (FP.f2d v2)).bind fun v3 =>
  bn (cK 6 mm M1 (f_X5_completeShare mm M1)) fun v5 M4 =>
  (nd (FP.f2d v5)).bind fun v6 =>
  (if (Op.cmpValue (FP.dcmp v3 v6) CmpOp.l) = 0 then
  some M4
  else
  (if (Op.cmpValue (FP.dcmp v3 v3) CmpOp.l) = 0 then
  none
  else
  (if (Op.cmpValue (FP.dcmp v6 v6) CmpOp.l) = 0 then
  none
  else
  some M4)))
/-- case 33 -/
def fk_law_33 (x mm out : Nat) (M : Mem) (P : Mem → Prop) : Prop := ∃ M2, fr_law_33 x mm out M = some M2 ∧ P M2
set_option maxHeartbeats 4000000 in
set_option maxRecDepth 100000 in
theorem lc_33 {p : Program} {l : Launch} {e : Env} {s : State} {m : MethodId} {args : Array Value} {below : List Frame} {meth : Method} {c : Code} {E : KEnv} {H : Heap} {locs : List Loc} {ls : Array Slot} {cells slots : Nat} {Q : State → Prop} {M : Mem} {P : Mem → Prop} {b L x mm out : Nat} {xs : Nat → Int32} {x4 : Int32} (hfl : l.stackTraces = false) (hC : CallFix p m c code 9 s args lw_G RL) (hE : EnvOK E s) (hX : va_X b L xs s s.heap) (hbl : b < s.heap.size) (hbA : ¬ eA E b) (hcs : cells + 60 ≤ 601024 ∧ slots + 3000 ≤ 7293034) (hM : MOK E M H) (hS : va_S (eA E) s.heap H locs) (hl : lv_has ls 9 [(0, .ref b), (1, .ref x), (2, .ref mm), (3, .ref out), (4, .int x4)]) (h : fk_law_33 x mm out M P)
    (hk : ∀ (M2 : Mem) (H : Heap) (locs : List Loc) (ls : Array Slot), P M2 → MOK E M2 H → va_S (eA E) s.heap H locs → lv_has ls 9 [(0, .ref b), (1, .ref x), (2, .ref mm), (3, .ref out), (4, .int x4)] → W p l e room_1 s m args below meth c H locs (cells + 60) (slots + 3000) Q (F0 m 3228 ls [])) : W p l e room_1 s m args below meth c H locs cells slots Q (F0 m 2054 ls []) := by
  obtain ⟨hx, hb, hml, hown, hts⟩ := id hC
  obtain ⟨M2, h, hP⟩ := h
  unfold fr_law_33 at h
  refine lv_aload_n hx hb dL_law_2054 rfl (lv_at hl 1 rfl) ?_
  obtain ⟨v2, M1, h1, h⟩ := ob2 h
  obtain ⟨hk1, h1⟩ := ifg h1
  refine kV1 (ci := 4) (As := []) (rest := []) hC hE hS hM (mt_X4_completeShare _ E x _ _ _ h1) (gwV qw_551 qw_552 qw_553 qw_92 qw_554) ⟨rfl, rfl, (Nat.le_of_ble_eq_true rfl), (Nat.le_of_ble_eq_true rfl)⟩ dd_X4_completeShare rfl hk1 rfl rfl hl.1 (Nat.le_of_ble_eq_true rfl) dL_law_2055 ⟨by have := hcs.1; show _ ≤ 601024; omega, by have := hcs.2; show _ ≤ 7293034; omega⟩ (fun H locs hM hS => ?_)
  obtain ⟨v3, h1, h⟩ := ob h
  obtain ⟨hn, e1⟩ := ifs h1
  refine lv_f2d hx hb dL_law_2058 hn ?_
  rw [← e1]
  refine lv_dstore (lv' := [(5, .double v3), (0, .ref b), (1, .ref x), (2, .ref mm), (3, .ref out), (4, .int x4)]) hx hb dL_law_2059 hl (by decide) rfl (fun ls hl => ?_)
  refine lv_aload_n hx hb dL_law_2061 rfl (lv_at hl 3 rfl) ?_
  obtain ⟨v5, M4, h1, h⟩ := ob2 h
  obtain ⟨hk1, h1⟩ := ifg h1
  refine kV1 (ci := 5) (As := []) (rest := []) hC hE hS hM (mt_X5_completeShare _ E mm _ _ _ h1) (gwV qw_1517 qw_1518 qw_1519 qw_103 qw_1520) ⟨rfl, rfl, (Nat.le_of_ble_eq_true rfl), (Nat.le_of_ble_eq_true rfl)⟩ dd_X5_completeShare rfl hk1 rfl rfl hl.1 (Nat.le_of_ble_eq_true rfl) dL_law_2062 ⟨by have := hcs.1; show _ ≤ 601024; omega, by have := hcs.2; show _ ≤ 7293034; omega⟩ (fun H locs hM hS => ?_)
  obtain ⟨v6, h1, h⟩ := ob h
  obtain ⟨hn, e1⟩ := ifs h1
  refine lv_f2d hx hb dL_law_2065 hn ?_
  rw [← e1]
  refine lv_dstore (lv' := [(7, .double v6), (5, .double v3), (0, .ref b), (1, .ref x), (2, .ref mm), (3, .ref out), (4, .int x4)]) hx hb dL_law_2066 hl (by decide) rfl (fun ls hl => ?_)
  refine lv_dload hx hb dL_law_2068 (lv_at hl 1 rfl) ?_
  refine lv_dload hx hb dL_law_2070 (lv_at hl 0 rfl) ?_
  refine lv_dcmp hx hb dL_law_2072 ?_
  refine lv_if_eq (tgt := 2094) hx hb dL_law_2073 (by decide) (fun c1 => ?_) (fun c1 => ?_)
  · have h := ifp c1 h
    refine lv_goto (tgt := 3228) hx hb dL_law_2094 (by decide) ?_
    cases h
    refine W.widen (k := cells + 60) (n := slots + 3000) (by omega) (by omega) ?_
    exact hk _ _ _ _ hP hM hS (lv_sub hl [2, 3, 4, 5, 6] rfl)
  · have h := ifn c1 h
    refine lv_dload hx hb dL_law_2076 (lv_at hl 1 rfl) ?_
    refine lv_dload hx hb dL_law_2078 (lv_at hl 1 rfl) ?_
    refine lv_dcmp hx hb dL_law_2080 ?_
    refine lv_if_eq (tgt := 2092) hx hb dL_law_2081 (by decide) (fun c1 => ?_) (fun c1 => ?_)
    · have h := ifp c1 h
      refine lv_iconst (v := 0) hx hb dL_law_2092 (by decide) ?_
      cases h
    · have h := ifn c1 h
      refine lv_dload hx hb dL_law_2084 (lv_at hl 0 rfl) ?_
      refine lv_dload hx hb dL_law_2086 (lv_at hl 0 rfl) ?_
      refine lv_dcmp hx hb dL_law_2088 ?_
      refine lv_if_ne (tgt := 2094) hx hb dL_law_2089 (by decide) (fun c1 => ?_) (fun c1 => ?_)
      · have h := ifn c1 h
        refine lv_goto (tgt := 3228) hx hb dL_law_2094 (by decide) ?_
        cases h
        refine W.widen (k := cells + 60) (n := slots + 3000) (by omega) (by omega) ?_
        exact hk _ _ _ _ hP hM hS (lv_sub hl [2, 3, 4, 5, 6] rfl)
      · have h := ifp c1 h
        refine lv_iconst (v := 0) hx hb dL_law_2092 (by decide) ?_
        cases h

noncomputable def fr_law_34 (x mm out : Nat) (M : Mem) : Option Mem :=
  bn (cK 5 x M (f_X4_messageCount x M)) fun v2 M1 =>
  bn (cK 6 mm M1 (f_X5_messageCount mm M1)) fun v4 M3 =>
  (if v2 = v4 then
  some M3
  else
  none)
/-- case 34 -/
def fk_law_34 (x mm out : Nat) (M : Mem) (P : Mem → Prop) : Prop := ∃ M2, fr_law_34 x mm out M = some M2 ∧ P M2
set_option maxHeartbeats 4000000 in
set_option maxRecDepth 100000 in
theorem lc_34 {p : Program} {l : Launch} {e : Env} {s : State} {m : MethodId} {args : Array Value} {below : List Frame} {meth : Method} {c : Code} {E : KEnv} {H : Heap} {locs : List Loc} {ls : Array Slot} {cells slots : Nat} {Q : State → Prop} {M : Mem} {P : Mem → Prop} {b L x mm out : Nat} {xs : Nat → Int32} {x4 : Int32} (hfl : l.stackTraces = false) (hC : CallFix p m c code 9 s args lw_G RL) (hE : EnvOK E s) (hX : va_X b L xs s s.heap) (hbl : b < s.heap.size) (hbA : ¬ eA E b) (hcs : cells + 60 ≤ 601024 ∧ slots + 3000 ≤ 7293034) (hM : MOK E M H) (hS : va_S (eA E) s.heap H locs) (hl : lv_has ls 9 [(0, .ref b), (1, .ref x), (2, .ref mm), (3, .ref out), (4, .int x4)]) (h : fk_law_34 x mm out M P)
    (hk : ∀ (M2 : Mem) (H : Heap) (locs : List Loc) (ls : Array Slot), P M2 → MOK E M2 H → va_S (eA E) s.heap H locs → lv_has ls 9 [(0, .ref b), (1, .ref x), (2, .ref mm), (3, .ref out), (4, .int x4)] → W p l e room_1 s m args below meth c H locs (cells + 60) (slots + 3000) Q (F0 m 3228 ls [])) : W p l e room_1 s m args below meth c H locs cells slots Q (F0 m 2097 ls []) := by
  obtain ⟨hx, hb, hml, hown, hts⟩ := id hC
  obtain ⟨M2, h, hP⟩ := h
  unfold fr_law_34 at h
  refine lv_aload_n hx hb dL_law_2097 rfl (lv_at hl 1 rfl) ?_
  obtain ⟨v2, M1, h1, h⟩ := ob2 h
  obtain ⟨hk1, h1⟩ := ifg h1
  refine kV1 (ci := 4) (As := []) (rest := []) hC hE hS hM (mt_X4_messageCount _ E x _ _ _ h1) (gwV qw_568 qw_569 qw_570 qw_92 qw_571) ⟨rfl, rfl, (Nat.le_of_ble_eq_true rfl), (Nat.le_of_ble_eq_true rfl)⟩ dd_X4_messageCount rfl hk1 rfl rfl hl.1 (Nat.le_of_ble_eq_true rfl) dL_law_2098 ⟨by have := hcs.1; show _ ≤ 601024; omega, by have := hcs.2; show _ ≤ 7293034; omega⟩ (fun H locs hM hS => ?_)
  refine lv_aload_n hx hb dL_law_2101 rfl (lv_at hl 2 rfl) ?_
  obtain ⟨v4, M3, h1, h⟩ := ob2 h
  obtain ⟨hk1, h1⟩ := ifg h1
  refine kV1 (ci := 5) (As := []) (rest := [.int v2]) hC hE hS hM (mt_X5_messageCount _ E mm _ _ _ h1) (gwV qw_1521 qw_1522 qw_1523 qw_103 qw_1524) ⟨rfl, rfl, (Nat.le_of_ble_eq_true rfl), (Nat.le_of_ble_eq_true rfl)⟩ dd_X5_messageCount rfl hk1 rfl rfl hl.1 (Nat.le_of_ble_eq_true rfl) dL_law_2102 ⟨by have := hcs.1; show _ ≤ 601024; omega, by have := hcs.2; show _ ≤ 7293034; omega⟩ (fun H locs hM hS => ?_)
  refine lv_icmp_eq (tgt := 3228) hx hb dL_law_2105 (by decide) (fun c1 => ?_) (fun c1 => ?_)
  · have h := ifp c1 h
    cases h
    refine W.widen (k := cells + 60) (n := slots + 3000) (by omega) (by omega) ?_
    exact hk _ _ _ _ hP hM hS (lv_sub hl [0, 1, 2, 3, 4] rfl)
  · have h := ifn c1 h
    refine lv_iconst (v := 0) hx hb dL_law_2108 (by decide) ?_
    cases h
