/-! the cases of the law's switch -/
noncomputable def fr_law_0 (x mm out : Nat) (kv : Int32) (a1 : Int32) (a2 : Int32) (a3 : Int32) (a4 : Int32) (a5 : Int32) (M3 : Mem) : Option Mem :=
  bn (cK 6 mm M3 (f_X5_append mm a1 a2 a3 a4 a5 M3)) fun v4 M3 =>
  bn (cK 6 mm M3 (f_X5_thrown mm M3)) fun v6 M5 =>
  (if v6 = kv then
  (if kv = 0 then
  (gL out 0 M5).bind fun v7 =>
  (if (lg_cmp v7 v4.toInt64) = 0 then
  some M5
  else
  none)
  else
  some M5)
  else
  none)
/-- case 0: the wrapped call, and what follows it wherever the next address lies -/
def fk_law_0 (x mm out : Nat) (a1 : Int32) (a2 : Int32) (a3 : Int32) (a4 : Int32) (a5 : Int32) (M : Mem) (P : Mem → Prop) : Prop := ∃ kv M1, f_L_append x a1 a2 a3 a4 a5 out M = some (kv, M1) ∧ ∀ z, wfz (setZ M1 z) → ∃ M2, fr_law_0 x mm out kv a1 a2 a3 a4 a5 (setZ M1 z) = some M2 ∧ P M2
set_option maxHeartbeats 4000000 in
set_option maxRecDepth 100000 in
theorem lc_0 {p : Program} {l : Launch} {e : Env} {s : State} {m : MethodId} {args : Array Value} {below : List Frame} {meth : Method} {c : Code} {E : KEnv} {H : Heap} {locs : List Loc} {ls : Array Slot} {cells slots : Nat} {Q : State → Prop} {M : Mem} {P : Mem → Prop} {b L x mm out : Nat} {xs : Nat → Int32} {x4 a1 a2 a3 a4 a5 : Int32} (hfl : l.stackTraces = false) (hC : CallFix p m c code 9 s args lw_G RL) (hE : EnvOK E s) (hX : va_X b L xs s s.heap) (hbl : b < s.heap.size) (hbA : ¬ eA E b) (hin1 : vp_in (x4 + 1) L) (ha1 : xs (x4 + 1).toNatClampNeg = a1) (hin2 : vp_in (x4 + 2) L) (ha2 : xs (x4 + 2).toNatClampNeg = a2) (hin3 : vp_in (x4 + 3) L) (ha3 : xs (x4 + 3).toNatClampNeg = a3) (hin4 : vp_in (x4 + 4) L) (ha4 : xs (x4 + 4).toNatClampNeg = a4) (hin5 : vp_in (x4 + 5) L) (ha5 : xs (x4 + 5).toNatClampNeg = a5) (hcs : cells + 60 ≤ 601024 ∧ slots + 3000 ≤ 7293034) (hM : MOK E M H) (hS : va_S (eA E) s.heap H locs) (hl : lv_has ls 9 [(0, .ref b), (1, .ref x), (2, .ref mm), (3, .ref out), (4, .int x4)]) (h : fk_law_0 x mm out a1 a2 a3 a4 a5 M P)
    (hk : ∀ (M2 : Mem) (H : Heap) (locs : List Loc) (ls : Array Slot), P M2 → MOK E M2 H → va_S (eA E) s.heap H locs → lv_has ls 9 [(0, .ref b), (1, .ref x), (2, .ref mm), (3, .ref out), (4, .int x4)] → W p l e room_1 s m args below meth c H locs (cells + 60) (slots + 3000) Q (F0 m 3228 ls [])) : W p l e room_1 s m args below meth c H locs cells slots Q (F0 m 268 ls []) := by
  obtain ⟨hx, hb, hml, hown, hts⟩ := id hC
  refine lv_aload_n hx hb dL_law_268 rfl (lv_at hl 1 rfl) ?_
  refine lv_aload_n hx hb dL_law_269 rfl (lv_at hl 0 rfl) ?_
  refine lv_iload hx hb dL_law_270 (lv_at hl 4 rfl) ?_
  refine lv_iconst (v := 1) hx hb dL_law_272 (by decide) ?_
  refine lv_iadd hx hb dL_law_273 ?_
  refine rsl hx hb hX hbl hbA hS hin1 ha1 dL_law_274 ?_
  refine lv_aload_n hx hb dL_law_275 rfl (lv_at hl 0 rfl) ?_
  refine lv_iload hx hb dL_law_276 (lv_at hl 4 rfl) ?_
  refine lv_iconst (v := 2) hx hb dL_law_278 (by decide) ?_
  refine lv_iadd hx hb dL_law_279 ?_
  refine rsl hx hb hX hbl hbA hS hin2 ha2 dL_law_280 ?_
  refine lv_aload_n hx hb dL_law_281 rfl (lv_at hl 0 rfl) ?_
  refine lv_iload hx hb dL_law_282 (lv_at hl 4 rfl) ?_
  refine lv_iconst (v := 3) hx hb dL_law_284 (by decide) ?_
  refine lv_iadd hx hb dL_law_285 ?_
  refine rsl hx hb hX hbl hbA hS hin3 ha3 dL_law_286 ?_
  refine lv_aload_n hx hb dL_law_287 rfl (lv_at hl 0 rfl) ?_
  refine lv_iload hx hb dL_law_288 (lv_at hl 4 rfl) ?_
  refine lv_iconst (v := 4) hx hb dL_law_290 (by decide) ?_
  refine lv_iadd hx hb dL_law_291 ?_
  refine rsl hx hb hX hbl hbA hS hin4 ha4 dL_law_292 ?_
  refine lv_aload_n hx hb dL_law_293 rfl (lv_at hl 0 rfl) ?_
  refine lv_iload hx hb dL_law_294 (lv_at hl 4 rfl) ?_
  refine lv_iconst (v := 5) hx hb dL_law_296 (by decide) ?_
  refine lv_iadd hx hb dL_law_297 ?_
  refine rsl hx hb hX hbl hbA hS hin5 ha5 dL_law_298 ?_
  refine lv_aload_n hx hb dL_law_299 rfl (lv_at hl 3 rfl) ?_
  obtain ⟨kv, M1, h1, h⟩ := h
  refine kSW (As := [.ref x, .int a1, .int a2, .int a3, .int a4, .int a5, .ref out]) (rest := []) hC hE hS hM (mt_L_append _ hfl E x a1 a2 a3 a4 a5 out _ _ _ h1) (gwSW qw_592 qw_593 qw_91 qz_L_append) ⟨rfl, rfl, (Nat.le_of_ble_eq_true rfl), (Nat.le_of_ble_eq_true rfl)⟩ dd_L_append rfl rfl hl.1 (Nat.le_of_ble_eq_true rfl) dL_law_300 ⟨by have := hcs.1; show _ ≤ 601024; omega, by have := hcs.2; show _ ≤ 7293034; omega⟩ (fun z H locs hM hS => ?_)
  obtain ⟨M2, h, hP⟩ := h z (wfz_of hM)
  unfold fr_law_0 at h
  generalize setZ M1 z = M3 at h hM
  refine lv_istore (lv' := [(5, .int kv), (0, .ref b), (1, .ref x), (2, .ref mm), (3, .ref out), (4, .int x4)]) hx hb dL_law_303 hl (by decide) rfl (fun ls hl => ?_)
  refine lv_aload_n hx hb dL_law_305 rfl (lv_at hl 3 rfl) ?_
  refine lv_aload_n hx hb dL_law_306 rfl (lv_at hl 1 rfl) ?_
  refine lv_iload hx hb dL_law_307 (lv_at hl 5 rfl) ?_
  refine lv_iconst (v := 1) hx hb dL_law_309 (by decide) ?_
  refine lv_iadd hx hb dL_law_310 ?_
  refine rsl hx hb hX hbl hbA hS hin1 ha1 dL_law_311 ?_
  refine lv_aload_n hx hb dL_law_312 rfl (lv_at hl 1 rfl) ?_
  refine lv_iload hx hb dL_law_313 (lv_at hl 5 rfl) ?_
  refine lv_iconst (v := 2) hx hb dL_law_315 (by decide) ?_
  refine lv_iadd hx hb dL_law_316 ?_
  refine rsl hx hb hX hbl hbA hS hin2 ha2 dL_law_317 ?_
  refine lv_aload_n hx hb dL_law_318 rfl (lv_at hl 1 rfl) ?_
  refine lv_iload hx hb dL_law_319 (lv_at hl 5 rfl) ?_
  refine lv_iconst (v := 3) hx hb dL_law_321 (by decide) ?_
  refine lv_iadd hx hb dL_law_322 ?_
  refine rsl hx hb hX hbl hbA hS hin3 ha3 dL_law_323 ?_
  refine lv_aload_n hx hb dL_law_324 rfl (lv_at hl 1 rfl) ?_
  refine lv_iload hx hb dL_law_325 (lv_at hl 5 rfl) ?_
  refine lv_iconst (v := 4) hx hb dL_law_327 (by decide) ?_
  refine lv_iadd hx hb dL_law_328 ?_
  refine rsl hx hb hX hbl hbA hS hin4 ha4 dL_law_329 ?_
  refine lv_aload_n hx hb dL_law_330 rfl (lv_at hl 1 rfl) ?_
  refine lv_iload hx hb dL_law_331 (lv_at hl 5 rfl) ?_
  refine lv_iconst (v := 5) hx hb dL_law_333 (by decide) ?_
  refine lv_iadd hx hb dL_law_334 ?_
  refine rsl hx hb hX hbl hbA hS hin5 ha5 dL_law_335 ?_
  obtain ⟨v4, M3, h1, h⟩ := ob2 h
  obtain ⟨hk1, h1⟩ := ifg h1
  refine kV1 (ci := 5) (As := [.int a1, .int a2, .int a3, .int a4, .int a5]) (rest := []) hC hE hS hM (mt_X5_append _ E mm a1 a2 a3 a4 a5 _ _ _ h1) (gwV qw_1237 qw_1238 qw_1239 qw_103 qw_1240) ⟨rfl, rfl, (Nat.le_of_ble_eq_true rfl), (Nat.le_of_ble_eq_true rfl)⟩ dd_X5_append rfl hk1 rfl rfl hl.1 (Nat.le_of_ble_eq_true rfl) dL_law_336 ⟨by have := hcs.1; show _ ≤ 601024; omega, by have := hcs.2; show _ ≤ 7293034; omega⟩ (fun H locs hM hS => ?_)
  refine lv_istore (lv' := [(6, .int v4), (5, .int kv), (0, .ref b), (1, .ref x), (2, .ref mm), (3, .ref out), (4, .int x4)]) hx hb dL_law_339 hl (by decide) rfl (fun ls hl => ?_)
  refine lv_aload_n hx hb dL_law_341 rfl (lv_at hl 4 rfl) ?_
  obtain ⟨v6, M5, h1, h⟩ := ob2 h
  obtain ⟨hk1, h1⟩ := ifg h1
  refine kV1 (ci := 5) (As := []) (rest := []) hC hE hS hM (mt_X5_thrown _ E mm _ _ _ h1) (gwV qw_1233 qw_1234 qw_1235 qw_103 qw_1236) ⟨rfl, rfl, (Nat.le_of_ble_eq_true rfl), (Nat.le_of_ble_eq_true rfl)⟩ dd_X5_thrown rfl hk1 rfl rfl hl.1 (Nat.le_of_ble_eq_true rfl) dL_law_342 ⟨by have := hcs.1; show _ ≤ 601024; omega, by have := hcs.2; show _ ≤ 7293034; omega⟩ (fun H locs hM hS => ?_)
  refine lv_iload hx hb dL_law_345 (lv_at hl 1 rfl) ?_
  refine lv_icmp_eq (tgt := 352) hx hb dL_law_347 (by decide) (fun c1 => ?_) (fun c1 => ?_)
  · have h := ifp c1 h
    refine lv_iload hx hb dL_law_352 (lv_at hl 1 rfl) ?_
    refine lv_if_ne (tgt := 369) hx hb dL_law_354 (by decide) (fun c1 => ?_) (fun c1 => ?_)
    · have h := ifn c1 h
      refine lv_goto (tgt := 3228) hx hb dL_law_369 (by decide) ?_
      cases h
      refine W.widen (k := cells + 60) (n := slots + 3000) (by omega) (by omega) ?_
      exact hk _ _ _ _ hP hM hS (lv_sub hl [2, 3, 4, 5, 6] rfl)
    · have h := ifp c1 h
      refine lv_aload_n hx hb dL_law_357 rfl (lv_at hl 5 rfl) ?_
      refine lv_iconst (v := 0) hx hb dL_law_358 (by decide) ?_
      obtain ⟨v7, h1, h⟩ := ob h
      refine r_lald hx hb hE hM h1 dL_law_359 ?_
      refine lv_iload hx hb dL_law_360 (lv_at hl 0 rfl) ?_
      refine lv_i2l (v := v4.toInt64) hx hb dL_law_362 rfl ?_
      refine W.lcmp hx hb dL_law_363 ?_
      refine lv_if_eq (tgt := 369) hx hb dL_law_364 (by decide) (fun c1 => ?_) (fun c1 => ?_)
      · have h := ifp c1 h
        refine lv_goto (tgt := 3228) hx hb dL_law_369 (by decide) ?_
        cases h
        refine W.widen (k := cells + 60) (n := slots + 3000) (by omega) (by omega) ?_
        exact hk _ _ _ _ hP hM hS (lv_sub hl [2, 3, 4, 5, 6] rfl)
      · have h := ifn c1 h
        refine lv_iconst (v := 0) hx hb dL_law_367 (by decide) ?_
        cases h
  · have h := ifn c1 h
    refine lv_iconst (v := 0) hx hb dL_law_350 (by decide) ?_
    cases h

noncomputable def fr_law_1 (x mm out : Nat) (kv : Int32) (a1 : Int32) (M3 : Mem) : Option Mem :=
  bn (cK 6 mm M3 (f_X5_load mm a1 M3)) fun v4 M3 =>
  bn (cK 6 mm M3 (f_X5_thrown mm M3)) fun v6 M5 =>
  (if v6 = kv then
  (if kv = 0 then
  (gL out 0 M5).bind fun v7 =>
  (if (lg_cmp v7 v4.toInt64) = 0 then
  some M5
  else
  none)
  else
  some M5)
  else
  none)
/-- case 1: the wrapped call, and what follows it wherever the next address lies -/
def fk_law_1 (x mm out : Nat) (a1 : Int32) (M : Mem) (P : Mem → Prop) : Prop := ∃ kv M1, f_L_load x a1 out M = some (kv, M1) ∧ ∀ z, wfz (setZ M1 z) → ∃ M2, fr_law_1 x mm out kv a1 (setZ M1 z) = some M2 ∧ P M2
set_option maxHeartbeats 4000000 in
set_option maxRecDepth 100000 in
theorem lc_1 {p : Program} {l : Launch} {e : Env} {s : State} {m : MethodId} {args : Array Value} {below : List Frame} {meth : Method} {c : Code} {E : KEnv} {H : Heap} {locs : List Loc} {ls : Array Slot} {cells slots : Nat} {Q : State → Prop} {M : Mem} {P : Mem → Prop} {b L x mm out : Nat} {xs : Nat → Int32} {x4 a1 : Int32} (hfl : l.stackTraces = false) (hC : CallFix p m c code 9 s args lw_G RL) (hE : EnvOK E s) (hX : va_X b L xs s s.heap) (hbl : b < s.heap.size) (hbA : ¬ eA E b) (hin1 : vp_in (x4 + 1) L) (ha1 : xs (x4 + 1).toNatClampNeg = a1) (hcs : cells + 60 ≤ 601024 ∧ slots + 3000 ≤ 7293034) (hM : MOK E M H) (hS : va_S (eA E) s.heap H locs) (hl : lv_has ls 9 [(0, .ref b), (1, .ref x), (2, .ref mm), (3, .ref out), (4, .int x4)]) (h : fk_law_1 x mm out a1 M P)
    (hk : ∀ (M2 : Mem) (H : Heap) (locs : List Loc) (ls : Array Slot), P M2 → MOK E M2 H → va_S (eA E) s.heap H locs → lv_has ls 9 [(0, .ref b), (1, .ref x), (2, .ref mm), (3, .ref out), (4, .int x4)] → W p l e room_1 s m args below meth c H locs (cells + 60) (slots + 3000) Q (F0 m 3228 ls [])) : W p l e room_1 s m args below meth c H locs cells slots Q (F0 m 372 ls []) := by
  obtain ⟨hx, hb, hml, hown, hts⟩ := id hC
  refine lv_aload_n hx hb dL_law_372 rfl (lv_at hl 1 rfl) ?_
  refine lv_aload_n hx hb dL_law_373 rfl (lv_at hl 0 rfl) ?_
  refine lv_iload hx hb dL_law_374 (lv_at hl 4 rfl) ?_
  refine lv_iconst (v := 1) hx hb dL_law_376 (by decide) ?_
  refine lv_iadd hx hb dL_law_377 ?_
  refine rsl hx hb hX hbl hbA hS hin1 ha1 dL_law_378 ?_
  refine lv_aload_n hx hb dL_law_379 rfl (lv_at hl 3 rfl) ?_
  obtain ⟨kv, M1, h1, h⟩ := h
  refine kSW (As := [.ref x, .int a1, .ref out]) (rest := []) hC hE hS hM (mt_L_load _ hfl E x a1 out _ _ _ h1) (gwSW qw_671 qw_672 qw_91 qz_L_load) ⟨rfl, rfl, (Nat.le_of_ble_eq_true rfl), (Nat.le_of_ble_eq_true rfl)⟩ dd_L_load rfl rfl hl.1 (Nat.le_of_ble_eq_true rfl) dL_law_380 ⟨by have := hcs.1; show _ ≤ 601024; omega, by have := hcs.2; show _ ≤ 7293034; omega⟩ (fun z H locs hM hS => ?_)
  obtain ⟨M2, h, hP⟩ := h z (wfz_of hM)
  unfold fr_law_1 at h
  generalize setZ M1 z = M3 at h hM
  refine lv_istore (lv' := [(5, .int kv), (0, .ref b), (1, .ref x), (2, .ref mm), (3, .ref out), (4, .int x4)]) hx hb dL_law_383 hl (by decide) rfl (fun ls hl => ?_)
  refine lv_aload_n hx hb dL_law_385 rfl (lv_at hl 3 rfl) ?_
  refine lv_aload_n hx hb dL_law_386 rfl (lv_at hl 1 rfl) ?_
  refine lv_iload hx hb dL_law_387 (lv_at hl 5 rfl) ?_
  refine lv_iconst (v := 1) hx hb dL_law_389 (by decide) ?_
  refine lv_iadd hx hb dL_law_390 ?_
  refine rsl hx hb hX hbl hbA hS hin1 ha1 dL_law_391 ?_
  obtain ⟨v4, M3, h1, h⟩ := ob2 h
  obtain ⟨hk1, h1⟩ := ifg h1
  refine kV1 (ci := 5) (As := [.int a1]) (rest := []) hC hE hS hM (mt_X5_load _ E mm a1 _ _ _ h1) (gwV qw_1253 qw_1254 qw_1255 qw_103 qw_1256) ⟨rfl, rfl, (Nat.le_of_ble_eq_true rfl), (Nat.le_of_ble_eq_true rfl)⟩ dd_X5_load rfl hk1 rfl rfl hl.1 (Nat.le_of_ble_eq_true rfl) dL_law_392 ⟨by have := hcs.1; show _ ≤ 601024; omega, by have := hcs.2; show _ ≤ 7293034; omega⟩ (fun H locs hM hS => ?_)
  refine lv_istore (lv' := [(6, .int v4), (5, .int kv), (0, .ref b), (1, .ref x), (2, .ref mm), (3, .ref out), (4, .int x4)]) hx hb dL_law_395 hl (by decide) rfl (fun ls hl => ?_)
  refine lv_aload_n hx hb dL_law_397 rfl (lv_at hl 4 rfl) ?_
  obtain ⟨v6, M5, h1, h⟩ := ob2 h
  obtain ⟨hk1, h1⟩ := ifg h1
  refine kV1 (ci := 5) (As := []) (rest := []) hC hE hS hM (mt_X5_thrown _ E mm _ _ _ h1) (gwV qw_1233 qw_1234 qw_1235 qw_103 qw_1236) ⟨rfl, rfl, (Nat.le_of_ble_eq_true rfl), (Nat.le_of_ble_eq_true rfl)⟩ dd_X5_thrown rfl hk1 rfl rfl hl.1 (Nat.le_of_ble_eq_true rfl) dL_law_398 ⟨by have := hcs.1; show _ ≤ 601024; omega, by have := hcs.2; show _ ≤ 7293034; omega⟩ (fun H locs hM hS => ?_)
  refine lv_iload hx hb dL_law_401 (lv_at hl 1 rfl) ?_
  refine lv_icmp_eq (tgt := 408) hx hb dL_law_403 (by decide) (fun c1 => ?_) (fun c1 => ?_)
  · have h := ifp c1 h
    refine lv_iload hx hb dL_law_408 (lv_at hl 1 rfl) ?_
    refine lv_if_ne (tgt := 425) hx hb dL_law_410 (by decide) (fun c1 => ?_) (fun c1 => ?_)
    · have h := ifn c1 h
      refine lv_goto (tgt := 3228) hx hb dL_law_425 (by decide) ?_
      cases h
      refine W.widen (k := cells + 60) (n := slots + 3000) (by omega) (by omega) ?_
      exact hk _ _ _ _ hP hM hS (lv_sub hl [2, 3, 4, 5, 6] rfl)
    · have h := ifp c1 h
      refine lv_aload_n hx hb dL_law_413 rfl (lv_at hl 5 rfl) ?_
      refine lv_iconst (v := 0) hx hb dL_law_414 (by decide) ?_
      obtain ⟨v7, h1, h⟩ := ob h
      refine r_lald hx hb hE hM h1 dL_law_415 ?_
      refine lv_iload hx hb dL_law_416 (lv_at hl 0 rfl) ?_
      refine lv_i2l (v := v4.toInt64) hx hb dL_law_418 rfl ?_
      refine W.lcmp hx hb dL_law_419 ?_
      refine lv_if_eq (tgt := 425) hx hb dL_law_420 (by decide) (fun c1 => ?_) (fun c1 => ?_)
      · have h := ifp c1 h
        refine lv_goto (tgt := 3228) hx hb dL_law_425 (by decide) ?_
        cases h
        refine W.widen (k := cells + 60) (n := slots + 3000) (by omega) (by omega) ?_
        exact hk _ _ _ _ hP hM hS (lv_sub hl [2, 3, 4, 5, 6] rfl)
      · have h := ifn c1 h
        refine lv_iconst (v := 0) hx hb dL_law_423 (by decide) ?_
        cases h
  · have h := ifn c1 h
    refine lv_iconst (v := 0) hx hb dL_law_406 (by decide) ?_
    cases h

noncomputable def fr_law_2 (x mm out : Nat) (M : Mem) : Option Mem :=
  bn (cK 5 x M (f_X4_errorKind x M)) fun v2 M1 =>
  bn (cK 6 mm M1 (f_X5_errorKind mm M1)) fun v4 M3 =>
  (if v2 = v4 then
  some M3
  else
  none)
/-- case 2 -/
def fk_law_2 (x mm out : Nat) (M : Mem) (P : Mem → Prop) : Prop := ∃ M2, fr_law_2 x mm out M = some M2 ∧ P M2
set_option maxHeartbeats 4000000 in
set_option maxRecDepth 100000 in
theorem lc_2 {p : Program} {l : Launch} {e : Env} {s : State} {m : MethodId} {args : Array Value} {below : List Frame} {meth : Method} {c : Code} {E : KEnv} {H : Heap} {locs : List Loc} {ls : Array Slot} {cells slots : Nat} {Q : State → Prop} {M : Mem} {P : Mem → Prop} {b L x mm out : Nat} {xs : Nat → Int32} {x4 : Int32} (hfl : l.stackTraces = false) (hC : CallFix p m c code 9 s args lw_G RL) (hE : EnvOK E s) (hX : va_X b L xs s s.heap) (hbl : b < s.heap.size) (hbA : ¬ eA E b) (hcs : cells + 60 ≤ 601024 ∧ slots + 3000 ≤ 7293034) (hM : MOK E M H) (hS : va_S (eA E) s.heap H locs) (hl : lv_has ls 9 [(0, .ref b), (1, .ref x), (2, .ref mm), (3, .ref out), (4, .int x4)]) (h : fk_law_2 x mm out M P)
    (hk : ∀ (M2 : Mem) (H : Heap) (locs : List Loc) (ls : Array Slot), P M2 → MOK E M2 H → va_S (eA E) s.heap H locs → lv_has ls 9 [(0, .ref b), (1, .ref x), (2, .ref mm), (3, .ref out), (4, .int x4)] → W p l e room_1 s m args below meth c H locs (cells + 60) (slots + 3000) Q (F0 m 3228 ls [])) : W p l e room_1 s m args below meth c H locs cells slots Q (F0 m 428 ls []) := by
  obtain ⟨hx, hb, hml, hown, hts⟩ := id hC
  obtain ⟨M2, h, hP⟩ := h
  unfold fr_law_2 at h
  refine lv_aload_n hx hb dL_law_428 rfl (lv_at hl 1 rfl) ?_
  obtain ⟨v2, M1, h1, h⟩ := ob2 h
  obtain ⟨hk1, h1⟩ := ifg h1
  refine kV1 (ci := 4) (As := []) (rest := []) hC hE hS hM (mt_X4_errorKind _ E x _ _ _ h1) (gwV qw_484 qw_485 qw_486 qw_92 qw_487) ⟨rfl, rfl, (Nat.le_of_ble_eq_true rfl), (Nat.le_of_ble_eq_true rfl)⟩ dd_X4_errorKind rfl hk1 rfl rfl hl.1 (Nat.le_of_ble_eq_true rfl) dL_law_429 ⟨by have := hcs.1; show _ ≤ 601024; omega, by have := hcs.2; show _ ≤ 7293034; omega⟩ (fun H locs hM hS => ?_)
  refine lv_aload_n hx hb dL_law_432 rfl (lv_at hl 2 rfl) ?_
  obtain ⟨v4, M3, h1, h⟩ := ob2 h
  obtain ⟨hk1, h1⟩ := ifg h1
  refine kV1 (ci := 5) (As := []) (rest := [.int v2]) hC hE hS hM (mt_X5_errorKind _ E mm _ _ _ h1) (gwV qw_1326 qw_1327 qw_1328 qw_103 qw_1329) ⟨rfl, rfl, (Nat.le_of_ble_eq_true rfl), (Nat.le_of_ble_eq_true rfl)⟩ dd_X5_errorKind rfl hk1 rfl rfl hl.1 (Nat.le_of_ble_eq_true rfl) dL_law_433 ⟨by have := hcs.1; show _ ≤ 601024; omega, by have := hcs.2; show _ ≤ 7293034; omega⟩ (fun H locs hM hS => ?_)
  refine lv_icmp_eq (tgt := 3228) hx hb dL_law_436 (by decide) (fun c1 => ?_) (fun c1 => ?_)
  · have h := ifp c1 h
    cases h
    refine W.widen (k := cells + 60) (n := slots + 3000) (by omega) (by omega) ?_
    exact hk _ _ _ _ hP hM hS (lv_sub hl [0, 1, 2, 3, 4] rfl)
  · have h := ifn c1 h
    refine lv_iconst (v := 0) hx hb dL_law_439 (by decide) ?_
    cases h

noncomputable def fr_law_3 (x mm out : Nat) (M : Mem) : Option Mem :=
  bn (cK 5 x M (f_X4_errorOffset x M)) fun v2 M1 =>
  bn (cK 6 mm M1 (f_X5_errorOffset mm M1)) fun v4 M3 =>
  (if v2 = v4 then
  some M3
  else
  none)
/-- case 3 -/
def fk_law_3 (x mm out : Nat) (M : Mem) (P : Mem → Prop) : Prop := ∃ M2, fr_law_3 x mm out M = some M2 ∧ P M2
set_option maxHeartbeats 4000000 in
set_option maxRecDepth 100000 in
theorem lc_3 {p : Program} {l : Launch} {e : Env} {s : State} {m : MethodId} {args : Array Value} {below : List Frame} {meth : Method} {c : Code} {E : KEnv} {H : Heap} {locs : List Loc} {ls : Array Slot} {cells slots : Nat} {Q : State → Prop} {M : Mem} {P : Mem → Prop} {b L x mm out : Nat} {xs : Nat → Int32} {x4 : Int32} (hfl : l.stackTraces = false) (hC : CallFix p m c code 9 s args lw_G RL) (hE : EnvOK E s) (hX : va_X b L xs s s.heap) (hbl : b < s.heap.size) (hbA : ¬ eA E b) (hcs : cells + 60 ≤ 601024 ∧ slots + 3000 ≤ 7293034) (hM : MOK E M H) (hS : va_S (eA E) s.heap H locs) (hl : lv_has ls 9 [(0, .ref b), (1, .ref x), (2, .ref mm), (3, .ref out), (4, .int x4)]) (h : fk_law_3 x mm out M P)
    (hk : ∀ (M2 : Mem) (H : Heap) (locs : List Loc) (ls : Array Slot), P M2 → MOK E M2 H → va_S (eA E) s.heap H locs → lv_has ls 9 [(0, .ref b), (1, .ref x), (2, .ref mm), (3, .ref out), (4, .int x4)] → W p l e room_1 s m args below meth c H locs (cells + 60) (slots + 3000) Q (F0 m 3228 ls [])) : W p l e room_1 s m args below meth c H locs cells slots Q (F0 m 441 ls []) := by
  obtain ⟨hx, hb, hml, hown, hts⟩ := id hC
  obtain ⟨M2, h, hP⟩ := h
  unfold fr_law_3 at h
  refine lv_aload_n hx hb dL_law_441 rfl (lv_at hl 1 rfl) ?_
  obtain ⟨v2, M1, h1, h⟩ := ob2 h
  obtain ⟨hk1, h1⟩ := ifg h1
  refine kV1 (ci := 4) (As := []) (rest := []) hC hE hS hM (mt_X4_errorOffset _ E x _ _ _ h1) (gwV qw_488 qw_489 qw_490 qw_92 qw_491) ⟨rfl, rfl, (Nat.le_of_ble_eq_true rfl), (Nat.le_of_ble_eq_true rfl)⟩ dd_X4_errorOffset rfl hk1 rfl rfl hl.1 (Nat.le_of_ble_eq_true rfl) dL_law_442 ⟨by have := hcs.1; show _ ≤ 601024; omega, by have := hcs.2; show _ ≤ 7293034; omega⟩ (fun H locs hM hS => ?_)
  refine lv_aload_n hx hb dL_law_445 rfl (lv_at hl 2 rfl) ?_
  obtain ⟨v4, M3, h1, h⟩ := ob2 h
  obtain ⟨hk1, h1⟩ := ifg h1
  refine kV1 (ci := 5) (As := []) (rest := [.int v2]) hC hE hS hM (mt_X5_errorOffset _ E mm _ _ _ h1) (gwV qw_1330 qw_1331 qw_1332 qw_103 qw_1333) ⟨rfl, rfl, (Nat.le_of_ble_eq_true rfl), (Nat.le_of_ble_eq_true rfl)⟩ dd_X5_errorOffset rfl hk1 rfl rfl hl.1 (Nat.le_of_ble_eq_true rfl) dL_law_446 ⟨by have := hcs.1; show _ ≤ 601024; omega, by have := hcs.2; show _ ≤ 7293034; omega⟩ (fun H locs hM hS => ?_)
  refine lv_icmp_eq (tgt := 3228) hx hb dL_law_449 (by decide) (fun c1 => ?_) (fun c1 => ?_)
  · have h := ifp c1 h
    cases h
    refine W.widen (k := cells + 60) (n := slots + 3000) (by omega) (by omega) ?_
    exact hk _ _ _ _ hP hM hS (lv_sub hl [0, 1, 2, 3, 4] rfl)
  · have h := ifn c1 h
    refine lv_iconst (v := 0) hx hb dL_law_452 (by decide) ?_
    cases h

noncomputable def fr_law_4 (x mm out : Nat) (M : Mem) : Option Mem :=
  bn (cK 5 x M (f_X4_replicaCount x M)) fun v2 M1 =>
  bn (cK 6 mm M1 (f_X5_replicaCount mm M1)) fun v4 M3 =>
  (if v2 = v4 then
  some M3
  else
  none)
/-- case 4 -/
def fk_law_4 (x mm out : Nat) (M : Mem) (P : Mem → Prop) : Prop := ∃ M2, fr_law_4 x mm out M = some M2 ∧ P M2
set_option maxHeartbeats 4000000 in
set_option maxRecDepth 100000 in
theorem lc_4 {p : Program} {l : Launch} {e : Env} {s : State} {m : MethodId} {args : Array Value} {below : List Frame} {meth : Method} {c : Code} {E : KEnv} {H : Heap} {locs : List Loc} {ls : Array Slot} {cells slots : Nat} {Q : State → Prop} {M : Mem} {P : Mem → Prop} {b L x mm out : Nat} {xs : Nat → Int32} {x4 : Int32} (hfl : l.stackTraces = false) (hC : CallFix p m c code 9 s args lw_G RL) (hE : EnvOK E s) (hX : va_X b L xs s s.heap) (hbl : b < s.heap.size) (hbA : ¬ eA E b) (hcs : cells + 60 ≤ 601024 ∧ slots + 3000 ≤ 7293034) (hM : MOK E M H) (hS : va_S (eA E) s.heap H locs) (hl : lv_has ls 9 [(0, .ref b), (1, .ref x), (2, .ref mm), (3, .ref out), (4, .int x4)]) (h : fk_law_4 x mm out M P)
    (hk : ∀ (M2 : Mem) (H : Heap) (locs : List Loc) (ls : Array Slot), P M2 → MOK E M2 H → va_S (eA E) s.heap H locs → lv_has ls 9 [(0, .ref b), (1, .ref x), (2, .ref mm), (3, .ref out), (4, .int x4)] → W p l e room_1 s m args below meth c H locs (cells + 60) (slots + 3000) Q (F0 m 3228 ls [])) : W p l e room_1 s m args below meth c H locs cells slots Q (F0 m 454 ls []) := by
  obtain ⟨hx, hb, hml, hown, hts⟩ := id hC
  obtain ⟨M2, h, hP⟩ := h
  unfold fr_law_4 at h
  refine lv_aload_n hx hb dL_law_454 rfl (lv_at hl 1 rfl) ?_
  obtain ⟨v2, M1, h1, h⟩ := ob2 h
  obtain ⟨hk1, h1⟩ := ifg h1
  refine kV1 (ci := 4) (As := []) (rest := []) hC hE hS hM (mt_X4_replicaCount _ E x _ _ _ h1) (gwV qw_492 qw_493 qw_494 qw_92 qw_495) ⟨rfl, rfl, (Nat.le_of_ble_eq_true rfl), (Nat.le_of_ble_eq_true rfl)⟩ dd_X4_replicaCount rfl hk1 rfl rfl hl.1 (Nat.le_of_ble_eq_true rfl) dL_law_455 ⟨by have := hcs.1; show _ ≤ 601024; omega, by have := hcs.2; show _ ≤ 7293034; omega⟩ (fun H locs hM hS => ?_)
  refine lv_aload_n hx hb dL_law_458 rfl (lv_at hl 2 rfl) ?_
  obtain ⟨v4, M3, h1, h⟩ := ob2 h
  obtain ⟨hk1, h1⟩ := ifg h1
  refine kV1 (ci := 5) (As := []) (rest := [.int v2]) hC hE hS hM (mt_X5_replicaCount _ E mm _ _ _ h1) (gwV qw_1334 qw_1335 qw_1336 qw_103 qw_1337) ⟨rfl, rfl, (Nat.le_of_ble_eq_true rfl), (Nat.le_of_ble_eq_true rfl)⟩ dd_X5_replicaCount rfl hk1 rfl rfl hl.1 (Nat.le_of_ble_eq_true rfl) dL_law_459 ⟨by have := hcs.1; show _ ≤ 601024; omega, by have := hcs.2; show _ ≤ 7293034; omega⟩ (fun H locs hM hS => ?_)
  refine lv_icmp_eq (tgt := 3228) hx hb dL_law_462 (by decide) (fun c1 => ?_) (fun c1 => ?_)
  · have h := ifp c1 h
    cases h
    refine W.widen (k := cells + 60) (n := slots + 3000) (by omega) (by omega) ?_
    exact hk _ _ _ _ hP hM hS (lv_sub hl [0, 1, 2, 3, 4] rfl)
  · have h := ifn c1 h
    refine lv_iconst (v := 0) hx hb dL_law_465 (by decide) ?_
    cases h

noncomputable def fr_law_5 (x mm out : Nat) (M : Mem) : Option Mem :=
  bn (cK 5 x M (f_X4_counterCount x M)) fun v2 M1 =>
  bn (cK 6 mm M1 (f_X5_counterCount mm M1)) fun v4 M3 =>
  (if v2 = v4 then
  some M3
  else
  none)
/-- case 5 -/
def fk_law_5 (x mm out : Nat) (M : Mem) (P : Mem → Prop) : Prop := ∃ M2, fr_law_5 x mm out M = some M2 ∧ P M2
set_option maxHeartbeats 4000000 in
set_option maxRecDepth 100000 in
theorem lc_5 {p : Program} {l : Launch} {e : Env} {s : State} {m : MethodId} {args : Array Value} {below : List Frame} {meth : Method} {c : Code} {E : KEnv} {H : Heap} {locs : List Loc} {ls : Array Slot} {cells slots : Nat} {Q : State → Prop} {M : Mem} {P : Mem → Prop} {b L x mm out : Nat} {xs : Nat → Int32} {x4 : Int32} (hfl : l.stackTraces = false) (hC : CallFix p m c code 9 s args lw_G RL) (hE : EnvOK E s) (hX : va_X b L xs s s.heap) (hbl : b < s.heap.size) (hbA : ¬ eA E b) (hcs : cells + 60 ≤ 601024 ∧ slots + 3000 ≤ 7293034) (hM : MOK E M H) (hS : va_S (eA E) s.heap H locs) (hl : lv_has ls 9 [(0, .ref b), (1, .ref x), (2, .ref mm), (3, .ref out), (4, .int x4)]) (h : fk_law_5 x mm out M P)
    (hk : ∀ (M2 : Mem) (H : Heap) (locs : List Loc) (ls : Array Slot), P M2 → MOK E M2 H → va_S (eA E) s.heap H locs → lv_has ls 9 [(0, .ref b), (1, .ref x), (2, .ref mm), (3, .ref out), (4, .int x4)] → W p l e room_1 s m args below meth c H locs (cells + 60) (slots + 3000) Q (F0 m 3228 ls [])) : W p l e room_1 s m args below meth c H locs cells slots Q (F0 m 467 ls []) := by
  obtain ⟨hx, hb, hml, hown, hts⟩ := id hC
  obtain ⟨M2, h, hP⟩ := h
  unfold fr_law_5 at h
  refine lv_aload_n hx hb dL_law_467 rfl (lv_at hl 1 rfl) ?_
  obtain ⟨v2, M1, h1, h⟩ := ob2 h
  obtain ⟨hk1, h1⟩ := ifg h1
  refine kV1 (ci := 4) (As := []) (rest := []) hC hE hS hM (mt_X4_counterCount _ E x _ _ _ h1) (gwV qw_496 qw_497 qw_498 qw_92 qw_499) ⟨rfl, rfl, (Nat.le_of_ble_eq_true rfl), (Nat.le_of_ble_eq_true rfl)⟩ dd_X4_counterCount rfl hk1 rfl rfl hl.1 (Nat.le_of_ble_eq_true rfl) dL_law_468 ⟨by have := hcs.1; show _ ≤ 601024; omega, by have := hcs.2; show _ ≤ 7293034; omega⟩ (fun H locs hM hS => ?_)
  refine lv_aload_n hx hb dL_law_471 rfl (lv_at hl 2 rfl) ?_
  obtain ⟨v4, M3, h1, h⟩ := ob2 h
  obtain ⟨hk1, h1⟩ := ifg h1
  refine kV1 (ci := 5) (As := []) (rest := [.int v2]) hC hE hS hM (mt_X5_counterCount _ E mm _ _ _ h1) (gwV qw_1338 qw_1339 qw_1340 qw_103 qw_1341) ⟨rfl, rfl, (Nat.le_of_ble_eq_true rfl), (Nat.le_of_ble_eq_true rfl)⟩ dd_X5_counterCount rfl hk1 rfl rfl hl.1 (Nat.le_of_ble_eq_true rfl) dL_law_472 ⟨by have := hcs.1; show _ ≤ 601024; omega, by have := hcs.2; show _ ≤ 7293034; omega⟩ (fun H locs hM hS => ?_)
  refine lv_icmp_eq (tgt := 3228) hx hb dL_law_475 (by decide) (fun c1 => ?_) (fun c1 => ?_)
  · have h := ifp c1 h
    cases h
    refine W.widen (k := cells + 60) (n := slots + 3000) (by omega) (by omega) ?_
    exact hk _ _ _ _ hP hM hS (lv_sub hl [0, 1, 2, 3, 4] rfl)
  · have h := ifn c1 h
    refine lv_iconst (v := 0) hx hb dL_law_478 (by decide) ?_
    cases h

noncomputable def fr_law_6 (x mm out : Nat) (M : Mem) : Option Mem :=
  bn (cK 5 x M (f_X4_registerCount x M)) fun v2 M1 =>
  bn (cK 6 mm M1 (f_X5_registerCount mm M1)) fun v4 M3 =>
  (if v2 = v4 then
  some M3
  else
  none)
/-- case 6 -/
def fk_law_6 (x mm out : Nat) (M : Mem) (P : Mem → Prop) : Prop := ∃ M2, fr_law_6 x mm out M = some M2 ∧ P M2
set_option maxHeartbeats 4000000 in
set_option maxRecDepth 100000 in
theorem lc_6 {p : Program} {l : Launch} {e : Env} {s : State} {m : MethodId} {args : Array Value} {below : List Frame} {meth : Method} {c : Code} {E : KEnv} {H : Heap} {locs : List Loc} {ls : Array Slot} {cells slots : Nat} {Q : State → Prop} {M : Mem} {P : Mem → Prop} {b L x mm out : Nat} {xs : Nat → Int32} {x4 : Int32} (hfl : l.stackTraces = false) (hC : CallFix p m c code 9 s args lw_G RL) (hE : EnvOK E s) (hX : va_X b L xs s s.heap) (hbl : b < s.heap.size) (hbA : ¬ eA E b) (hcs : cells + 60 ≤ 601024 ∧ slots + 3000 ≤ 7293034) (hM : MOK E M H) (hS : va_S (eA E) s.heap H locs) (hl : lv_has ls 9 [(0, .ref b), (1, .ref x), (2, .ref mm), (3, .ref out), (4, .int x4)]) (h : fk_law_6 x mm out M P)
    (hk : ∀ (M2 : Mem) (H : Heap) (locs : List Loc) (ls : Array Slot), P M2 → MOK E M2 H → va_S (eA E) s.heap H locs → lv_has ls 9 [(0, .ref b), (1, .ref x), (2, .ref mm), (3, .ref out), (4, .int x4)] → W p l e room_1 s m args below meth c H locs (cells + 60) (slots + 3000) Q (F0 m 3228 ls [])) : W p l e room_1 s m args below meth c H locs cells slots Q (F0 m 480 ls []) := by
  obtain ⟨hx, hb, hml, hown, hts⟩ := id hC
  obtain ⟨M2, h, hP⟩ := h
  unfold fr_law_6 at h
  refine lv_aload_n hx hb dL_law_480 rfl (lv_at hl 1 rfl) ?_
  obtain ⟨v2, M1, h1, h⟩ := ob2 h
  obtain ⟨hk1, h1⟩ := ifg h1
  refine kV1 (ci := 4) (As := []) (rest := []) hC hE hS hM (mt_X4_registerCount _ E x _ _ _ h1) (gwV qw_500 qw_501 qw_502 qw_92 qw_503) ⟨rfl, rfl, (Nat.le_of_ble_eq_true rfl), (Nat.le_of_ble_eq_true rfl)⟩ dd_X4_registerCount rfl hk1 rfl rfl hl.1 (Nat.le_of_ble_eq_true rfl) dL_law_481 ⟨by have := hcs.1; show _ ≤ 601024; omega, by have := hcs.2; show _ ≤ 7293034; omega⟩ (fun H locs hM hS => ?_)
  refine lv_aload_n hx hb dL_law_484 rfl (lv_at hl 2 rfl) ?_
  obtain ⟨v4, M3, h1, h⟩ := ob2 h
  obtain ⟨hk1, h1⟩ := ifg h1
  refine kV1 (ci := 5) (As := []) (rest := [.int v2]) hC hE hS hM (mt_X5_registerCount _ E mm _ _ _ h1) (gwV qw_1342 qw_1343 qw_1344 qw_103 qw_1345) ⟨rfl, rfl, (Nat.le_of_ble_eq_true rfl), (Nat.le_of_ble_eq_true rfl)⟩ dd_X5_registerCount rfl hk1 rfl rfl hl.1 (Nat.le_of_ble_eq_true rfl) dL_law_485 ⟨by have := hcs.1; show _ ≤ 601024; omega, by have := hcs.2; show _ ≤ 7293034; omega⟩ (fun H locs hM hS => ?_)
  refine lv_icmp_eq (tgt := 3228) hx hb dL_law_488 (by decide) (fun c1 => ?_) (fun c1 => ?_)
  · have h := ifp c1 h
    cases h
    refine W.widen (k := cells + 60) (n := slots + 3000) (by omega) (by omega) ?_
    exact hk _ _ _ _ hP hM hS (lv_sub hl [0, 1, 2, 3, 4] rfl)
  · have h := ifn c1 h
    refine lv_iconst (v := 0) hx hb dL_law_491 (by decide) ?_
    cases h

noncomputable def fr_law_7 (x mm out : Nat) (kv : Int32) (a1 : Int32) (a2 : Int32) (M3 : Mem) : Option Mem :=
  bn (cK 6 mm M3 (f_X5_versionEntry mm a1 a2 M3)) fun v4 M3 =>
  bn (cK 6 mm M3 (f_X5_thrown mm M3)) fun v6 M5 =>
  (if v6 = kv then
  (if kv = 0 then
  (gL out 0 M5).bind fun v7 =>
  (if (lg_cmp v7 v4.toInt64) = 0 then
  some M5
  else
  none)
  else
  some M5)
  else
  none)
/-- case 7: the wrapped call, and what follows it wherever the next address lies -/
def fk_law_7 (x mm out : Nat) (a1 : Int32) (a2 : Int32) (M : Mem) (P : Mem → Prop) : Prop := ∃ kv M1, f_L_versionEntry x a1 a2 out M = some (kv, M1) ∧ ∀ z, wfz (setZ M1 z) → ∃ M2, fr_law_7 x mm out kv a1 a2 (setZ M1 z) = some M2 ∧ P M2
set_option maxHeartbeats 4000000 in
set_option maxRecDepth 100000 in
theorem lc_7 {p : Program} {l : Launch} {e : Env} {s : State} {m : MethodId} {args : Array Value} {below : List Frame} {meth : Method} {c : Code} {E : KEnv} {H : Heap} {locs : List Loc} {ls : Array Slot} {cells slots : Nat} {Q : State → Prop} {M : Mem} {P : Mem → Prop} {b L x mm out : Nat} {xs : Nat → Int32} {x4 a1 a2 : Int32} (hfl : l.stackTraces = false) (hC : CallFix p m c code 9 s args lw_G RL) (hE : EnvOK E s) (hX : va_X b L xs s s.heap) (hbl : b < s.heap.size) (hbA : ¬ eA E b) (hin1 : vp_in (x4 + 1) L) (ha1 : xs (x4 + 1).toNatClampNeg = a1) (hin2 : vp_in (x4 + 2) L) (ha2 : xs (x4 + 2).toNatClampNeg = a2) (hcs : cells + 60 ≤ 601024 ∧ slots + 3000 ≤ 7293034) (hM : MOK E M H) (hS : va_S (eA E) s.heap H locs) (hl : lv_has ls 9 [(0, .ref b), (1, .ref x), (2, .ref mm), (3, .ref out), (4, .int x4)]) (h : fk_law_7 x mm out a1 a2 M P)
    (hk : ∀ (M2 : Mem) (H : Heap) (locs : List Loc) (ls : Array Slot), P M2 → MOK E M2 H → va_S (eA E) s.heap H locs → lv_has ls 9 [(0, .ref b), (1, .ref x), (2, .ref mm), (3, .ref out), (4, .int x4)] → W p l e room_1 s m args below meth c H locs (cells + 60) (slots + 3000) Q (F0 m 3228 ls [])) : W p l e room_1 s m args below meth c H locs cells slots Q (F0 m 493 ls []) := by
  obtain ⟨hx, hb, hml, hown, hts⟩ := id hC
  refine lv_aload_n hx hb dL_law_493 rfl (lv_at hl 1 rfl) ?_
  refine lv_aload_n hx hb dL_law_494 rfl (lv_at hl 0 rfl) ?_
  refine lv_iload hx hb dL_law_495 (lv_at hl 4 rfl) ?_
  refine lv_iconst (v := 1) hx hb dL_law_497 (by decide) ?_
  refine lv_iadd hx hb dL_law_498 ?_
  refine rsl hx hb hX hbl hbA hS hin1 ha1 dL_law_499 ?_
  refine lv_aload_n hx hb dL_law_500 rfl (lv_at hl 0 rfl) ?_
  refine lv_iload hx hb dL_law_501 (lv_at hl 4 rfl) ?_
  refine lv_iconst (v := 2) hx hb dL_law_503 (by decide) ?_
  refine lv_iadd hx hb dL_law_504 ?_
  refine rsl hx hb hX hbl hbA hS hin2 ha2 dL_law_505 ?_
  refine lv_aload_n hx hb dL_law_506 rfl (lv_at hl 3 rfl) ?_
  obtain ⟨kv, M1, h1, h⟩ := h
  refine kSW (As := [.ref x, .int a1, .int a2, .ref out]) (rest := []) hC hE hS hM (mt_L_versionEntry _ hfl E x a1 a2 out _ _ _ h1) (gwSW qw_716 qw_717 qw_91 qz_L_versionEntry) ⟨rfl, rfl, (Nat.le_of_ble_eq_true rfl), (Nat.le_of_ble_eq_true rfl)⟩ dd_L_versionEntry rfl rfl hl.1 (Nat.le_of_ble_eq_true rfl) dL_law_507 ⟨by have := hcs.1; show _ ≤ 601024; omega, by have := hcs.2; show _ ≤ 7293034; omega⟩ (fun z H locs hM hS => ?_)
  obtain ⟨M2, h, hP⟩ := h z (wfz_of hM)
  unfold fr_law_7 at h
  generalize setZ M1 z = M3 at h hM
  refine lv_istore (lv' := [(5, .int kv), (0, .ref b), (1, .ref x), (2, .ref mm), (3, .ref out), (4, .int x4)]) hx hb dL_law_510 hl (by decide) rfl (fun ls hl => ?_)
  refine lv_aload_n hx hb dL_law_512 rfl (lv_at hl 3 rfl) ?_
  refine lv_aload_n hx hb dL_law_513 rfl (lv_at hl 1 rfl) ?_
  refine lv_iload hx hb dL_law_514 (lv_at hl 5 rfl) ?_
  refine lv_iconst (v := 1) hx hb dL_law_516 (by decide) ?_
  refine lv_iadd hx hb dL_law_517 ?_
  refine rsl hx hb hX hbl hbA hS hin1 ha1 dL_law_518 ?_
  refine lv_aload_n hx hb dL_law_519 rfl (lv_at hl 1 rfl) ?_
  refine lv_iload hx hb dL_law_520 (lv_at hl 5 rfl) ?_
  refine lv_iconst (v := 2) hx hb dL_law_522 (by decide) ?_
  refine lv_iadd hx hb dL_law_523 ?_
  refine rsl hx hb hX hbl hbA hS hin2 ha2 dL_law_524 ?_
  obtain ⟨v4, M3, h1, h⟩ := ob2 h
  obtain ⟨hk1, h1⟩ := ifg h1
  refine kV1 (ci := 5) (As := [.int a1, .int a2]) (rest := []) hC hE hS hM (mt_X5_versionEntry _ E mm a1 a2 _ _ _ h1) (gwV qw_1346 qw_1347 qw_1348 qw_103 qw_1349) ⟨rfl, rfl, (Nat.le_of_ble_eq_true rfl), (Nat.le_of_ble_eq_true rfl)⟩ dd_X5_versionEntry rfl hk1 rfl rfl hl.1 (Nat.le_of_ble_eq_true rfl) dL_law_525 ⟨by have := hcs.1; show _ ≤ 601024; omega, by have := hcs.2; show _ ≤ 7293034; omega⟩ (fun H locs hM hS => ?_)
  refine lv_istore (lv' := [(6, .int v4), (5, .int kv), (0, .ref b), (1, .ref x), (2, .ref mm), (3, .ref out), (4, .int x4)]) hx hb dL_law_528 hl (by decide) rfl (fun ls hl => ?_)
  refine lv_aload_n hx hb dL_law_530 rfl (lv_at hl 4 rfl) ?_
  obtain ⟨v6, M5, h1, h⟩ := ob2 h
  obtain ⟨hk1, h1⟩ := ifg h1
  refine kV1 (ci := 5) (As := []) (rest := []) hC hE hS hM (mt_X5_thrown _ E mm _ _ _ h1) (gwV qw_1233 qw_1234 qw_1235 qw_103 qw_1236) ⟨rfl, rfl, (Nat.le_of_ble_eq_true rfl), (Nat.le_of_ble_eq_true rfl)⟩ dd_X5_thrown rfl hk1 rfl rfl hl.1 (Nat.le_of_ble_eq_true rfl) dL_law_531 ⟨by have := hcs.1; show _ ≤ 601024; omega, by have := hcs.2; show _ ≤ 7293034; omega⟩ (fun H locs hM hS => ?_)
  refine lv_iload hx hb dL_law_534 (lv_at hl 1 rfl) ?_
  refine lv_icmp_eq (tgt := 541) hx hb dL_law_536 (by decide) (fun c1 => ?_) (fun c1 => ?_)
  · have h := ifp c1 h
    refine lv_iload hx hb dL_law_541 (lv_at hl 1 rfl) ?_
    refine lv_if_ne (tgt := 558) hx hb dL_law_543 (by decide) (fun c1 => ?_) (fun c1 => ?_)
    · have h := ifn c1 h
      refine lv_goto (tgt := 3228) hx hb dL_law_558 (by decide) ?_
      cases h
      refine W.widen (k := cells + 60) (n := slots + 3000) (by omega) (by omega) ?_
      exact hk _ _ _ _ hP hM hS (lv_sub hl [2, 3, 4, 5, 6] rfl)
    · have h := ifp c1 h
      refine lv_aload_n hx hb dL_law_546 rfl (lv_at hl 5 rfl) ?_
      refine lv_iconst (v := 0) hx hb dL_law_547 (by decide) ?_
      obtain ⟨v7, h1, h⟩ := ob h
      refine r_lald hx hb hE hM h1 dL_law_548 ?_
      refine lv_iload hx hb dL_law_549 (lv_at hl 0 rfl) ?_
      refine lv_i2l (v := v4.toInt64) hx hb dL_law_551 rfl ?_
      refine W.lcmp hx hb dL_law_552 ?_
      refine lv_if_eq (tgt := 558) hx hb dL_law_553 (by decide) (fun c1 => ?_) (fun c1 => ?_)
      · have h := ifp c1 h
        refine lv_goto (tgt := 3228) hx hb dL_law_558 (by decide) ?_
        cases h
        refine W.widen (k := cells + 60) (n := slots + 3000) (by omega) (by omega) ?_
        exact hk _ _ _ _ hP hM hS (lv_sub hl [2, 3, 4, 5, 6] rfl)
      · have h := ifn c1 h
        refine lv_iconst (v := 0) hx hb dL_law_556 (by decide) ?_
        cases h
  · have h := ifn c1 h
    refine lv_iconst (v := 0) hx hb dL_law_539 (by decide) ?_
    cases h

noncomputable def fr_law_8 (x mm out : Nat) (kv : Int32) (a1 : Int32) (a2 : Int32) (M3 : Mem) : Option Mem :=
  bn (cK 6 mm M3 (f_X5_areEqual mm a1 a2 M3)) fun v4 M3 =>
  bn (cK 6 mm M3 (f_X5_thrown mm M3)) fun v6 M5 =>
  (if v6 = kv then
  (if kv = 0 then
  (gL out 0 M5).bind fun v7 =>
  (if v4 = 0 then
  (if (lg_cmp v7 0) = 0 then
  some M5
  else
  none)
  else
  (if (lg_cmp v7 1) = 0 then
  some M5
  else
  none))
  else
  some M5)
  else
  none)
/-- case 8: the wrapped call, and what follows it wherever the next address lies -/
def fk_law_8 (x mm out : Nat) (a1 : Int32) (a2 : Int32) (M : Mem) (P : Mem → Prop) : Prop := ∃ kv M1, f_L_areEqual x a1 a2 out M = some (kv, M1) ∧ ∀ z, wfz (setZ M1 z) → ∃ M2, fr_law_8 x mm out kv a1 a2 (setZ M1 z) = some M2 ∧ P M2
set_option maxHeartbeats 4000000 in
set_option maxRecDepth 100000 in
theorem lc_8 {p : Program} {l : Launch} {e : Env} {s : State} {m : MethodId} {args : Array Value} {below : List Frame} {meth : Method} {c : Code} {E : KEnv} {H : Heap} {locs : List Loc} {ls : Array Slot} {cells slots : Nat} {Q : State → Prop} {M : Mem} {P : Mem → Prop} {b L x mm out : Nat} {xs : Nat → Int32} {x4 a1 a2 : Int32} (hfl : l.stackTraces = false) (hC : CallFix p m c code 9 s args lw_G RL) (hE : EnvOK E s) (hX : va_X b L xs s s.heap) (hbl : b < s.heap.size) (hbA : ¬ eA E b) (hin1 : vp_in (x4 + 1) L) (ha1 : xs (x4 + 1).toNatClampNeg = a1) (hin2 : vp_in (x4 + 2) L) (ha2 : xs (x4 + 2).toNatClampNeg = a2) (hcs : cells + 60 ≤ 601024 ∧ slots + 3000 ≤ 7293034) (hM : MOK E M H) (hS : va_S (eA E) s.heap H locs) (hl : lv_has ls 9 [(0, .ref b), (1, .ref x), (2, .ref mm), (3, .ref out), (4, .int x4)]) (h : fk_law_8 x mm out a1 a2 M P)
    (hk : ∀ (M2 : Mem) (H : Heap) (locs : List Loc) (ls : Array Slot), P M2 → MOK E M2 H → va_S (eA E) s.heap H locs → lv_has ls 9 [(0, .ref b), (1, .ref x), (2, .ref mm), (3, .ref out), (4, .int x4)] → W p l e room_1 s m args below meth c H locs (cells + 60) (slots + 3000) Q (F0 m 3228 ls [])) : W p l e room_1 s m args below meth c H locs cells slots Q (F0 m 561 ls []) := by
  obtain ⟨hx, hb, hml, hown, hts⟩ := id hC
  refine lv_aload_n hx hb dL_law_561 rfl (lv_at hl 1 rfl) ?_
  refine lv_aload_n hx hb dL_law_562 rfl (lv_at hl 0 rfl) ?_
  refine lv_iload hx hb dL_law_563 (lv_at hl 4 rfl) ?_
  refine lv_iconst (v := 1) hx hb dL_law_565 (by decide) ?_
  refine lv_iadd hx hb dL_law_566 ?_
  refine rsl hx hb hX hbl hbA hS hin1 ha1 dL_law_567 ?_
  refine lv_aload_n hx hb dL_law_568 rfl (lv_at hl 0 rfl) ?_
  refine lv_iload hx hb dL_law_569 (lv_at hl 4 rfl) ?_
  refine lv_iconst (v := 2) hx hb dL_law_571 (by decide) ?_
  refine lv_iadd hx hb dL_law_572 ?_
  refine rsl hx hb hX hbl hbA hS hin2 ha2 dL_law_573 ?_
  refine lv_aload_n hx hb dL_law_574 rfl (lv_at hl 3 rfl) ?_
  obtain ⟨kv, M1, h1, h⟩ := h
  refine kSW (As := [.ref x, .int a1, .int a2, .ref out]) (rest := []) hC hE hS hM (mt_L_areEqual _ hfl E x a1 a2 out _ _ _ h1) (gwSW qw_736 qw_737 qw_91 qz_L_areEqual) ⟨rfl, rfl, (Nat.le_of_ble_eq_true rfl), (Nat.le_of_ble_eq_true rfl)⟩ dd_L_areEqual rfl rfl hl.1 (Nat.le_of_ble_eq_true rfl) dL_law_575 ⟨by have := hcs.1; show _ ≤ 601024; omega, by have := hcs.2; show _ ≤ 7293034; omega⟩ (fun z H locs hM hS => ?_)
  obtain ⟨M2, h, hP⟩ := h z (wfz_of hM)
  unfold fr_law_8 at h
  generalize setZ M1 z = M3 at h hM
  refine lv_istore (lv' := [(5, .int kv), (0, .ref b), (1, .ref x), (2, .ref mm), (3, .ref out), (4, .int x4)]) hx hb dL_law_578 hl (by decide) rfl (fun ls hl => ?_)
  refine lv_aload_n hx hb dL_law_580 rfl (lv_at hl 3 rfl) ?_
  refine lv_aload_n hx hb dL_law_581 rfl (lv_at hl 1 rfl) ?_
  refine lv_iload hx hb dL_law_582 (lv_at hl 5 rfl) ?_
  refine lv_iconst (v := 1) hx hb dL_law_584 (by decide) ?_
  refine lv_iadd hx hb dL_law_585 ?_
  refine rsl hx hb hX hbl hbA hS hin1 ha1 dL_law_586 ?_
  refine lv_aload_n hx hb dL_law_587 rfl (lv_at hl 1 rfl) ?_
  refine lv_iload hx hb dL_law_588 (lv_at hl 5 rfl) ?_
  refine lv_iconst (v := 2) hx hb dL_law_590 (by decide) ?_
  refine lv_iadd hx hb dL_law_591 ?_
  refine rsl hx hb hX hbl hbA hS hin2 ha2 dL_law_592 ?_
  obtain ⟨v4, M3, h1, h⟩ := ob2 h
  obtain ⟨hk1, h1⟩ := ifg h1
  refine kV1 (ci := 5) (As := [.int a1, .int a2]) (rest := []) hC hE hS hM (mt_X5_areEqual _ E mm a1 a2 _ _ _ h1) (gwV qw_1358 qw_1359 qw_1360 qw_103 qw_1361) ⟨rfl, rfl, (Nat.le_of_ble_eq_true rfl), (Nat.le_of_ble_eq_true rfl)⟩ dd_X5_areEqual rfl hk1 rfl rfl hl.1 (Nat.le_of_ble_eq_true rfl) dL_law_593 ⟨by have := hcs.1; show _ ≤ 601024; omega, by have := hcs.2; show _ ≤ 7293034; omega⟩ (fun H locs hM hS => ?_)
  refine lv_istore (lv' := [(6, .int v4), (5, .int kv), (0, .ref b), (1, .ref x), (2, .ref mm), (3, .ref out), (4, .int x4)]) hx hb dL_law_596 hl (by decide) rfl (fun ls hl => ?_)
  refine lv_aload_n hx hb dL_law_598 rfl (lv_at hl 4 rfl) ?_
  obtain ⟨v6, M5, h1, h⟩ := ob2 h
  obtain ⟨hk1, h1⟩ := ifg h1
  refine kV1 (ci := 5) (As := []) (rest := []) hC hE hS hM (mt_X5_thrown _ E mm _ _ _ h1) (gwV qw_1233 qw_1234 qw_1235 qw_103 qw_1236) ⟨rfl, rfl, (Nat.le_of_ble_eq_true rfl), (Nat.le_of_ble_eq_true rfl)⟩ dd_X5_thrown rfl hk1 rfl rfl hl.1 (Nat.le_of_ble_eq_true rfl) dL_law_599 ⟨by have := hcs.1; show _ ≤ 601024; omega, by have := hcs.2; show _ ≤ 7293034; omega⟩ (fun H locs hM hS => ?_)
  refine lv_iload hx hb dL_law_602 (lv_at hl 1 rfl) ?_
  refine lv_icmp_eq (tgt := 609) hx hb dL_law_604 (by decide) (fun c1 => ?_) (fun c1 => ?_)
  · have h := ifp c1 h
    refine lv_iload hx hb dL_law_609 (lv_at hl 1 rfl) ?_
    refine lv_if_ne (tgt := 633) hx hb dL_law_611 (by decide) (fun c1 => ?_) (fun c1 => ?_)
    · have h := ifn c1 h
      refine lv_goto (tgt := 3228) hx hb dL_law_633 (by decide) ?_
      cases h
      refine W.widen (k := cells + 60) (n := slots + 3000) (by omega) (by omega) ?_
      exact hk _ _ _ _ hP hM hS (lv_sub hl [2, 3, 4, 5, 6] rfl)
    · have h := ifp c1 h
      refine lv_aload_n hx hb dL_law_614 rfl (lv_at hl 5 rfl) ?_
      refine lv_iconst (v := 0) hx hb dL_law_615 (by decide) ?_
      obtain ⟨v7, h1, h⟩ := ob h
      refine r_lald hx hb hE hM h1 dL_law_616 ?_
      refine lv_iload hx hb dL_law_617 (lv_at hl 0 rfl) ?_
      refine lv_if_eq (tgt := 626) hx hb dL_law_619 (by decide) (fun c1 => ?_) (fun c1 => ?_)
      · have h := ifp c1 h
        refine lv_lconst (v := 0) hx hb dL_law_626 (by decide) ?_
        refine W.lcmp hx hb dL_law_627 ?_
        refine lv_if_eq (tgt := 633) hx hb dL_law_628 (by decide) (fun c1 => ?_) (fun c1 => ?_)
        · have h := ifp c1 h
          refine lv_goto (tgt := 3228) hx hb dL_law_633 (by decide) ?_
          cases h
          refine W.widen (k := cells + 60) (n := slots + 3000) (by omega) (by omega) ?_
          exact hk _ _ _ _ hP hM hS (lv_sub hl [2, 3, 4, 5, 6] rfl)
        · have h := ifn c1 h
          refine lv_iconst (v := 0) hx hb dL_law_631 (by decide) ?_
          cases h
      · have h := ifn c1 h
        refine lv_lconst (v := 1) hx hb dL_law_622 (by decide) ?_
        refine lv_goto (tgt := 627) hx hb dL_law_623 (by decide) ?_
        refine W.lcmp hx hb dL_law_627 ?_
        refine lv_if_eq (tgt := 633) hx hb dL_law_628 (by decide) (fun c1 => ?_) (fun c1 => ?_)
        · have h := ifp c1 h
          refine lv_goto (tgt := 3228) hx hb dL_law_633 (by decide) ?_
          cases h
          refine W.widen (k := cells + 60) (n := slots + 3000) (by omega) (by omega) ?_
          exact hk _ _ _ _ hP hM hS (lv_sub hl [2, 3, 4, 5, 6] rfl)
        · have h := ifn c1 h
          refine lv_iconst (v := 0) hx hb dL_law_631 (by decide) ?_
          cases h
  · have h := ifn c1 h
    refine lv_iconst (v := 0) hx hb dL_law_607 (by decide) ?_
    cases h

noncomputable def fr_law_9 (x mm out : Nat) (kv : Int32) (a1 : Int32) (a2 : Int32) (M3 : Mem) : Option Mem :=
  bn (cK 6 mm M3 (f_X5_covers mm a1 a2 M3)) fun v4 M3 =>
  bn (cK 6 mm M3 (f_X5_thrown mm M3)) fun v6 M5 =>
  (if v6 = kv then
  (if kv = 0 then
  (gL out 0 M5).bind fun v7 =>
  (if v4 = 0 then
  (if (lg_cmp v7 0) = 0 then
  some M5
  else
  none)
  else
  (if (lg_cmp v7 1) = 0 then
  some M5
  else
  none))
  else
  some M5)
  else
  none)
/-- case 9: the wrapped call, and what follows it wherever the next address lies -/
def fk_law_9 (x mm out : Nat) (a1 : Int32) (a2 : Int32) (M : Mem) (P : Mem → Prop) : Prop := ∃ kv M1, f_L_covers x a1 a2 out M = some (kv, M1) ∧ ∀ z, wfz (setZ M1 z) → ∃ M2, fr_law_9 x mm out kv a1 a2 (setZ M1 z) = some M2 ∧ P M2
set_option maxHeartbeats 4000000 in
set_option maxRecDepth 100000 in
theorem lc_9 {p : Program} {l : Launch} {e : Env} {s : State} {m : MethodId} {args : Array Value} {below : List Frame} {meth : Method} {c : Code} {E : KEnv} {H : Heap} {locs : List Loc} {ls : Array Slot} {cells slots : Nat} {Q : State → Prop} {M : Mem} {P : Mem → Prop} {b L x mm out : Nat} {xs : Nat → Int32} {x4 a1 a2 : Int32} (hfl : l.stackTraces = false) (hC : CallFix p m c code 9 s args lw_G RL) (hE : EnvOK E s) (hX : va_X b L xs s s.heap) (hbl : b < s.heap.size) (hbA : ¬ eA E b) (hin1 : vp_in (x4 + 1) L) (ha1 : xs (x4 + 1).toNatClampNeg = a1) (hin2 : vp_in (x4 + 2) L) (ha2 : xs (x4 + 2).toNatClampNeg = a2) (hcs : cells + 60 ≤ 601024 ∧ slots + 3000 ≤ 7293034) (hM : MOK E M H) (hS : va_S (eA E) s.heap H locs) (hl : lv_has ls 9 [(0, .ref b), (1, .ref x), (2, .ref mm), (3, .ref out), (4, .int x4)]) (h : fk_law_9 x mm out a1 a2 M P)
    (hk : ∀ (M2 : Mem) (H : Heap) (locs : List Loc) (ls : Array Slot), P M2 → MOK E M2 H → va_S (eA E) s.heap H locs → lv_has ls 9 [(0, .ref b), (1, .ref x), (2, .ref mm), (3, .ref out), (4, .int x4)] → W p l e room_1 s m args below meth c H locs (cells + 60) (slots + 3000) Q (F0 m 3228 ls [])) : W p l e room_1 s m args below meth c H locs cells slots Q (F0 m 636 ls []) := by
  obtain ⟨hx, hb, hml, hown, hts⟩ := id hC
  refine lv_aload_n hx hb dL_law_636 rfl (lv_at hl 1 rfl) ?_
  refine lv_aload_n hx hb dL_law_637 rfl (lv_at hl 0 rfl) ?_
  refine lv_iload hx hb dL_law_638 (lv_at hl 4 rfl) ?_
  refine lv_iconst (v := 1) hx hb dL_law_640 (by decide) ?_
  refine lv_iadd hx hb dL_law_641 ?_
  refine rsl hx hb hX hbl hbA hS hin1 ha1 dL_law_642 ?_
  refine lv_aload_n hx hb dL_law_643 rfl (lv_at hl 0 rfl) ?_
  refine lv_iload hx hb dL_law_644 (lv_at hl 4 rfl) ?_
  refine lv_iconst (v := 2) hx hb dL_law_646 (by decide) ?_
  refine lv_iadd hx hb dL_law_647 ?_
  refine rsl hx hb hX hbl hbA hS hin2 ha2 dL_law_648 ?_
  refine lv_aload_n hx hb dL_law_649 rfl (lv_at hl 3 rfl) ?_
  obtain ⟨kv, M1, h1, h⟩ := h
  refine kSW (As := [.ref x, .int a1, .int a2, .ref out]) (rest := []) hC hE hS hM (mt_L_covers _ hfl E x a1 a2 out _ _ _ h1) (gwSW qw_743 qw_744 qw_91 qz_L_covers) ⟨rfl, rfl, (Nat.le_of_ble_eq_true rfl), (Nat.le_of_ble_eq_true rfl)⟩ dd_L_covers rfl rfl hl.1 (Nat.le_of_ble_eq_true rfl) dL_law_650 ⟨by have := hcs.1; show _ ≤ 601024; omega, by have := hcs.2; show _ ≤ 7293034; omega⟩ (fun z H locs hM hS => ?_)
  obtain ⟨M2, h, hP⟩ := h z (wfz_of hM)
  unfold fr_law_9 at h
  generalize setZ M1 z = M3 at h hM
  refine lv_istore (lv' := [(5, .int kv), (0, .ref b), (1, .ref x), (2, .ref mm), (3, .ref out), (4, .int x4)]) hx hb dL_law_653 hl (by decide) rfl (fun ls hl => ?_)
  refine lv_aload_n hx hb dL_law_655 rfl (lv_at hl 3 rfl) ?_
  refine lv_aload_n hx hb dL_law_656 rfl (lv_at hl 1 rfl) ?_
  refine lv_iload hx hb dL_law_657 (lv_at hl 5 rfl) ?_
  refine lv_iconst (v := 1) hx hb dL_law_659 (by decide) ?_
  refine lv_iadd hx hb dL_law_660 ?_
  refine rsl hx hb hX hbl hbA hS hin1 ha1 dL_law_661 ?_
  refine lv_aload_n hx hb dL_law_662 rfl (lv_at hl 1 rfl) ?_
  refine lv_iload hx hb dL_law_663 (lv_at hl 5 rfl) ?_
  refine lv_iconst (v := 2) hx hb dL_law_665 (by decide) ?_
  refine lv_iadd hx hb dL_law_666 ?_
  refine rsl hx hb hX hbl hbA hS hin2 ha2 dL_law_667 ?_
  obtain ⟨v4, M3, h1, h⟩ := ob2 h
  obtain ⟨hk1, h1⟩ := ifg h1
  refine kV1 (ci := 5) (As := [.int a1, .int a2]) (rest := []) hC hE hS hM (mt_X5_covers _ E mm a1 a2 _ _ _ h1) (gwV qw_1374 qw_1375 qw_1376 qw_103 qw_1377) ⟨rfl, rfl, (Nat.le_of_ble_eq_true rfl), (Nat.le_of_ble_eq_true rfl)⟩ dd_X5_covers rfl hk1 rfl rfl hl.1 (Nat.le_of_ble_eq_true rfl) dL_law_668 ⟨by have := hcs.1; show _ ≤ 601024; omega, by have := hcs.2; show _ ≤ 7293034; omega⟩ (fun H locs hM hS => ?_)
  refine lv_istore (lv' := [(6, .int v4), (5, .int kv), (0, .ref b), (1, .ref x), (2, .ref mm), (3, .ref out), (4, .int x4)]) hx hb dL_law_671 hl (by decide) rfl (fun ls hl => ?_)
  refine lv_aload_n hx hb dL_law_673 rfl (lv_at hl 4 rfl) ?_
  obtain ⟨v6, M5, h1, h⟩ := ob2 h
  obtain ⟨hk1, h1⟩ := ifg h1
  refine kV1 (ci := 5) (As := []) (rest := []) hC hE hS hM (mt_X5_thrown _ E mm _ _ _ h1) (gwV qw_1233 qw_1234 qw_1235 qw_103 qw_1236) ⟨rfl, rfl, (Nat.le_of_ble_eq_true rfl), (Nat.le_of_ble_eq_true rfl)⟩ dd_X5_thrown rfl hk1 rfl rfl hl.1 (Nat.le_of_ble_eq_true rfl) dL_law_674 ⟨by have := hcs.1; show _ ≤ 601024; omega, by have := hcs.2; show _ ≤ 7293034; omega⟩ (fun H locs hM hS => ?_)
  refine lv_iload hx hb dL_law_677 (lv_at hl 1 rfl) ?_
  refine lv_icmp_eq (tgt := 684) hx hb dL_law_679 (by decide) (fun c1 => ?_) (fun c1 => ?_)
  · have h := ifp c1 h
    refine lv_iload hx hb dL_law_684 (lv_at hl 1 rfl) ?_
    refine lv_if_ne (tgt := 708) hx hb dL_law_686 (by decide) (fun c1 => ?_) (fun c1 => ?_)
    · have h := ifn c1 h
      refine lv_goto (tgt := 3228) hx hb dL_law_708 (by decide) ?_
      cases h
      refine W.widen (k := cells + 60) (n := slots + 3000) (by omega) (by omega) ?_
      exact hk _ _ _ _ hP hM hS (lv_sub hl [2, 3, 4, 5, 6] rfl)
    · have h := ifp c1 h
      refine lv_aload_n hx hb dL_law_689 rfl (lv_at hl 5 rfl) ?_
      refine lv_iconst (v := 0) hx hb dL_law_690 (by decide) ?_
      obtain ⟨v7, h1, h⟩ := ob h
      refine r_lald hx hb hE hM h1 dL_law_691 ?_
      refine lv_iload hx hb dL_law_692 (lv_at hl 0 rfl) ?_
      refine lv_if_eq (tgt := 701) hx hb dL_law_694 (by decide) (fun c1 => ?_) (fun c1 => ?_)
      · have h := ifp c1 h
        refine lv_lconst (v := 0) hx hb dL_law_701 (by decide) ?_
        refine W.lcmp hx hb dL_law_702 ?_
        refine lv_if_eq (tgt := 708) hx hb dL_law_703 (by decide) (fun c1 => ?_) (fun c1 => ?_)
        · have h := ifp c1 h
          refine lv_goto (tgt := 3228) hx hb dL_law_708 (by decide) ?_
          cases h
          refine W.widen (k := cells + 60) (n := slots + 3000) (by omega) (by omega) ?_
          exact hk _ _ _ _ hP hM hS (lv_sub hl [2, 3, 4, 5, 6] rfl)
        · have h := ifn c1 h
          refine lv_iconst (v := 0) hx hb dL_law_706 (by decide) ?_
          cases h
      · have h := ifn c1 h
        refine lv_lconst (v := 1) hx hb dL_law_697 (by decide) ?_
        refine lv_goto (tgt := 702) hx hb dL_law_698 (by decide) ?_
        refine W.lcmp hx hb dL_law_702 ?_
        refine lv_if_eq (tgt := 708) hx hb dL_law_703 (by decide) (fun c1 => ?_) (fun c1 => ?_)
        · have h := ifp c1 h
          refine lv_goto (tgt := 3228) hx hb dL_law_708 (by decide) ?_
          cases h
          refine W.widen (k := cells + 60) (n := slots + 3000) (by omega) (by omega) ?_
          exact hk _ _ _ _ hP hM hS (lv_sub hl [2, 3, 4, 5, 6] rfl)
        · have h := ifn c1 h
          refine lv_iconst (v := 0) hx hb dL_law_706 (by decide) ?_
          cases h
  · have h := ifn c1 h
    refine lv_iconst (v := 0) hx hb dL_law_682 (by decide) ?_
    cases h

noncomputable def fr_law_10 (x mm out : Nat) (kv : Int32) (a1 : Int32) (a2 : Int32) (M3 : Mem) : Option Mem :=
  bn (cK 6 mm M3 (f_X5_areConcurrent mm a1 a2 M3)) fun v4 M3 =>
  bn (cK 6 mm M3 (f_X5_thrown mm M3)) fun v6 M5 =>
  (if v6 = kv then
  (if kv = 0 then
  (gL out 0 M5).bind fun v7 =>
  (if v4 = 0 then
  (if (lg_cmp v7 0) = 0 then
  some M5
  else
  none)
  else
  (if (lg_cmp v7 1) = 0 then
  some M5
  else
  none))
  else
  some M5)
  else
  none)
/-- case 10: the wrapped call, and what follows it wherever the next address lies -/
def fk_law_10 (x mm out : Nat) (a1 : Int32) (a2 : Int32) (M : Mem) (P : Mem → Prop) : Prop := ∃ kv M1, f_L_areConcurrent x a1 a2 out M = some (kv, M1) ∧ ∀ z, wfz (setZ M1 z) → ∃ M2, fr_law_10 x mm out kv a1 a2 (setZ M1 z) = some M2 ∧ P M2
set_option maxHeartbeats 4000000 in
set_option maxRecDepth 100000 in
theorem lc_10 {p : Program} {l : Launch} {e : Env} {s : State} {m : MethodId} {args : Array Value} {below : List Frame} {meth : Method} {c : Code} {E : KEnv} {H : Heap} {locs : List Loc} {ls : Array Slot} {cells slots : Nat} {Q : State → Prop} {M : Mem} {P : Mem → Prop} {b L x mm out : Nat} {xs : Nat → Int32} {x4 a1 a2 : Int32} (hfl : l.stackTraces = false) (hC : CallFix p m c code 9 s args lw_G RL) (hE : EnvOK E s) (hX : va_X b L xs s s.heap) (hbl : b < s.heap.size) (hbA : ¬ eA E b) (hin1 : vp_in (x4 + 1) L) (ha1 : xs (x4 + 1).toNatClampNeg = a1) (hin2 : vp_in (x4 + 2) L) (ha2 : xs (x4 + 2).toNatClampNeg = a2) (hcs : cells + 60 ≤ 601024 ∧ slots + 3000 ≤ 7293034) (hM : MOK E M H) (hS : va_S (eA E) s.heap H locs) (hl : lv_has ls 9 [(0, .ref b), (1, .ref x), (2, .ref mm), (3, .ref out), (4, .int x4)]) (h : fk_law_10 x mm out a1 a2 M P)
    (hk : ∀ (M2 : Mem) (H : Heap) (locs : List Loc) (ls : Array Slot), P M2 → MOK E M2 H → va_S (eA E) s.heap H locs → lv_has ls 9 [(0, .ref b), (1, .ref x), (2, .ref mm), (3, .ref out), (4, .int x4)] → W p l e room_1 s m args below meth c H locs (cells + 60) (slots + 3000) Q (F0 m 3228 ls [])) : W p l e room_1 s m args below meth c H locs cells slots Q (F0 m 711 ls []) := by
  obtain ⟨hx, hb, hml, hown, hts⟩ := id hC
  refine lv_aload_n hx hb dL_law_711 rfl (lv_at hl 1 rfl) ?_
  refine lv_aload_n hx hb dL_law_712 rfl (lv_at hl 0 rfl) ?_
  refine lv_iload hx hb dL_law_713 (lv_at hl 4 rfl) ?_
  refine lv_iconst (v := 1) hx hb dL_law_715 (by decide) ?_
  refine lv_iadd hx hb dL_law_716 ?_
  refine rsl hx hb hX hbl hbA hS hin1 ha1 dL_law_717 ?_
  refine lv_aload_n hx hb dL_law_718 rfl (lv_at hl 0 rfl) ?_
  refine lv_iload hx hb dL_law_719 (lv_at hl 4 rfl) ?_
  refine lv_iconst (v := 2) hx hb dL_law_721 (by decide) ?_
  refine lv_iadd hx hb dL_law_722 ?_
  refine rsl hx hb hX hbl hbA hS hin2 ha2 dL_law_723 ?_
  refine lv_aload_n hx hb dL_law_724 rfl (lv_at hl 3 rfl) ?_
  obtain ⟨kv, M1, h1, h⟩ := h
  refine kSW (As := [.ref x, .int a1, .int a2, .ref out]) (rest := []) hC hE hS hM (mt_L_areConcurrent _ hfl E x a1 a2 out _ _ _ h1) (gwSW qw_750 qw_751 qw_91 qz_L_areConcurrent) ⟨rfl, rfl, (Nat.le_of_ble_eq_true rfl), (Nat.le_of_ble_eq_true rfl)⟩ dd_L_areConcurrent rfl rfl hl.1 (Nat.le_of_ble_eq_true rfl) dL_law_725 ⟨by have := hcs.1; show _ ≤ 601024; omega, by have := hcs.2; show _ ≤ 7293034; omega⟩ (fun z H locs hM hS => ?_)
  obtain ⟨M2, h, hP⟩ := h z (wfz_of hM)
  unfold fr_law_10 at h
  generalize setZ M1 z = M3 at h hM
  refine lv_istore (lv' := [(5, .int kv), (0, .ref b), (1, .ref x), (2, .ref mm), (3, .ref out), (4, .int x4)]) hx hb dL_law_728 hl (by decide) rfl (fun ls hl => ?_)
  refine lv_aload_n hx hb dL_law_730 rfl (lv_at hl 3 rfl) ?_
  refine lv_aload_n hx hb dL_law_731 rfl (lv_at hl 1 rfl) ?_
  refine lv_iload hx hb dL_law_732 (lv_at hl 5 rfl) ?_
  refine lv_iconst (v := 1) hx hb dL_law_734 (by decide) ?_
  refine lv_iadd hx hb dL_law_735 ?_
  refine rsl hx hb hX hbl hbA hS hin1 ha1 dL_law_736 ?_
  refine lv_aload_n hx hb dL_law_737 rfl (lv_at hl 1 rfl) ?_
  refine lv_iload hx hb dL_law_738 (lv_at hl 5 rfl) ?_
  refine lv_iconst (v := 2) hx hb dL_law_740 (by decide) ?_
  refine lv_iadd hx hb dL_law_741 ?_
  refine rsl hx hb hX hbl hbA hS hin2 ha2 dL_law_742 ?_
  obtain ⟨v4, M3, h1, h⟩ := ob2 h
  obtain ⟨hk1, h1⟩ := ifg h1
  refine kV1 (ci := 5) (As := [.int a1, .int a2]) (rest := []) hC hE hS hM (mt_X5_areConcurrent _ E mm a1 a2 _ _ _ h1) (gwV qw_1382 qw_1383 qw_1384 qw_103 qw_1385) ⟨rfl, rfl, (Nat.le_of_ble_eq_true rfl), (Nat.le_of_ble_eq_true rfl)⟩ dd_X5_areConcurrent rfl hk1 rfl rfl hl.1 (Nat.le_of_ble_eq_true rfl) dL_law_743 ⟨by have := hcs.1; show _ ≤ 601024; omega, by have := hcs.2; show _ ≤ 7293034; omega⟩ (fun H locs hM hS => ?_)
  refine lv_istore (lv' := [(6, .int v4), (5, .int kv), (0, .ref b), (1, .ref x), (2, .ref mm), (3, .ref out), (4, .int x4)]) hx hb dL_law_746 hl (by decide) rfl (fun ls hl => ?_)
  refine lv_aload_n hx hb dL_law_748 rfl (lv_at hl 4 rfl) ?_
  obtain ⟨v6, M5, h1, h⟩ := ob2 h
  obtain ⟨hk1, h1⟩ := ifg h1
  refine kV1 (ci := 5) (As := []) (rest := []) hC hE hS hM (mt_X5_thrown _ E mm _ _ _ h1) (gwV qw_1233 qw_1234 qw_1235 qw_103 qw_1236) ⟨rfl, rfl, (Nat.le_of_ble_eq_true rfl), (Nat.le_of_ble_eq_true rfl)⟩ dd_X5_thrown rfl hk1 rfl rfl hl.1 (Nat.le_of_ble_eq_true rfl) dL_law_749 ⟨by have := hcs.1; show _ ≤ 601024; omega, by have := hcs.2; show _ ≤ 7293034; omega⟩ (fun H locs hM hS => ?_)
  refine lv_iload hx hb dL_law_752 (lv_at hl 1 rfl) ?_
  refine lv_icmp_eq (tgt := 759) hx hb dL_law_754 (by decide) (fun c1 => ?_) (fun c1 => ?_)
  · have h := ifp c1 h
    refine lv_iload hx hb dL_law_759 (lv_at hl 1 rfl) ?_
    refine lv_if_ne (tgt := 783) hx hb dL_law_761 (by decide) (fun c1 => ?_) (fun c1 => ?_)
    · have h := ifn c1 h
      refine lv_goto (tgt := 3228) hx hb dL_law_783 (by decide) ?_
      cases h
      refine W.widen (k := cells + 60) (n := slots + 3000) (by omega) (by omega) ?_
      exact hk _ _ _ _ hP hM hS (lv_sub hl [2, 3, 4, 5, 6] rfl)
    · have h := ifp c1 h
      refine lv_aload_n hx hb dL_law_764 rfl (lv_at hl 5 rfl) ?_
      refine lv_iconst (v := 0) hx hb dL_law_765 (by decide) ?_
      obtain ⟨v7, h1, h⟩ := ob h
      refine r_lald hx hb hE hM h1 dL_law_766 ?_
      refine lv_iload hx hb dL_law_767 (lv_at hl 0 rfl) ?_
      refine lv_if_eq (tgt := 776) hx hb dL_law_769 (by decide) (fun c1 => ?_) (fun c1 => ?_)
      · have h := ifp c1 h
        refine lv_lconst (v := 0) hx hb dL_law_776 (by decide) ?_
        refine W.lcmp hx hb dL_law_777 ?_
        refine lv_if_eq (tgt := 783) hx hb dL_law_778 (by decide) (fun c1 => ?_) (fun c1 => ?_)
        · have h := ifp c1 h
          refine lv_goto (tgt := 3228) hx hb dL_law_783 (by decide) ?_
          cases h
          refine W.widen (k := cells + 60) (n := slots + 3000) (by omega) (by omega) ?_
          exact hk _ _ _ _ hP hM hS (lv_sub hl [2, 3, 4, 5, 6] rfl)
        · have h := ifn c1 h
          refine lv_iconst (v := 0) hx hb dL_law_781 (by decide) ?_
          cases h
      · have h := ifn c1 h
        refine lv_lconst (v := 1) hx hb dL_law_772 (by decide) ?_
        refine lv_goto (tgt := 777) hx hb dL_law_773 (by decide) ?_
        refine W.lcmp hx hb dL_law_777 ?_
        refine lv_if_eq (tgt := 783) hx hb dL_law_778 (by decide) (fun c1 => ?_) (fun c1 => ?_)
        · have h := ifp c1 h
          refine lv_goto (tgt := 3228) hx hb dL_law_783 (by decide) ?_
          cases h
          refine W.widen (k := cells + 60) (n := slots + 3000) (by omega) (by omega) ?_
          exact hk _ _ _ _ hP hM hS (lv_sub hl [2, 3, 4, 5, 6] rfl)
        · have h := ifn c1 h
          refine lv_iconst (v := 0) hx hb dL_law_781 (by decide) ?_
          cases h
  · have h := ifn c1 h
    refine lv_iconst (v := 0) hx hb dL_law_757 (by decide) ?_
    cases h

noncomputable def fr_law_11 (x mm out : Nat) (M : Mem) : Option Mem :=
  bn (cK 5 x M (f_X4_differentStates x M)) fun v2 M1 =>
  bn (cK 6 mm M1 (f_X5_differentStates mm M1)) fun v4 M3 =>
  (if v2 = v4 then
  some M3
  else
  none)
/-- case 11 -/
def fk_law_11 (x mm out : Nat) (M : Mem) (P : Mem → Prop) : Prop := ∃ M2, fr_law_11 x mm out M = some M2 ∧ P M2
set_option maxHeartbeats 4000000 in
set_option maxRecDepth 100000 in
theorem lc_11 {p : Program} {l : Launch} {e : Env} {s : State} {m : MethodId} {args : Array Value} {below : List Frame} {meth : Method} {c : Code} {E : KEnv} {H : Heap} {locs : List Loc} {ls : Array Slot} {cells slots : Nat} {Q : State → Prop} {M : Mem} {P : Mem → Prop} {b L x mm out : Nat} {xs : Nat → Int32} {x4 : Int32} (hfl : l.stackTraces = false) (hC : CallFix p m c code 9 s args lw_G RL) (hE : EnvOK E s) (hX : va_X b L xs s s.heap) (hbl : b < s.heap.size) (hbA : ¬ eA E b) (hcs : cells + 60 ≤ 601024 ∧ slots + 3000 ≤ 7293034) (hM : MOK E M H) (hS : va_S (eA E) s.heap H locs) (hl : lv_has ls 9 [(0, .ref b), (1, .ref x), (2, .ref mm), (3, .ref out), (4, .int x4)]) (h : fk_law_11 x mm out M P)
    (hk : ∀ (M2 : Mem) (H : Heap) (locs : List Loc) (ls : Array Slot), P M2 → MOK E M2 H → va_S (eA E) s.heap H locs → lv_has ls 9 [(0, .ref b), (1, .ref x), (2, .ref mm), (3, .ref out), (4, .int x4)] → W p l e room_1 s m args below meth c H locs (cells + 60) (slots + 3000) Q (F0 m 3228 ls [])) : W p l e room_1 s m args below meth c H locs cells slots Q (F0 m 786 ls []) := by
  obtain ⟨hx, hb, hml, hown, hts⟩ := id hC
  obtain ⟨M2, h, hP⟩ := h
  unfold fr_law_11 at h
  refine lv_aload_n hx hb dL_law_786 rfl (lv_at hl 1 rfl) ?_
  obtain ⟨v2, M1, h1, h⟩ := ob2 h
  obtain ⟨hk1, h1⟩ := ifg h1
  refine kV1 (ci := 4) (As := []) (rest := []) hC hE hS hM (mt_X4_differentStates _ E x _ _ _ h1) (gwV qw_504 qw_505 qw_506 qw_92 qw_507) ⟨rfl, rfl, (Nat.le_of_ble_eq_true rfl), (Nat.le_of_ble_eq_true rfl)⟩ dd_X4_differentStates rfl hk1 rfl rfl hl.1 (Nat.le_of_ble_eq_true rfl) dL_law_787 ⟨by have := hcs.1; show _ ≤ 601024; omega, by have := hcs.2; show _ ≤ 7293034; omega⟩ (fun H locs hM hS => ?_)
  refine lv_aload_n hx hb dL_law_790 rfl (lv_at hl 2 rfl) ?_
  obtain ⟨v4, M3, h1, h⟩ := ob2 h
  obtain ⟨hk1, h1⟩ := ifg h1
  refine kV1 (ci := 5) (As := []) (rest := [.int v2]) hC hE hS hM (mt_X5_differentStates _ E mm _ _ _ h1) (gwV qw_1386 qw_1387 qw_1388 qw_103 qw_1389) ⟨rfl, rfl, (Nat.le_of_ble_eq_true rfl), (Nat.le_of_ble_eq_true rfl)⟩ dd_X5_differentStates rfl hk1 rfl rfl hl.1 (Nat.le_of_ble_eq_true rfl) dL_law_791 ⟨by have := hcs.1; show _ ≤ 601024; omega, by have := hcs.2; show _ ≤ 7293034; omega⟩ (fun H locs hM hS => ?_)
  refine lv_icmp_eq (tgt := 3228) hx hb dL_law_794 (by decide) (fun c1 => ?_) (fun c1 => ?_)
  · have h := ifp c1 h
    cases h
    refine W.widen (k := cells + 60) (n := slots + 3000) (by omega) (by omega) ?_
    exact hk _ _ _ _ hP hM hS (lv_sub hl [0, 1, 2, 3, 4] rfl)
  · have h := ifn c1 h
    refine lv_iconst (v := 0) hx hb dL_law_797 (by decide) ?_
    cases h

noncomputable def fr_law_12 (x mm out : Nat) (kv : Int32) (a1 : Int32) (a2 : Int32) (M3 : Mem) : Option Mem :=
  bn (cK 6 mm M3 (f_X5_counterValue mm a1 a2 M3)) fun v4 M3 =>
  bn (cK 6 mm M3 (f_X5_thrown mm M3)) fun v6 M5 =>
  (if v6 = kv then
  (if kv = 0 then
  (gL out 0 M5).bind fun v7 =>
  (if (lg_cmp v7 v4.toInt64) = 0 then
  some M5
  else
  none)
  else
  some M5)
  else
  none)
/-- case 12: the wrapped call, and what follows it wherever the next address lies -/
def fk_law_12 (x mm out : Nat) (a1 : Int32) (a2 : Int32) (M : Mem) (P : Mem → Prop) : Prop := ∃ kv M1, f_L_counterValue x a1 a2 out M = some (kv, M1) ∧ ∀ z, wfz (setZ M1 z) → ∃ M2, fr_law_12 x mm out kv a1 a2 (setZ M1 z) = some M2 ∧ P M2
set_option maxHeartbeats 4000000 in
set_option maxRecDepth 100000 in
theorem lc_12 {p : Program} {l : Launch} {e : Env} {s : State} {m : MethodId} {args : Array Value} {below : List Frame} {meth : Method} {c : Code} {E : KEnv} {H : Heap} {locs : List Loc} {ls : Array Slot} {cells slots : Nat} {Q : State → Prop} {M : Mem} {P : Mem → Prop} {b L x mm out : Nat} {xs : Nat → Int32} {x4 a1 a2 : Int32} (hfl : l.stackTraces = false) (hC : CallFix p m c code 9 s args lw_G RL) (hE : EnvOK E s) (hX : va_X b L xs s s.heap) (hbl : b < s.heap.size) (hbA : ¬ eA E b) (hin1 : vp_in (x4 + 1) L) (ha1 : xs (x4 + 1).toNatClampNeg = a1) (hin2 : vp_in (x4 + 2) L) (ha2 : xs (x4 + 2).toNatClampNeg = a2) (hcs : cells + 60 ≤ 601024 ∧ slots + 3000 ≤ 7293034) (hM : MOK E M H) (hS : va_S (eA E) s.heap H locs) (hl : lv_has ls 9 [(0, .ref b), (1, .ref x), (2, .ref mm), (3, .ref out), (4, .int x4)]) (h : fk_law_12 x mm out a1 a2 M P)
    (hk : ∀ (M2 : Mem) (H : Heap) (locs : List Loc) (ls : Array Slot), P M2 → MOK E M2 H → va_S (eA E) s.heap H locs → lv_has ls 9 [(0, .ref b), (1, .ref x), (2, .ref mm), (3, .ref out), (4, .int x4)] → W p l e room_1 s m args below meth c H locs (cells + 60) (slots + 3000) Q (F0 m 3228 ls [])) : W p l e room_1 s m args below meth c H locs cells slots Q (F0 m 799 ls []) := by
  obtain ⟨hx, hb, hml, hown, hts⟩ := id hC
  refine lv_aload_n hx hb dL_law_799 rfl (lv_at hl 1 rfl) ?_
  refine lv_aload_n hx hb dL_law_800 rfl (lv_at hl 0 rfl) ?_
  refine lv_iload hx hb dL_law_801 (lv_at hl 4 rfl) ?_
  refine lv_iconst (v := 1) hx hb dL_law_803 (by decide) ?_
  refine lv_iadd hx hb dL_law_804 ?_
  refine rsl hx hb hX hbl hbA hS hin1 ha1 dL_law_805 ?_
  refine lv_aload_n hx hb dL_law_806 rfl (lv_at hl 0 rfl) ?_
  refine lv_iload hx hb dL_law_807 (lv_at hl 4 rfl) ?_
  refine lv_iconst (v := 2) hx hb dL_law_809 (by decide) ?_
  refine lv_iadd hx hb dL_law_810 ?_
  refine rsl hx hb hX hbl hbA hS hin2 ha2 dL_law_811 ?_
  refine lv_aload_n hx hb dL_law_812 rfl (lv_at hl 3 rfl) ?_
  obtain ⟨kv, M1, h1, h⟩ := h
  refine kSW (As := [.ref x, .int a1, .int a2, .ref out]) (rest := []) hC hE hS hM (mt_L_counterValue _ hfl E x a1 a2 out _ _ _ h1) (gwSW qw_757 qw_758 qw_91 qz_L_counterValue) ⟨rfl, rfl, (Nat.le_of_ble_eq_true rfl), (Nat.le_of_ble_eq_true rfl)⟩ dd_L_counterValue rfl rfl hl.1 (Nat.le_of_ble_eq_true rfl) dL_law_813 ⟨by have := hcs.1; show _ ≤ 601024; omega, by have := hcs.2; show _ ≤ 7293034; omega⟩ (fun z H locs hM hS => ?_)
  obtain ⟨M2, h, hP⟩ := h z (wfz_of hM)
  unfold fr_law_12 at h
  generalize setZ M1 z = M3 at h hM
  refine lv_istore (lv' := [(5, .int kv), (0, .ref b), (1, .ref x), (2, .ref mm), (3, .ref out), (4, .int x4)]) hx hb dL_law_816 hl (by decide) rfl (fun ls hl => ?_)
  refine lv_aload_n hx hb dL_law_818 rfl (lv_at hl 3 rfl) ?_
  refine lv_aload_n hx hb dL_law_819 rfl (lv_at hl 1 rfl) ?_
  refine lv_iload hx hb dL_law_820 (lv_at hl 5 rfl) ?_
  refine lv_iconst (v := 1) hx hb dL_law_822 (by decide) ?_
  refine lv_iadd hx hb dL_law_823 ?_
  refine rsl hx hb hX hbl hbA hS hin1 ha1 dL_law_824 ?_
  refine lv_aload_n hx hb dL_law_825 rfl (lv_at hl 1 rfl) ?_
  refine lv_iload hx hb dL_law_826 (lv_at hl 5 rfl) ?_
  refine lv_iconst (v := 2) hx hb dL_law_828 (by decide) ?_
  refine lv_iadd hx hb dL_law_829 ?_
  refine rsl hx hb hX hbl hbA hS hin2 ha2 dL_law_830 ?_
  obtain ⟨v4, M3, h1, h⟩ := ob2 h
  obtain ⟨hk1, h1⟩ := ifg h1
  refine kV1 (ci := 5) (As := [.int a1, .int a2]) (rest := []) hC hE hS hM (mt_X5_counterValue _ E mm a1 a2 _ _ _ h1) (gwV qw_1390 qw_1391 qw_1392 qw_103 qw_1393) ⟨rfl, rfl, (Nat.le_of_ble_eq_true rfl), (Nat.le_of_ble_eq_true rfl)⟩ dd_X5_counterValue rfl hk1 rfl rfl hl.1 (Nat.le_of_ble_eq_true rfl) dL_law_831 ⟨by have := hcs.1; show _ ≤ 601024; omega, by have := hcs.2; show _ ≤ 7293034; omega⟩ (fun H locs hM hS => ?_)
  refine lv_istore (lv' := [(6, .int v4), (5, .int kv), (0, .ref b), (1, .ref x), (2, .ref mm), (3, .ref out), (4, .int x4)]) hx hb dL_law_834 hl (by decide) rfl (fun ls hl => ?_)
  refine lv_aload_n hx hb dL_law_836 rfl (lv_at hl 4 rfl) ?_
  obtain ⟨v6, M5, h1, h⟩ := ob2 h
  obtain ⟨hk1, h1⟩ := ifg h1
  refine kV1 (ci := 5) (As := []) (rest := []) hC hE hS hM (mt_X5_thrown _ E mm _ _ _ h1) (gwV qw_1233 qw_1234 qw_1235 qw_103 qw_1236) ⟨rfl, rfl, (Nat.le_of_ble_eq_true rfl), (Nat.le_of_ble_eq_true rfl)⟩ dd_X5_thrown rfl hk1 rfl rfl hl.1 (Nat.le_of_ble_eq_true rfl) dL_law_837 ⟨by have := hcs.1; show _ ≤ 601024; omega, by have := hcs.2; show _ ≤ 7293034; omega⟩ (fun H locs hM hS => ?_)
  refine lv_iload hx hb dL_law_840 (lv_at hl 1 rfl) ?_
  refine lv_icmp_eq (tgt := 847) hx hb dL_law_842 (by decide) (fun c1 => ?_) (fun c1 => ?_)
  · have h := ifp c1 h
    refine lv_iload hx hb dL_law_847 (lv_at hl 1 rfl) ?_
    refine lv_if_ne (tgt := 864) hx hb dL_law_849 (by decide) (fun c1 => ?_) (fun c1 => ?_)
    · have h := ifn c1 h
      refine lv_goto (tgt := 3228) hx hb dL_law_864 (by decide) ?_
      cases h
      refine W.widen (k := cells + 60) (n := slots + 3000) (by omega) (by omega) ?_
      exact hk _ _ _ _ hP hM hS (lv_sub hl [2, 3, 4, 5, 6] rfl)
    · have h := ifp c1 h
      refine lv_aload_n hx hb dL_law_852 rfl (lv_at hl 5 rfl) ?_
      refine lv_iconst (v := 0) hx hb dL_law_853 (by decide) ?_
      obtain ⟨v7, h1, h⟩ := ob h
      refine r_lald hx hb hE hM h1 dL_law_854 ?_
      refine lv_iload hx hb dL_law_855 (lv_at hl 0 rfl) ?_
      refine lv_i2l (v := v4.toInt64) hx hb dL_law_857 rfl ?_
      refine W.lcmp hx hb dL_law_858 ?_
      refine lv_if_eq (tgt := 864) hx hb dL_law_859 (by decide) (fun c1 => ?_) (fun c1 => ?_)
      · have h := ifp c1 h
        refine lv_goto (tgt := 3228) hx hb dL_law_864 (by decide) ?_
        cases h
        refine W.widen (k := cells + 60) (n := slots + 3000) (by omega) (by omega) ?_
        exact hk _ _ _ _ hP hM hS (lv_sub hl [2, 3, 4, 5, 6] rfl)
      · have h := ifn c1 h
        refine lv_iconst (v := 0) hx hb dL_law_862 (by decide) ?_
        cases h
  · have h := ifn c1 h
    refine lv_iconst (v := 0) hx hb dL_law_845 (by decide) ?_
    cases h

noncomputable def fr_law_13 (x mm out : Nat) (kv : Int32) (a1 : Int32) (a2 : Int32) (a3 : Int32) (M3 : Mem) : Option Mem :=
  bn (cK 6 mm M3 (f_X5_increments mm a1 a2 a3 M3)) fun v4 M3 =>
  bn (cK 6 mm M3 (f_X5_thrown mm M3)) fun v6 M5 =>
  (if v6 = kv then
  (if kv = 0 then
  (gL out 0 M5).bind fun v7 =>
  (if (lg_cmp v7 v4.toInt64) = 0 then
  some M5
  else
  none)
  else
  some M5)
  else
  none)
/-- case 13: the wrapped call, and what follows it wherever the next address lies -/
def fk_law_13 (x mm out : Nat) (a1 : Int32) (a2 : Int32) (a3 : Int32) (M : Mem) (P : Mem → Prop) : Prop := ∃ kv M1, f_L_increments x a1 a2 a3 out M = some (kv, M1) ∧ ∀ z, wfz (setZ M1 z) → ∃ M2, fr_law_13 x mm out kv a1 a2 a3 (setZ M1 z) = some M2 ∧ P M2
set_option maxHeartbeats 4000000 in
set_option maxRecDepth 100000 in
theorem lc_13 {p : Program} {l : Launch} {e : Env} {s : State} {m : MethodId} {args : Array Value} {below : List Frame} {meth : Method} {c : Code} {E : KEnv} {H : Heap} {locs : List Loc} {ls : Array Slot} {cells slots : Nat} {Q : State → Prop} {M : Mem} {P : Mem → Prop} {b L x mm out : Nat} {xs : Nat → Int32} {x4 a1 a2 a3 : Int32} (hfl : l.stackTraces = false) (hC : CallFix p m c code 9 s args lw_G RL) (hE : EnvOK E s) (hX : va_X b L xs s s.heap) (hbl : b < s.heap.size) (hbA : ¬ eA E b) (hin1 : vp_in (x4 + 1) L) (ha1 : xs (x4 + 1).toNatClampNeg = a1) (hin2 : vp_in (x4 + 2) L) (ha2 : xs (x4 + 2).toNatClampNeg = a2) (hin3 : vp_in (x4 + 3) L) (ha3 : xs (x4 + 3).toNatClampNeg = a3) (hcs : cells + 60 ≤ 601024 ∧ slots + 3000 ≤ 7293034) (hM : MOK E M H) (hS : va_S (eA E) s.heap H locs) (hl : lv_has ls 9 [(0, .ref b), (1, .ref x), (2, .ref mm), (3, .ref out), (4, .int x4)]) (h : fk_law_13 x mm out a1 a2 a3 M P)
    (hk : ∀ (M2 : Mem) (H : Heap) (locs : List Loc) (ls : Array Slot), P M2 → MOK E M2 H → va_S (eA E) s.heap H locs → lv_has ls 9 [(0, .ref b), (1, .ref x), (2, .ref mm), (3, .ref out), (4, .int x4)] → W p l e room_1 s m args below meth c H locs (cells + 60) (slots + 3000) Q (F0 m 3228 ls [])) : W p l e room_1 s m args below meth c H locs cells slots Q (F0 m 867 ls []) := by
  obtain ⟨hx, hb, hml, hown, hts⟩ := id hC
  refine lv_aload_n hx hb dL_law_867 rfl (lv_at hl 1 rfl) ?_
  refine lv_aload_n hx hb dL_law_868 rfl (lv_at hl 0 rfl) ?_
  refine lv_iload hx hb dL_law_869 (lv_at hl 4 rfl) ?_
  refine lv_iconst (v := 1) hx hb dL_law_871 (by decide) ?_
  refine lv_iadd hx hb dL_law_872 ?_
  refine rsl hx hb hX hbl hbA hS hin1 ha1 dL_law_873 ?_
  refine lv_aload_n hx hb dL_law_874 rfl (lv_at hl 0 rfl) ?_
  refine lv_iload hx hb dL_law_875 (lv_at hl 4 rfl) ?_
  refine lv_iconst (v := 2) hx hb dL_law_877 (by decide) ?_
  refine lv_iadd hx hb dL_law_878 ?_
  refine rsl hx hb hX hbl hbA hS hin2 ha2 dL_law_879 ?_
  refine lv_aload_n hx hb dL_law_880 rfl (lv_at hl 0 rfl) ?_
  refine lv_iload hx hb dL_law_881 (lv_at hl 4 rfl) ?_
  refine lv_iconst (v := 3) hx hb dL_law_883 (by decide) ?_
  refine lv_iadd hx hb dL_law_884 ?_
  refine rsl hx hb hX hbl hbA hS hin3 ha3 dL_law_885 ?_
  refine lv_aload_n hx hb dL_law_886 rfl (lv_at hl 3 rfl) ?_
  obtain ⟨kv, M1, h1, h⟩ := h
  refine kSW (As := [.ref x, .int a1, .int a2, .int a3, .ref out]) (rest := []) hC hE hS hM (mt_L_increments _ hfl E x a1 a2 a3 out _ _ _ h1) (gwSW qw_777 qw_778 qw_91 qz_L_increments) ⟨rfl, rfl, (Nat.le_of_ble_eq_true rfl), (Nat.le_of_ble_eq_true rfl)⟩ dd_L_increments rfl rfl hl.1 (Nat.le_of_ble_eq_true rfl) dL_law_887 ⟨by have := hcs.1; show _ ≤ 601024; omega, by have := hcs.2; show _ ≤ 7293034; omega⟩ (fun z H locs hM hS => ?_)
  obtain ⟨M2, h, hP⟩ := h z (wfz_of hM)
  unfold fr_law_13 at h
  generalize setZ M1 z = M3 at h hM
  refine lv_istore (lv' := [(5, .int kv), (0, .ref b), (1, .ref x), (2, .ref mm), (3, .ref out), (4, .int x4)]) hx hb dL_law_890 hl (by decide) rfl (fun ls hl => ?_)
  refine lv_aload_n hx hb dL_law_892 rfl (lv_at hl 3 rfl) ?_
  refine lv_aload_n hx hb dL_law_893 rfl (lv_at hl 1 rfl) ?_
  refine lv_iload hx hb dL_law_894 (lv_at hl 5 rfl) ?_
  refine lv_iconst (v := 1) hx hb dL_law_896 (by decide) ?_
  refine lv_iadd hx hb dL_law_897 ?_
  refine rsl hx hb hX hbl hbA hS hin1 ha1 dL_law_898 ?_
  refine lv_aload_n hx hb dL_law_899 rfl (lv_at hl 1 rfl) ?_
  refine lv_iload hx hb dL_law_900 (lv_at hl 5 rfl) ?_
  refine lv_iconst (v := 2) hx hb dL_law_902 (by decide) ?_
  refine lv_iadd hx hb dL_law_903 ?_
  refine rsl hx hb hX hbl hbA hS hin2 ha2 dL_law_904 ?_
  refine lv_aload_n hx hb dL_law_905 rfl (lv_at hl 1 rfl) ?_
  refine lv_iload hx hb dL_law_906 (lv_at hl 5 rfl) ?_
  refine lv_iconst (v := 3) hx hb dL_law_908 (by decide) ?_
  refine lv_iadd hx hb dL_law_909 ?_
  refine rsl hx hb hX hbl hbA hS hin3 ha3 dL_law_910 ?_
  obtain ⟨v4, M3, h1, h⟩ := ob2 h
  obtain ⟨hk1, h1⟩ := ifg h1
  refine kV1 (ci := 5) (As := [.int a1, .int a2, .int a3]) (rest := []) hC hE hS hM (mt_X5_increments _ E mm a1 a2 a3 _ _ _ h1) (gwV qw_1402 qw_1403 qw_1404 qw_103 qw_1405) ⟨rfl, rfl, (Nat.le_of_ble_eq_true rfl), (Nat.le_of_ble_eq_true rfl)⟩ dd_X5_increments rfl hk1 rfl rfl hl.1 (Nat.le_of_ble_eq_true rfl) dL_law_911 ⟨by have := hcs.1; show _ ≤ 601024; omega, by have := hcs.2; show _ ≤ 7293034; omega⟩ (fun H locs hM hS => ?_)
  refine lv_istore (lv' := [(6, .int v4), (5, .int kv), (0, .ref b), (1, .ref x), (2, .ref mm), (3, .ref out), (4, .int x4)]) hx hb dL_law_914 hl (by decide) rfl (fun ls hl => ?_)
  refine lv_aload_n hx hb dL_law_916 rfl (lv_at hl 4 rfl) ?_
  obtain ⟨v6, M5, h1, h⟩ := ob2 h
  obtain ⟨hk1, h1⟩ := ifg h1
  refine kV1 (ci := 5) (As := []) (rest := []) hC hE hS hM (mt_X5_thrown _ E mm _ _ _ h1) (gwV qw_1233 qw_1234 qw_1235 qw_103 qw_1236) ⟨rfl, rfl, (Nat.le_of_ble_eq_true rfl), (Nat.le_of_ble_eq_true rfl)⟩ dd_X5_thrown rfl hk1 rfl rfl hl.1 (Nat.le_of_ble_eq_true rfl) dL_law_917 ⟨by have := hcs.1; show _ ≤ 601024; omega, by have := hcs.2; show _ ≤ 7293034; omega⟩ (fun H locs hM hS => ?_)
  refine lv_iload hx hb dL_law_920 (lv_at hl 1 rfl) ?_
  refine lv_icmp_eq (tgt := 927) hx hb dL_law_922 (by decide) (fun c1 => ?_) (fun c1 => ?_)
  · have h := ifp c1 h
    refine lv_iload hx hb dL_law_927 (lv_at hl 1 rfl) ?_
    refine lv_if_ne (tgt := 944) hx hb dL_law_929 (by decide) (fun c1 => ?_) (fun c1 => ?_)
    · have h := ifn c1 h
      refine lv_goto (tgt := 3228) hx hb dL_law_944 (by decide) ?_
      cases h
      refine W.widen (k := cells + 60) (n := slots + 3000) (by omega) (by omega) ?_
      exact hk _ _ _ _ hP hM hS (lv_sub hl [2, 3, 4, 5, 6] rfl)
    · have h := ifp c1 h
      refine lv_aload_n hx hb dL_law_932 rfl (lv_at hl 5 rfl) ?_
      refine lv_iconst (v := 0) hx hb dL_law_933 (by decide) ?_
      obtain ⟨v7, h1, h⟩ := ob h
      refine r_lald hx hb hE hM h1 dL_law_934 ?_
      refine lv_iload hx hb dL_law_935 (lv_at hl 0 rfl) ?_
      refine lv_i2l (v := v4.toInt64) hx hb dL_law_937 rfl ?_
      refine W.lcmp hx hb dL_law_938 ?_
      refine lv_if_eq (tgt := 944) hx hb dL_law_939 (by decide) (fun c1 => ?_) (fun c1 => ?_)
      · have h := ifp c1 h
        refine lv_goto (tgt := 3228) hx hb dL_law_944 (by decide) ?_
        cases h
        refine W.widen (k := cells + 60) (n := slots + 3000) (by omega) (by omega) ?_
        exact hk _ _ _ _ hP hM hS (lv_sub hl [2, 3, 4, 5, 6] rfl)
      · have h := ifn c1 h
        refine lv_iconst (v := 0) hx hb dL_law_942 (by decide) ?_
        cases h
  · have h := ifn c1 h
    refine lv_iconst (v := 0) hx hb dL_law_925 (by decide) ?_
    cases h

noncomputable def fr_law_14 (x mm out : Nat) (kv : Int32) (a1 : Int32) (a2 : Int32) (a3 : Int32) (M3 : Mem) : Option Mem :=
  bn (cK 6 mm M3 (f_X5_decrements mm a1 a2 a3 M3)) fun v4 M3 =>
  bn (cK 6 mm M3 (f_X5_thrown mm M3)) fun v6 M5 =>
  (if v6 = kv then
  (if kv = 0 then
  (gL out 0 M5).bind fun v7 =>
  (if (lg_cmp v7 v4.toInt64) = 0 then
  some M5
  else
  none)
  else
  some M5)
  else
  none)
/-- case 14: the wrapped call, and what follows it wherever the next address lies -/
def fk_law_14 (x mm out : Nat) (a1 : Int32) (a2 : Int32) (a3 : Int32) (M : Mem) (P : Mem → Prop) : Prop := ∃ kv M1, f_L_decrements x a1 a2 a3 out M = some (kv, M1) ∧ ∀ z, wfz (setZ M1 z) → ∃ M2, fr_law_14 x mm out kv a1 a2 a3 (setZ M1 z) = some M2 ∧ P M2
set_option maxHeartbeats 4000000 in
set_option maxRecDepth 100000 in
theorem lc_14 {p : Program} {l : Launch} {e : Env} {s : State} {m : MethodId} {args : Array Value} {below : List Frame} {meth : Method} {c : Code} {E : KEnv} {H : Heap} {locs : List Loc} {ls : Array Slot} {cells slots : Nat} {Q : State → Prop} {M : Mem} {P : Mem → Prop} {b L x mm out : Nat} {xs : Nat → Int32} {x4 a1 a2 a3 : Int32} (hfl : l.stackTraces = false) (hC : CallFix p m c code 9 s args lw_G RL) (hE : EnvOK E s) (hX : va_X b L xs s s.heap) (hbl : b < s.heap.size) (hbA : ¬ eA E b) (hin1 : vp_in (x4 + 1) L) (ha1 : xs (x4 + 1).toNatClampNeg = a1) (hin2 : vp_in (x4 + 2) L) (ha2 : xs (x4 + 2).toNatClampNeg = a2) (hin3 : vp_in (x4 + 3) L) (ha3 : xs (x4 + 3).toNatClampNeg = a3) (hcs : cells + 60 ≤ 601024 ∧ slots + 3000 ≤ 7293034) (hM : MOK E M H) (hS : va_S (eA E) s.heap H locs) (hl : lv_has ls 9 [(0, .ref b), (1, .ref x), (2, .ref mm), (3, .ref out), (4, .int x4)]) (h : fk_law_14 x mm out a1 a2 a3 M P)
    (hk : ∀ (M2 : Mem) (H : Heap) (locs : List Loc) (ls : Array Slot), P M2 → MOK E M2 H → va_S (eA E) s.heap H locs → lv_has ls 9 [(0, .ref b), (1, .ref x), (2, .ref mm), (3, .ref out), (4, .int x4)] → W p l e room_1 s m args below meth c H locs (cells + 60) (slots + 3000) Q (F0 m 3228 ls [])) : W p l e room_1 s m args below meth c H locs cells slots Q (F0 m 947 ls []) := by
  obtain ⟨hx, hb, hml, hown, hts⟩ := id hC
  refine lv_aload_n hx hb dL_law_947 rfl (lv_at hl 1 rfl) ?_
  refine lv_aload_n hx hb dL_law_948 rfl (lv_at hl 0 rfl) ?_
  refine lv_iload hx hb dL_law_949 (lv_at hl 4 rfl) ?_
  refine lv_iconst (v := 1) hx hb dL_law_951 (by decide) ?_
  refine lv_iadd hx hb dL_law_952 ?_
  refine rsl hx hb hX hbl hbA hS hin1 ha1 dL_law_953 ?_
  refine lv_aload_n hx hb dL_law_954 rfl (lv_at hl 0 rfl) ?_
  refine lv_iload hx hb dL_law_955 (lv_at hl 4 rfl) ?_
  refine lv_iconst (v := 2) hx hb dL_law_957 (by decide) ?_
  refine lv_iadd hx hb dL_law_958 ?_
  refine rsl hx hb hX hbl hbA hS hin2 ha2 dL_law_959 ?_
  refine lv_aload_n hx hb dL_law_960 rfl (lv_at hl 0 rfl) ?_
  refine lv_iload hx hb dL_law_961 (lv_at hl 4 rfl) ?_
  refine lv_iconst (v := 3) hx hb dL_law_963 (by decide) ?_
  refine lv_iadd hx hb dL_law_964 ?_
  refine rsl hx hb hX hbl hbA hS hin3 ha3 dL_law_965 ?_
  refine lv_aload_n hx hb dL_law_966 rfl (lv_at hl 3 rfl) ?_
  obtain ⟨kv, M1, h1, h⟩ := h
  refine kSW (As := [.ref x, .int a1, .int a2, .int a3, .ref out]) (rest := []) hC hE hS hM (mt_L_decrements _ hfl E x a1 a2 a3 out _ _ _ h1) (gwSW qw_789 qw_790 qw_91 qz_L_decrements) ⟨rfl, rfl, (Nat.le_of_ble_eq_true rfl), (Nat.le_of_ble_eq_true rfl)⟩ dd_L_decrements rfl rfl hl.1 (Nat.le_of_ble_eq_true rfl) dL_law_967 ⟨by have := hcs.1; show _ ≤ 601024; omega, by have := hcs.2; show _ ≤ 7293034; omega⟩ (fun z H locs hM hS => ?_)
  obtain ⟨M2, h, hP⟩ := h z (wfz_of hM)
  unfold fr_law_14 at h
  generalize setZ M1 z = M3 at h hM
  refine lv_istore (lv' := [(5, .int kv), (0, .ref b), (1, .ref x), (2, .ref mm), (3, .ref out), (4, .int x4)]) hx hb dL_law_970 hl (by decide) rfl (fun ls hl => ?_)
  refine lv_aload_n hx hb dL_law_972 rfl (lv_at hl 3 rfl) ?_
  refine lv_aload_n hx hb dL_law_973 rfl (lv_at hl 1 rfl) ?_
  refine lv_iload hx hb dL_law_974 (lv_at hl 5 rfl) ?_
  refine lv_iconst (v := 1) hx hb dL_law_976 (by decide) ?_
  refine lv_iadd hx hb dL_law_977 ?_
  refine rsl hx hb hX hbl hbA hS hin1 ha1 dL_law_978 ?_
  refine lv_aload_n hx hb dL_law_979 rfl (lv_at hl 1 rfl) ?_
  refine lv_iload hx hb dL_law_980 (lv_at hl 5 rfl) ?_
  refine lv_iconst (v := 2) hx hb dL_law_982 (by decide) ?_
  refine lv_iadd hx hb dL_law_983 ?_
  refine rsl hx hb hX hbl hbA hS hin2 ha2 dL_law_984 ?_
  refine lv_aload_n hx hb dL_law_985 rfl (lv_at hl 1 rfl) ?_
  refine lv_iload hx hb dL_law_986 (lv_at hl 5 rfl) ?_
  refine lv_iconst (v := 3) hx hb dL_law_988 (by decide) ?_
  refine lv_iadd hx hb dL_law_989 ?_
  refine rsl hx hb hX hbl hbA hS hin3 ha3 dL_law_990 ?_
  obtain ⟨v4, M3, h1, h⟩ := ob2 h
  obtain ⟨hk1, h1⟩ := ifg h1
  refine kV1 (ci := 5) (As := [.int a1, .int a2, .int a3]) (rest := []) hC hE hS hM (mt_X5_decrements _ E mm a1 a2 a3 _ _ _ h1) (gwV qw_1406 qw_1407 qw_1408 qw_103 qw_1409) ⟨rfl, rfl, (Nat.le_of_ble_eq_true rfl), (Nat.le_of_ble_eq_true rfl)⟩ dd_X5_decrements rfl hk1 rfl rfl hl.1 (Nat.le_of_ble_eq_true rfl) dL_law_991 ⟨by have := hcs.1; show _ ≤ 601024; omega, by have := hcs.2; show _ ≤ 7293034; omega⟩ (fun H locs hM hS => ?_)
  refine lv_istore (lv' := [(6, .int v4), (5, .int kv), (0, .ref b), (1, .ref x), (2, .ref mm), (3, .ref out), (4, .int x4)]) hx hb dL_law_994 hl (by decide) rfl (fun ls hl => ?_)
  refine lv_aload_n hx hb dL_law_996 rfl (lv_at hl 4 rfl) ?_
  obtain ⟨v6, M5, h1, h⟩ := ob2 h
  obtain ⟨hk1, h1⟩ := ifg h1
  refine kV1 (ci := 5) (As := []) (rest := []) hC hE hS hM (mt_X5_thrown _ E mm _ _ _ h1) (gwV qw_1233 qw_1234 qw_1235 qw_103 qw_1236) ⟨rfl, rfl, (Nat.le_of_ble_eq_true rfl), (Nat.le_of_ble_eq_true rfl)⟩ dd_X5_thrown rfl hk1 rfl rfl hl.1 (Nat.le_of_ble_eq_true rfl) dL_law_997 ⟨by have := hcs.1; show _ ≤ 601024; omega, by have := hcs.2; show _ ≤ 7293034; omega⟩ (fun H locs hM hS => ?_)
  refine lv_iload hx hb dL_law_1000 (lv_at hl 1 rfl) ?_
  refine lv_icmp_eq (tgt := 1007) hx hb dL_law_1002 (by decide) (fun c1 => ?_) (fun c1 => ?_)
  · have h := ifp c1 h
    refine lv_iload hx hb dL_law_1007 (lv_at hl 1 rfl) ?_
    refine lv_if_ne (tgt := 1024) hx hb dL_law_1009 (by decide) (fun c1 => ?_) (fun c1 => ?_)
    · have h := ifn c1 h
      refine lv_goto (tgt := 3228) hx hb dL_law_1024 (by decide) ?_
      cases h
      refine W.widen (k := cells + 60) (n := slots + 3000) (by omega) (by omega) ?_
      exact hk _ _ _ _ hP hM hS (lv_sub hl [2, 3, 4, 5, 6] rfl)
    · have h := ifp c1 h
      refine lv_aload_n hx hb dL_law_1012 rfl (lv_at hl 5 rfl) ?_
      refine lv_iconst (v := 0) hx hb dL_law_1013 (by decide) ?_
      obtain ⟨v7, h1, h⟩ := ob h
      refine r_lald hx hb hE hM h1 dL_law_1014 ?_
      refine lv_iload hx hb dL_law_1015 (lv_at hl 0 rfl) ?_
      refine lv_i2l (v := v4.toInt64) hx hb dL_law_1017 rfl ?_
      refine W.lcmp hx hb dL_law_1018 ?_
      refine lv_if_eq (tgt := 1024) hx hb dL_law_1019 (by decide) (fun c1 => ?_) (fun c1 => ?_)
      · have h := ifp c1 h
        refine lv_goto (tgt := 3228) hx hb dL_law_1024 (by decide) ?_
        cases h
        refine W.widen (k := cells + 60) (n := slots + 3000) (by omega) (by omega) ?_
        exact hk _ _ _ _ hP hM hS (lv_sub hl [2, 3, 4, 5, 6] rfl)
      · have h := ifn c1 h
        refine lv_iconst (v := 0) hx hb dL_law_1022 (by decide) ?_
        cases h
  · have h := ifn c1 h
    refine lv_iconst (v := 0) hx hb dL_law_1005 (by decide) ?_
    cases h

noncomputable def fr_law_15 (x mm out : Nat) (kv : Int32) (a1 : Int32) (a2 : Int32) (M3 : Mem) : Option Mem :=
  bn (cK 6 mm M3 (f_X5_hasTag mm a1 a2 M3)) fun v4 M3 =>
  bn (cK 6 mm M3 (f_X5_thrown mm M3)) fun v6 M5 =>
  (if v6 = kv then
  (if kv = 0 then
  (gL out 0 M5).bind fun v7 =>
  (if v4 = 0 then
  (if (lg_cmp v7 0) = 0 then
  some M5
  else
  none)
  else
  (if (lg_cmp v7 1) = 0 then
  some M5
  else
  none))
  else
  some M5)
  else
  none)
/-- case 15: the wrapped call, and what follows it wherever the next address lies -/
def fk_law_15 (x mm out : Nat) (a1 : Int32) (a2 : Int32) (M : Mem) (P : Mem → Prop) : Prop := ∃ kv M1, f_L_hasTag x a1 a2 out M = some (kv, M1) ∧ ∀ z, wfz (setZ M1 z) → ∃ M2, fr_law_15 x mm out kv a1 a2 (setZ M1 z) = some M2 ∧ P M2
set_option maxHeartbeats 4000000 in
set_option maxRecDepth 100000 in
theorem lc_15 {p : Program} {l : Launch} {e : Env} {s : State} {m : MethodId} {args : Array Value} {below : List Frame} {meth : Method} {c : Code} {E : KEnv} {H : Heap} {locs : List Loc} {ls : Array Slot} {cells slots : Nat} {Q : State → Prop} {M : Mem} {P : Mem → Prop} {b L x mm out : Nat} {xs : Nat → Int32} {x4 a1 a2 : Int32} (hfl : l.stackTraces = false) (hC : CallFix p m c code 9 s args lw_G RL) (hE : EnvOK E s) (hX : va_X b L xs s s.heap) (hbl : b < s.heap.size) (hbA : ¬ eA E b) (hin1 : vp_in (x4 + 1) L) (ha1 : xs (x4 + 1).toNatClampNeg = a1) (hin2 : vp_in (x4 + 2) L) (ha2 : xs (x4 + 2).toNatClampNeg = a2) (hcs : cells + 60 ≤ 601024 ∧ slots + 3000 ≤ 7293034) (hM : MOK E M H) (hS : va_S (eA E) s.heap H locs) (hl : lv_has ls 9 [(0, .ref b), (1, .ref x), (2, .ref mm), (3, .ref out), (4, .int x4)]) (h : fk_law_15 x mm out a1 a2 M P)
    (hk : ∀ (M2 : Mem) (H : Heap) (locs : List Loc) (ls : Array Slot), P M2 → MOK E M2 H → va_S (eA E) s.heap H locs → lv_has ls 9 [(0, .ref b), (1, .ref x), (2, .ref mm), (3, .ref out), (4, .int x4)] → W p l e room_1 s m args below meth c H locs (cells + 60) (slots + 3000) Q (F0 m 3228 ls [])) : W p l e room_1 s m args below meth c H locs cells slots Q (F0 m 1027 ls []) := by
  obtain ⟨hx, hb, hml, hown, hts⟩ := id hC
  refine lv_aload_n hx hb dL_law_1027 rfl (lv_at hl 1 rfl) ?_
  refine lv_aload_n hx hb dL_law_1028 rfl (lv_at hl 0 rfl) ?_
  refine lv_iload hx hb dL_law_1029 (lv_at hl 4 rfl) ?_
  refine lv_iconst (v := 1) hx hb dL_law_1031 (by decide) ?_
  refine lv_iadd hx hb dL_law_1032 ?_
  refine rsl hx hb hX hbl hbA hS hin1 ha1 dL_law_1033 ?_
  refine lv_aload_n hx hb dL_law_1034 rfl (lv_at hl 0 rfl) ?_
  refine lv_iload hx hb dL_law_1035 (lv_at hl 4 rfl) ?_
  refine lv_iconst (v := 2) hx hb dL_law_1037 (by decide) ?_
  refine lv_iadd hx hb dL_law_1038 ?_
  refine rsl hx hb hX hbl hbA hS hin2 ha2 dL_law_1039 ?_
  refine lv_aload_n hx hb dL_law_1040 rfl (lv_at hl 3 rfl) ?_
  obtain ⟨kv, M1, h1, h⟩ := h
  refine kSW (As := [.ref x, .int a1, .int a2, .ref out]) (rest := []) hC hE hS hM (mt_L_hasTag _ hfl E x a1 a2 out _ _ _ h1) (gwSW qw_796 qw_797 qw_91 qz_L_hasTag) ⟨rfl, rfl, (Nat.le_of_ble_eq_true rfl), (Nat.le_of_ble_eq_true rfl)⟩ dd_L_hasTag rfl rfl hl.1 (Nat.le_of_ble_eq_true rfl) dL_law_1041 ⟨by have := hcs.1; show _ ≤ 601024; omega, by have := hcs.2; show _ ≤ 7293034; omega⟩ (fun z H locs hM hS => ?_)
  obtain ⟨M2, h, hP⟩ := h z (wfz_of hM)
  unfold fr_law_15 at h
  generalize setZ M1 z = M3 at h hM
  refine lv_istore (lv' := [(5, .int kv), (0, .ref b), (1, .ref x), (2, .ref mm), (3, .ref out), (4, .int x4)]) hx hb dL_law_1044 hl (by decide) rfl (fun ls hl => ?_)
  refine lv_aload_n hx hb dL_law_1046 rfl (lv_at hl 3 rfl) ?_
  refine lv_aload_n hx hb dL_law_1047 rfl (lv_at hl 1 rfl) ?_
  refine lv_iload hx hb dL_law_1048 (lv_at hl 5 rfl) ?_
  refine lv_iconst (v := 1) hx hb dL_law_1050 (by decide) ?_
  refine lv_iadd hx hb dL_law_1051 ?_
  refine rsl hx hb hX hbl hbA hS hin1 ha1 dL_law_1052 ?_
  refine lv_aload_n hx hb dL_law_1053 rfl (lv_at hl 1 rfl) ?_
  refine lv_iload hx hb dL_law_1054 (lv_at hl 5 rfl) ?_
  refine lv_iconst (v := 2) hx hb dL_law_1056 (by decide) ?_
  refine lv_iadd hx hb dL_law_1057 ?_
  refine rsl hx hb hX hbl hbA hS hin2 ha2 dL_law_1058 ?_
  obtain ⟨v4, M3, h1, h⟩ := ob2 h
  obtain ⟨hk1, h1⟩ := ifg h1
  refine kV1 (ci := 5) (As := [.int a1, .int a2]) (rest := []) hC hE hS hM (mt_X5_hasTag _ E mm a1 a2 _ _ _ h1) (gwV qw_1410 qw_1411 qw_1412 qw_103 qw_1413) ⟨rfl, rfl, (Nat.le_of_ble_eq_true rfl), (Nat.le_of_ble_eq_true rfl)⟩ dd_X5_hasTag rfl hk1 rfl rfl hl.1 (Nat.le_of_ble_eq_true rfl) dL_law_1059 ⟨by have := hcs.1; show _ ≤ 601024; omega, by have := hcs.2; show _ ≤ 7293034; omega⟩ (fun H locs hM hS => ?_)
  refine lv_istore (lv' := [(6, .int v4), (5, .int kv), (0, .ref b), (1, .ref x), (2, .ref mm), (3, .ref out), (4, .int x4)]) hx hb dL_law_1062 hl (by decide) rfl (fun ls hl => ?_)
  refine lv_aload_n hx hb dL_law_1064 rfl (lv_at hl 4 rfl) ?_
  obtain ⟨v6, M5, h1, h⟩ := ob2 h
  obtain ⟨hk1, h1⟩ := ifg h1
  refine kV1 (ci := 5) (As := []) (rest := []) hC hE hS hM (mt_X5_thrown _ E mm _ _ _ h1) (gwV qw_1233 qw_1234 qw_1235 qw_103 qw_1236) ⟨rfl, rfl, (Nat.le_of_ble_eq_true rfl), (Nat.le_of_ble_eq_true rfl)⟩ dd_X5_thrown rfl hk1 rfl rfl hl.1 (Nat.le_of_ble_eq_true rfl) dL_law_1065 ⟨by have := hcs.1; show _ ≤ 601024; omega, by have := hcs.2; show _ ≤ 7293034; omega⟩ (fun H locs hM hS => ?_)
  refine lv_iload hx hb dL_law_1068 (lv_at hl 1 rfl) ?_
  refine lv_icmp_eq (tgt := 1075) hx hb dL_law_1070 (by decide) (fun c1 => ?_) (fun c1 => ?_)
  · have h := ifp c1 h
    refine lv_iload hx hb dL_law_1075 (lv_at hl 1 rfl) ?_
    refine lv_if_ne (tgt := 1099) hx hb dL_law_1077 (by decide) (fun c1 => ?_) (fun c1 => ?_)
    · have h := ifn c1 h
      refine lv_goto (tgt := 3228) hx hb dL_law_1099 (by decide) ?_
      cases h
      refine W.widen (k := cells + 60) (n := slots + 3000) (by omega) (by omega) ?_
      exact hk _ _ _ _ hP hM hS (lv_sub hl [2, 3, 4, 5, 6] rfl)
    · have h := ifp c1 h
      refine lv_aload_n hx hb dL_law_1080 rfl (lv_at hl 5 rfl) ?_
      refine lv_iconst (v := 0) hx hb dL_law_1081 (by decide) ?_
      obtain ⟨v7, h1, h⟩ := ob h
      refine r_lald hx hb hE hM h1 dL_law_1082 ?_
      refine lv_iload hx hb dL_law_1083 (lv_at hl 0 rfl) ?_
      refine lv_if_eq (tgt := 1092) hx hb dL_law_1085 (by decide) (fun c1 => ?_) (fun c1 => ?_)
      · have h := ifp c1 h
        refine lv_lconst (v := 0) hx hb dL_law_1092 (by decide) ?_
        refine W.lcmp hx hb dL_law_1093 ?_
        refine lv_if_eq (tgt := 1099) hx hb dL_law_1094 (by decide) (fun c1 => ?_) (fun c1 => ?_)
        · have h := ifp c1 h
          refine lv_goto (tgt := 3228) hx hb dL_law_1099 (by decide) ?_
          cases h
          refine W.widen (k := cells + 60) (n := slots + 3000) (by omega) (by omega) ?_
          exact hk _ _ _ _ hP hM hS (lv_sub hl [2, 3, 4, 5, 6] rfl)
        · have h := ifn c1 h
          refine lv_iconst (v := 0) hx hb dL_law_1097 (by decide) ?_
          cases h
      · have h := ifn c1 h
        refine lv_lconst (v := 1) hx hb dL_law_1088 (by decide) ?_
        refine lv_goto (tgt := 1093) hx hb dL_law_1089 (by decide) ?_
        refine W.lcmp hx hb dL_law_1093 ?_
        refine lv_if_eq (tgt := 1099) hx hb dL_law_1094 (by decide) (fun c1 => ?_) (fun c1 => ?_)
        · have h := ifp c1 h
          refine lv_goto (tgt := 3228) hx hb dL_law_1099 (by decide) ?_
          cases h
          refine W.widen (k := cells + 60) (n := slots + 3000) (by omega) (by omega) ?_
          exact hk _ _ _ _ hP hM hS (lv_sub hl [2, 3, 4, 5, 6] rfl)
        · have h := ifn c1 h
          refine lv_iconst (v := 0) hx hb dL_law_1097 (by decide) ?_
          cases h
  · have h := ifn c1 h
    refine lv_iconst (v := 0) hx hb dL_law_1073 (by decide) ?_
    cases h

noncomputable def fr_law_16 (x mm out : Nat) (kv : Int32) (a1 : Int32) (a2 : Int32) (M3 : Mem) : Option Mem :=
  bn (cK 6 mm M3 (f_X5_liveDots mm a1 a2 M3)) fun v4 M3 =>
  bn (cK 6 mm M3 (f_X5_thrown mm M3)) fun v6 M5 =>
  (if v6 = kv then
  (if kv = 0 then
  (gL out 0 M5).bind fun v7 =>
  (if (lg_cmp v7 v4.toInt64) = 0 then
  some M5
  else
  none)
  else
  some M5)
  else
  none)
/-- case 16: the wrapped call, and what follows it wherever the next address lies -/
def fk_law_16 (x mm out : Nat) (a1 : Int32) (a2 : Int32) (M : Mem) (P : Mem → Prop) : Prop := ∃ kv M1, f_L_liveDots x a1 a2 out M = some (kv, M1) ∧ ∀ z, wfz (setZ M1 z) → ∃ M2, fr_law_16 x mm out kv a1 a2 (setZ M1 z) = some M2 ∧ P M2
set_option maxHeartbeats 4000000 in
set_option maxRecDepth 100000 in
theorem lc_16 {p : Program} {l : Launch} {e : Env} {s : State} {m : MethodId} {args : Array Value} {below : List Frame} {meth : Method} {c : Code} {E : KEnv} {H : Heap} {locs : List Loc} {ls : Array Slot} {cells slots : Nat} {Q : State → Prop} {M : Mem} {P : Mem → Prop} {b L x mm out : Nat} {xs : Nat → Int32} {x4 a1 a2 : Int32} (hfl : l.stackTraces = false) (hC : CallFix p m c code 9 s args lw_G RL) (hE : EnvOK E s) (hX : va_X b L xs s s.heap) (hbl : b < s.heap.size) (hbA : ¬ eA E b) (hin1 : vp_in (x4 + 1) L) (ha1 : xs (x4 + 1).toNatClampNeg = a1) (hin2 : vp_in (x4 + 2) L) (ha2 : xs (x4 + 2).toNatClampNeg = a2) (hcs : cells + 60 ≤ 601024 ∧ slots + 3000 ≤ 7293034) (hM : MOK E M H) (hS : va_S (eA E) s.heap H locs) (hl : lv_has ls 9 [(0, .ref b), (1, .ref x), (2, .ref mm), (3, .ref out), (4, .int x4)]) (h : fk_law_16 x mm out a1 a2 M P)
    (hk : ∀ (M2 : Mem) (H : Heap) (locs : List Loc) (ls : Array Slot), P M2 → MOK E M2 H → va_S (eA E) s.heap H locs → lv_has ls 9 [(0, .ref b), (1, .ref x), (2, .ref mm), (3, .ref out), (4, .int x4)] → W p l e room_1 s m args below meth c H locs (cells + 60) (slots + 3000) Q (F0 m 3228 ls [])) : W p l e room_1 s m args below meth c H locs cells slots Q (F0 m 1102 ls []) := by
  obtain ⟨hx, hb, hml, hown, hts⟩ := id hC
  refine lv_aload_n hx hb dL_law_1102 rfl (lv_at hl 1 rfl) ?_
  refine lv_aload_n hx hb dL_law_1103 rfl (lv_at hl 0 rfl) ?_
  refine lv_iload hx hb dL_law_1104 (lv_at hl 4 rfl) ?_
  refine lv_iconst (v := 1) hx hb dL_law_1106 (by decide) ?_
  refine lv_iadd hx hb dL_law_1107 ?_
  refine rsl hx hb hX hbl hbA hS hin1 ha1 dL_law_1108 ?_
  refine lv_aload_n hx hb dL_law_1109 rfl (lv_at hl 0 rfl) ?_
  refine lv_iload hx hb dL_law_1110 (lv_at hl 4 rfl) ?_
  refine lv_iconst (v := 2) hx hb dL_law_1112 (by decide) ?_
  refine lv_iadd hx hb dL_law_1113 ?_
  refine rsl hx hb hX hbl hbA hS hin2 ha2 dL_law_1114 ?_
  refine lv_aload_n hx hb dL_law_1115 rfl (lv_at hl 3 rfl) ?_
  obtain ⟨kv, M1, h1, h⟩ := h
  refine kSW (As := [.ref x, .int a1, .int a2, .ref out]) (rest := []) hC hE hS hM (mt_L_liveDots _ hfl E x a1 a2 out _ _ _ h1) (gwSW qw_813 qw_814 qw_91 qz_L_liveDots) ⟨rfl, rfl, (Nat.le_of_ble_eq_true rfl), (Nat.le_of_ble_eq_true rfl)⟩ dd_L_liveDots rfl rfl hl.1 (Nat.le_of_ble_eq_true rfl) dL_law_1116 ⟨by have := hcs.1; show _ ≤ 601024; omega, by have := hcs.2; show _ ≤ 7293034; omega⟩ (fun z H locs hM hS => ?_)
  obtain ⟨M2, h, hP⟩ := h z (wfz_of hM)
  unfold fr_law_16 at h
  generalize setZ M1 z = M3 at h hM
  refine lv_istore (lv' := [(5, .int kv), (0, .ref b), (1, .ref x), (2, .ref mm), (3, .ref out), (4, .int x4)]) hx hb dL_law_1119 hl (by decide) rfl (fun ls hl => ?_)
  refine lv_aload_n hx hb dL_law_1121 rfl (lv_at hl 3 rfl) ?_
  refine lv_aload_n hx hb dL_law_1122 rfl (lv_at hl 1 rfl) ?_
  refine lv_iload hx hb dL_law_1123 (lv_at hl 5 rfl) ?_
  refine lv_iconst (v := 1) hx hb dL_law_1125 (by decide) ?_
  refine lv_iadd hx hb dL_law_1126 ?_
  refine rsl hx hb hX hbl hbA hS hin1 ha1 dL_law_1127 ?_
  refine lv_aload_n hx hb dL_law_1128 rfl (lv_at hl 1 rfl) ?_
  refine lv_iload hx hb dL_law_1129 (lv_at hl 5 rfl) ?_
  refine lv_iconst (v := 2) hx hb dL_law_1131 (by decide) ?_
  refine lv_iadd hx hb dL_law_1132 ?_
  refine rsl hx hb hX hbl hbA hS hin2 ha2 dL_law_1133 ?_
  obtain ⟨v4, M3, h1, h⟩ := ob2 h
  obtain ⟨hk1, h1⟩ := ifg h1
  refine kV1 (ci := 5) (As := [.int a1, .int a2]) (rest := []) hC hE hS hM (mt_X5_liveDots _ E mm a1 a2 _ _ _ h1) (gwV qw_1417 qw_1418 qw_1419 qw_103 qw_1420) ⟨rfl, rfl, (Nat.le_of_ble_eq_true rfl), (Nat.le_of_ble_eq_true rfl)⟩ dd_X5_liveDots rfl hk1 rfl rfl hl.1 (Nat.le_of_ble_eq_true rfl) dL_law_1134 ⟨by have := hcs.1; show _ ≤ 601024; omega, by have := hcs.2; show _ ≤ 7293034; omega⟩ (fun H locs hM hS => ?_)
  refine lv_istore (lv' := [(6, .int v4), (5, .int kv), (0, .ref b), (1, .ref x), (2, .ref mm), (3, .ref out), (4, .int x4)]) hx hb dL_law_1137 hl (by decide) rfl (fun ls hl => ?_)
  refine lv_aload_n hx hb dL_law_1139 rfl (lv_at hl 4 rfl) ?_
  obtain ⟨v6, M5, h1, h⟩ := ob2 h
  obtain ⟨hk1, h1⟩ := ifg h1
  refine kV1 (ci := 5) (As := []) (rest := []) hC hE hS hM (mt_X5_thrown _ E mm _ _ _ h1) (gwV qw_1233 qw_1234 qw_1235 qw_103 qw_1236) ⟨rfl, rfl, (Nat.le_of_ble_eq_true rfl), (Nat.le_of_ble_eq_true rfl)⟩ dd_X5_thrown rfl hk1 rfl rfl hl.1 (Nat.le_of_ble_eq_true rfl) dL_law_1140 ⟨by have := hcs.1; show _ ≤ 601024; omega, by have := hcs.2; show _ ≤ 7293034; omega⟩ (fun H locs hM hS => ?_)
  refine lv_iload hx hb dL_law_1143 (lv_at hl 1 rfl) ?_
  refine lv_icmp_eq (tgt := 1150) hx hb dL_law_1145 (by decide) (fun c1 => ?_) (fun c1 => ?_)
  · have h := ifp c1 h
    refine lv_iload hx hb dL_law_1150 (lv_at hl 1 rfl) ?_
    refine lv_if_ne (tgt := 1167) hx hb dL_law_1152 (by decide) (fun c1 => ?_) (fun c1 => ?_)
    · have h := ifn c1 h
      refine lv_goto (tgt := 3228) hx hb dL_law_1167 (by decide) ?_
      cases h
      refine W.widen (k := cells + 60) (n := slots + 3000) (by omega) (by omega) ?_
      exact hk _ _ _ _ hP hM hS (lv_sub hl [2, 3, 4, 5, 6] rfl)
    · have h := ifp c1 h
      refine lv_aload_n hx hb dL_law_1155 rfl (lv_at hl 5 rfl) ?_
      refine lv_iconst (v := 0) hx hb dL_law_1156 (by decide) ?_
      obtain ⟨v7, h1, h⟩ := ob h
      refine r_lald hx hb hE hM h1 dL_law_1157 ?_
      refine lv_iload hx hb dL_law_1158 (lv_at hl 0 rfl) ?_
      refine lv_i2l (v := v4.toInt64) hx hb dL_law_1160 rfl ?_
      refine W.lcmp hx hb dL_law_1161 ?_
      refine lv_if_eq (tgt := 1167) hx hb dL_law_1162 (by decide) (fun c1 => ?_) (fun c1 => ?_)
      · have h := ifp c1 h
        refine lv_goto (tgt := 3228) hx hb dL_law_1167 (by decide) ?_
        cases h
        refine W.widen (k := cells + 60) (n := slots + 3000) (by omega) (by omega) ?_
        exact hk _ _ _ _ hP hM hS (lv_sub hl [2, 3, 4, 5, 6] rfl)
      · have h := ifn c1 h
        refine lv_iconst (v := 0) hx hb dL_law_1165 (by decide) ?_
        cases h
  · have h := ifn c1 h
    refine lv_iconst (v := 0) hx hb dL_law_1148 (by decide) ?_
    cases h
