/-! printed by wip/p56/gen2.py: methods as functions over the memory, and that the code does what they say -/
theorem dd_L_pairs : yL_pairs.cls ≠ "java/lang/invoke/MethodHandle" ∧ yL_pairs.cls ≠ "java/lang/invoke/VarHandle" ∧ (parseMethodDescriptor yL_pairs.desc).map (fun d => d.parameters.length) = some 1 := by decide +kernel
abbrev rm_L_pairs : Room := ({ frames := 7, cells := 0, slots := 0, locals := 169 } : Room)
noncomputable def fj_L_pairs_378 (s0 : Int32) (M : Mem) : Option (Int32 × Mem) :=
  (if s0 = 0 ∨ s0 = 1 then some (s0, M) else none)
set_option maxHeartbeats 4000000 in
set_option maxRecDepth 100000 in
theorem tj_L_pairs_378 {p : Program} {l : Launch} {e : Env} {s : State} {m : MethodId} {args : Array Value} {below : List Frame} {meth : Method} {c : Code} {E : KEnv} {H : Heap} {locs : List Loc} {ls : Array Slot} {s0 : Int32} {M : Mem} {v : Int32} {M' : Mem} (hC : CallFix p m c cL_pairs 10 s args lw_G RL) (hr : meth.sig.returnType = (some .boolean)) (hlocks : meth.locks = false) (hE : EnvOK E s) (h : fj_L_pairs_378 s0 M = some (v, M')) (hM : MOK E M H) (hS : va_S (eA E) s.heap H locs) (hl : lv_has ls 10 []) : W p l e rm_L_pairs s m args below meth c H locs 0 0 (MQ below (cQ E (some (.int v)) M') args s 0 0 (eA E)) (F0 m 378 ls [.int s0]) := by
  obtain ⟨hx, hb, hml, hown, hts⟩ := id hC
  unfold fj_L_pairs_378 at h
  obtain ⟨h01, h⟩ := ifg h
  cases h
  exact eZ hx hb hr hlocks hM hS dL_pairs_378 (Nat.le_of_ble_eq_true rfl) (Nat.le_of_ble_eq_true rfl) h01
noncomputable def fj_L_pairs_377  (M : Mem) : Option (Int32 × Mem) :=
  fj_L_pairs_378 0 M
set_option maxHeartbeats 4000000 in
set_option maxRecDepth 100000 in
theorem tj_L_pairs_377 {p : Program} {l : Launch} {e : Env} {s : State} {m : MethodId} {args : Array Value} {below : List Frame} {meth : Method} {c : Code} {E : KEnv} {H : Heap} {locs : List Loc} {ls : Array Slot}  {M : Mem} {v : Int32} {M' : Mem} (hC : CallFix p m c cL_pairs 10 s args lw_G RL) (hr : meth.sig.returnType = (some .boolean)) (hlocks : meth.locks = false) (hE : EnvOK E s) (h : fj_L_pairs_377  M = some (v, M')) (hM : MOK E M H) (hS : va_S (eA E) s.heap H locs) (hl : lv_has ls 10 []) : W p l e rm_L_pairs s m args below meth c H locs 0 0 (MQ below (cQ E (some (.int v)) M') args s 0 0 (eA E)) (F0 m 377 ls []) := by
  obtain ⟨hx, hb, hml, hown, hts⟩ := id hC
  unfold fj_L_pairs_377 at h
  refine lv_iconst (v := 0) hx hb dL_pairs_377 (by decide) ?_
  refine W.widen (k := 0) (n := 0) (Nat.le_of_ble_eq_true rfl) (Nat.le_of_ble_eq_true rfl) ?_
  exact tj_L_pairs_378  hC hr hlocks hE  h hM hS (lv_sub hl [] rfl)
noncomputable def fj_L_pairs_326 (x0 : Nat) (x1 : Int32) (x2 : Int32) (x3 : Int32) (x4 : Int32) (M : Mem) : Option (Int32 × Mem) :=
  (if x4 = 0 then
  fj_L_pairs_377 M
  else
  bn (cK 5 x0 M (f_X4_completeShare x0 M)) fun v5 M6 =>
  (nf (FP.fdiv (FP.i2f x2) (FP.i2f x1))).bind fun v7 =>
  (if (Op.cmpValue (FP.fcmp v5 v7) CmpOp.l) = 0 then
  bn (cK 5 x0 M6 (f_X4_meanTags x0 M6)) fun v8 M9 =>
  (nd (FP.ddiv (FP.i2d x3) (FP.i2d x1))).bind fun v10 =>
  (if (Op.cmpValue (FP.dcmp v8 v10) CmpOp.l) = 0 then
  bn (cK 5 x0 M9 (f_X4_differentStates x0 M9)) fun v11 M12 =>
  (if v11 < 1 then
  fj_L_pairs_377 M12
  else
  bn (cK 5 x0 M12 (f_X4_differentStates x0 M12)) fun v13 M14 =>
  (if x1 < v13 then
  fj_L_pairs_377 M14
  else
  fj_L_pairs_378 1 M14))
  else
  fj_L_pairs_377 M9)
  else
  fj_L_pairs_377 M6))
set_option maxHeartbeats 4000000 in
set_option maxRecDepth 100000 in
theorem tj_L_pairs_326 {p : Program} {l : Launch} {e : Env} {s : State} {m : MethodId} {args : Array Value} {below : List Frame} {meth : Method} {c : Code} {E : KEnv} {H : Heap} {locs : List Loc} {ls : Array Slot} {x0 : Nat} {x1 : Int32} {x2 : Int32} {x3 : Int32} {x4 : Int32} {M : Mem} {v : Int32} {M' : Mem} (hC : CallFix p m c cL_pairs 10 s args lw_G RL) (hr : meth.sig.returnType = (some .boolean)) (hlocks : meth.locks = false) (hE : EnvOK E s) (h : fj_L_pairs_326 x0 x1 x2 x3 x4 M = some (v, M')) (hM : MOK E M H) (hS : va_S (eA E) s.heap H locs) (hl : lv_has ls 10 [(0, .ref x0), (1, .int x1), (2, .int x2), (3, .int x3), (4, .int x4)]) : W p l e rm_L_pairs s m args below meth c H locs 0 0 (MQ below (cQ E (some (.int v)) M') args s 0 0 (eA E)) (F0 m 326 ls []) := by
  obtain ⟨hx, hb, hml, hown, hts⟩ := id hC
  unfold fj_L_pairs_326 at h
  refine lv_iload hx hb dL_pairs_326 (lv_at hl 4 rfl) ?_
  refine lv_if_eq (tgt := 377) hx hb dL_pairs_328 (by decide) (fun c1 => ?_) (fun c1 => ?_)
  · have h := ifp c1 h
    refine W.widen (k := 0) (n := 0) (Nat.le_of_ble_eq_true rfl) (Nat.le_of_ble_eq_true rfl) ?_
    exact tj_L_pairs_377  hC hr hlocks hE  h hM hS (lv_sub hl [] rfl)
  · have h := ifn c1 h
    refine lv_aload_n hx hb dL_pairs_331 rfl (lv_at hl 0 rfl) ?_
    obtain ⟨v5, M6, h1, h⟩ := ob2 h
    obtain ⟨hk1, h1⟩ := ifg h1
    refine kV1 (ci := 4) (As := []) (rest := []) hC hE hS hM (mt_X4_completeShare _ E x0 _ _ _ h1) (gwV qw_1155 qw_1156 qw_1157 qw_39 qw_1158) ⟨rfl, rfl, (Nat.le_of_ble_eq_true rfl), (Nat.le_of_ble_eq_true rfl)⟩ dd_X4_completeShare rfl hk1 rfl rfl hl.1 (Nat.le_of_ble_eq_true rfl) dL_pairs_332 ⟨(Nat.le_of_ble_eq_true rfl), (Nat.le_of_ble_eq_true rfl)⟩ (fun H locs hM hS => ?_)
    refine lv_iload_n hx hb dL_pairs_335 rfl (lv_at hl 2 rfl) ?_
    refine lv_i2f hx hb dL_pairs_336 ?_
    refine lv_iload_n hx hb dL_pairs_337 rfl (lv_at hl 1 rfl) ?_
    refine lv_i2f hx hb dL_pairs_338 ?_
    obtain ⟨v7, h1, h⟩ := ob h
    obtain ⟨hn, e1⟩ := ifs h1
    refine lv_fdiv hx hb dL_pairs_339 hn ?_
    rw [← e1]
    refine lv_fcmp hx hb dL_pairs_340 ?_
    refine lv_if_ne (tgt := 377) hx hb dL_pairs_341 (by decide) (fun c1 => ?_) (fun c1 => ?_)
    · have h := ifn c1 h
      refine W.widen (k := 0) (n := 0) (Nat.le_of_ble_eq_true rfl) (Nat.le_of_ble_eq_true rfl) ?_
      exact tj_L_pairs_377  hC hr hlocks hE  h hM hS (lv_sub hl [] rfl)
    · have h := ifp c1 h
      refine lv_aload_n hx hb dL_pairs_344 rfl (lv_at hl 0 rfl) ?_
      obtain ⟨v8, M9, h1, h⟩ := ob2 h
      obtain ⟨hk1, h1⟩ := ifg h1
      refine kV1 (ci := 4) (As := []) (rest := []) hC hE hS hM (mt_X4_meanTags _ E x0 _ _ _ h1) (gwV qw_1163 qw_1164 qw_1165 qw_39 qw_1166) ⟨rfl, rfl, (Nat.le_of_ble_eq_true rfl), (Nat.le_of_ble_eq_true rfl)⟩ dd_X4_meanTags rfl hk1 rfl rfl hl.1 (Nat.le_of_ble_eq_true rfl) dL_pairs_345 ⟨(Nat.le_of_ble_eq_true rfl), (Nat.le_of_ble_eq_true rfl)⟩ (fun H locs hM hS => ?_)
      refine lv_iload_n hx hb dL_pairs_348 rfl (lv_at hl 3 rfl) ?_
      refine lv_i2d hx hb dL_pairs_349 ?_
      refine lv_iload_n hx hb dL_pairs_350 rfl (lv_at hl 1 rfl) ?_
      refine lv_i2d hx hb dL_pairs_351 ?_
      obtain ⟨v10, h1, h⟩ := ob h
      obtain ⟨hn, e1⟩ := ifs h1
      refine lv_ddiv hx hb dL_pairs_352 hn ?_
      rw [← e1]
      refine lv_dcmp hx hb dL_pairs_353 ?_
      refine lv_if_ne (tgt := 377) hx hb dL_pairs_354 (by decide) (fun c1 => ?_) (fun c1 => ?_)
      · have h := ifn c1 h
        refine W.widen (k := 0) (n := 0) (Nat.le_of_ble_eq_true rfl) (Nat.le_of_ble_eq_true rfl) ?_
        exact tj_L_pairs_377  hC hr hlocks hE  h hM hS (lv_sub hl [] rfl)
      · have h := ifp c1 h
        refine lv_aload_n hx hb dL_pairs_357 rfl (lv_at hl 0 rfl) ?_
        obtain ⟨v11, M12, h1, h⟩ := ob2 h
        obtain ⟨hk1, h1⟩ := ifg h1
        refine kV1 (ci := 4) (As := []) (rest := []) hC hE hS hM (mt_X4_differentStates _ E x0 _ _ _ h1) (gwV qw_1167 qw_1168 qw_1169 qw_39 qw_1170) ⟨rfl, rfl, (Nat.le_of_ble_eq_true rfl), (Nat.le_of_ble_eq_true rfl)⟩ dd_X4_differentStates rfl hk1 rfl rfl hl.1 (Nat.le_of_ble_eq_true rfl) dL_pairs_358 ⟨(Nat.le_of_ble_eq_true rfl), (Nat.le_of_ble_eq_true rfl)⟩ (fun H locs hM hS => ?_)
        refine lv_iconst (v := 1) hx hb dL_pairs_361 (by decide) ?_
        refine lv_icmp_lt (tgt := 377) hx hb dL_pairs_362 (by decide) (fun c1 => ?_) (fun c1 => ?_)
        · have h := ifp c1 h
          refine W.widen (k := 0) (n := 0) (Nat.le_of_ble_eq_true rfl) (Nat.le_of_ble_eq_true rfl) ?_
          exact tj_L_pairs_377  hC hr hlocks hE  h hM hS (lv_sub hl [] rfl)
        · have h := ifn c1 h
          refine lv_aload_n hx hb dL_pairs_365 rfl (lv_at hl 0 rfl) ?_
          obtain ⟨v13, M14, h1, h⟩ := ob2 h
          obtain ⟨hk1, h1⟩ := ifg h1
          refine kV1 (ci := 4) (As := []) (rest := []) hC hE hS hM (mt_X4_differentStates _ E x0 _ _ _ h1) (gwV qw_1167 qw_1168 qw_1169 qw_39 qw_1170) ⟨rfl, rfl, (Nat.le_of_ble_eq_true rfl), (Nat.le_of_ble_eq_true rfl)⟩ dd_X4_differentStates rfl hk1 rfl rfl hl.1 (Nat.le_of_ble_eq_true rfl) dL_pairs_366 ⟨(Nat.le_of_ble_eq_true rfl), (Nat.le_of_ble_eq_true rfl)⟩ (fun H locs hM hS => ?_)
          refine lv_iload_n hx hb dL_pairs_369 rfl (lv_at hl 1 rfl) ?_
          refine lv_icmp_gt (tgt := 377) hx hb dL_pairs_370 (by decide) (fun c1 => ?_) (fun c1 => ?_)
          · have h := ifp c1 h
            refine W.widen (k := 0) (n := 0) (Nat.le_of_ble_eq_true rfl) (Nat.le_of_ble_eq_true rfl) ?_
            exact tj_L_pairs_377  hC hr hlocks hE  h hM hS (lv_sub hl [] rfl)
          · have h := ifn c1 h
            refine lv_iconst (v := 1) hx hb dL_pairs_373 (by decide) ?_
            refine lv_goto (tgt := 378) hx hb dL_pairs_374 (by decide) ?_
            refine W.widen (k := 0) (n := 0) (Nat.le_of_ble_eq_true rfl) (Nat.le_of_ble_eq_true rfl) ?_
            exact tj_L_pairs_378  hC hr hlocks hE  h hM hS (lv_sub hl [] rfl)
noncomputable def fj_L_pairs_318 (x0 : Nat) (x1 : Int32) (x3 : Int32) (x4 : Int32) (x5 : Int32) (s0 : Int32) (s1 : Int32) (M : Mem) : Option ((Int32 × Int32 × Int32 × Int32 × Mem) ⊕ (Int32 × Mem)) :=
  some (.inl (s0 + s1, x3, x4, x5 + 1, M))
set_option maxHeartbeats 4000000 in
set_option maxRecDepth 100000 in
theorem tj_L_pairs_318 {p : Program} {l : Launch} {e : Env} {s : State} {m : MethodId} {args : Array Value} {below : List Frame} {meth : Method} {c : Code} {E : KEnv} {H : Heap} {locs : List Loc} {ls : Array Slot} {x0 : Nat} {x1 : Int32} {x3 : Int32} {x4 : Int32} {x5 : Int32} {s0 : Int32} {s1 : Int32} {y1 : ((Int32 × Int32 × Int32 × Int32 × Mem) ⊕ (Int32 × Mem))} {M : Mem} {v : Int32} {M' : Mem} (hC : CallFix p m c cL_pairs 10 s args lw_G RL) (hr : meth.sig.returnType = (some .boolean)) (hlocks : meth.locks = false) (hE : EnvOK E s) (hy1 : (∀ q : (Int32 × Int32 × Int32 × Int32 × Mem), y1 = .inl q → ∀ (H : Heap) (locs : List Loc) (ls : Array Slot), MOK E (q.2.2.2.2) H → va_S (eA E) s.heap H locs → lv_has ls 10 [(0, .ref x0), (1, .int x1), (2, .int q.1), (3, .int q.2.1), (4, .int q.2.2.1), (5, .int q.2.2.2.1)] → W p l e rm_L_pairs s m args below meth c H locs 0 0 (MQ below (cQ E (some (.int v)) M') args s 0 0 (eA E)) (F0 m 26 ls [])) ∧ ∀ z, y1 = .inr z → z = (v, M')) (h : fj_L_pairs_318 x0 x1 x3 x4 x5 s0 s1 M = some y1) (hM : MOK E M H) (hS : va_S (eA E) s.heap H locs) (hl : lv_has ls 10 [(0, .ref x0), (1, .int x1), (3, .int x3), (4, .int x4), (5, .int x5)]) : W p l e rm_L_pairs s m args below meth c H locs 0 0 (MQ below (cQ E (some (.int v)) M') args s 0 0 (eA E)) (F0 m 318 ls [.int s1, .int s0]) := by
  obtain ⟨hx, hb, hml, hown, hts⟩ := id hC
  unfold fj_L_pairs_318 at h
  refine lv_iadd hx hb dL_pairs_318 ?_
  refine lv_istore_n (lv' := [(2, .int (s0 + s1)), (0, .ref x0), (1, .int x1), (3, .int x3), (4, .int x4), (5, .int x5)]) hx hb dL_pairs_319 rfl hl (by decide) rfl (fun ls hl => ?_)
  refine lv_iinc (v := x5 + 1) (lv' := [(5, .int (x5 + 1)), (2, .int (s0 + s1)), (0, .ref x0), (1, .int x1), (3, .int x3), (4, .int x4)]) hx hb dL_pairs_320 hl (k := 5) rfl rfl (by decide) rfl (fun ls hl => ?_)
  refine lv_goto (tgt := 26) hx hb dL_pairs_323 (by decide) ?_
  cases h
  exact hy1.1 _ rfl _ _ _ hM hS (lv_sub hl [2, 3, 1, 4, 5, 0] rfl)
noncomputable def fj_L_pairs_307 (x0 : Nat) (x1 : Int32) (x2 : Int32) (x3 : Int32) (x4 : Int32) (x5 : Int32) (x6 : Int32) (M : Mem) : Option ((Int32 × Int32 × Int32 × Int32 × Mem) ⊕ (Int32 × Mem)) :=
  (if x6 = 0 then
  fj_L_pairs_318 x0 x1 x3 x4 x5 x2 0 M
  else
  fj_L_pairs_318 x0 x1 x3 x4 x5 x2 1 M)
set_option maxHeartbeats 4000000 in
set_option maxRecDepth 100000 in
theorem tj_L_pairs_307 {p : Program} {l : Launch} {e : Env} {s : State} {m : MethodId} {args : Array Value} {below : List Frame} {meth : Method} {c : Code} {E : KEnv} {H : Heap} {locs : List Loc} {ls : Array Slot} {x0 : Nat} {x1 : Int32} {x2 : Int32} {x3 : Int32} {x4 : Int32} {x5 : Int32} {x6 : Int32} {y1 : ((Int32 × Int32 × Int32 × Int32 × Mem) ⊕ (Int32 × Mem))} {M : Mem} {v : Int32} {M' : Mem} (hC : CallFix p m c cL_pairs 10 s args lw_G RL) (hr : meth.sig.returnType = (some .boolean)) (hlocks : meth.locks = false) (hE : EnvOK E s) (hy1 : (∀ q : (Int32 × Int32 × Int32 × Int32 × Mem), y1 = .inl q → ∀ (H : Heap) (locs : List Loc) (ls : Array Slot), MOK E (q.2.2.2.2) H → va_S (eA E) s.heap H locs → lv_has ls 10 [(0, .ref x0), (1, .int x1), (2, .int q.1), (3, .int q.2.1), (4, .int q.2.2.1), (5, .int q.2.2.2.1)] → W p l e rm_L_pairs s m args below meth c H locs 0 0 (MQ below (cQ E (some (.int v)) M') args s 0 0 (eA E)) (F0 m 26 ls [])) ∧ ∀ z, y1 = .inr z → z = (v, M')) (h : fj_L_pairs_307 x0 x1 x2 x3 x4 x5 x6 M = some y1) (hM : MOK E M H) (hS : va_S (eA E) s.heap H locs) (hl : lv_has ls 10 [(0, .ref x0), (1, .int x1), (2, .int x2), (3, .int x3), (4, .int x4), (5, .int x5), (6, .int x6)]) : W p l e rm_L_pairs s m args below meth c H locs 0 0 (MQ below (cQ E (some (.int v)) M') args s 0 0 (eA E)) (F0 m 307 ls []) := by
  obtain ⟨hx, hb, hml, hown, hts⟩ := id hC
  unfold fj_L_pairs_307 at h
  refine lv_iload_n hx hb dL_pairs_307 rfl (lv_at hl 2 rfl) ?_
  refine lv_iload hx hb dL_pairs_308 (lv_at hl 6 rfl) ?_
  refine lv_if_eq (tgt := 317) hx hb dL_pairs_310 (by decide) (fun c1 => ?_) (fun c1 => ?_)
  · have h := ifp c1 h
    refine lv_iconst (v := 0) hx hb dL_pairs_317 (by decide) ?_
    refine W.widen (k := 0) (n := 0) (Nat.le_of_ble_eq_true rfl) (Nat.le_of_ble_eq_true rfl) ?_
    exact tj_L_pairs_318  hC hr hlocks hE hy1  h hM hS (lv_sub hl [0, 1, 3, 4, 5] rfl)
  · have h := ifn c1 h
    refine lv_iconst (v := 1) hx hb dL_pairs_313 (by decide) ?_
    refine lv_goto (tgt := 318) hx hb dL_pairs_314 (by decide) ?_
    refine W.widen (k := 0) (n := 0) (Nat.le_of_ble_eq_true rfl) (Nat.le_of_ble_eq_true rfl) ?_
    exact tj_L_pairs_318  hC hr hlocks hE hy1  h hM hS (lv_sub hl [0, 1, 3, 4, 5] rfl)
noncomputable def fj_L_pairs_299 (x0 : Nat) (x1 : Int32) (x2 : Int32) (x3 : Int32) (x5 : Int32) (x6 : Int32) (x7 : Int32) (s0 : Int32) (M : Mem) : Option ((Int32 × Int32 × Int32 × Mem) ⊕ ((Int32 × Int32 × Int32 × Int32 × Mem) ⊕ (Int32 × Mem))) :=
  some (.inl (s0, x6, x7 + 1, M))
set_option maxHeartbeats 4000000 in
set_option maxRecDepth 100000 in
theorem tj_L_pairs_299 {p : Program} {l : Launch} {e : Env} {s : State} {m : MethodId} {args : Array Value} {below : List Frame} {meth : Method} {c : Code} {E : KEnv} {H : Heap} {locs : List Loc} {ls : Array Slot} {x0 : Nat} {x1 : Int32} {x2 : Int32} {x3 : Int32} {x5 : Int32} {x6 : Int32} {x7 : Int32} {s0 : Int32} {y1 : ((Int32 × Int32 × Int32 × Int32 × Mem) ⊕ (Int32 × Mem))} {y2 : ((Int32 × Int32 × Int32 × Mem) ⊕ ((Int32 × Int32 × Int32 × Int32 × Mem) ⊕ (Int32 × Mem)))} {M : Mem} {v : Int32} {M' : Mem} (hC : CallFix p m c cL_pairs 10 s args lw_G RL) (hr : meth.sig.returnType = (some .boolean)) (hlocks : meth.locks = false) (hE : EnvOK E s) (hy1 : (∀ q : (Int32 × Int32 × Int32 × Int32 × Mem), y1 = .inl q → ∀ (H : Heap) (locs : List Loc) (ls : Array Slot), MOK E (q.2.2.2.2) H → va_S (eA E) s.heap H locs → lv_has ls 10 [(0, .ref x0), (1, .int x1), (2, .int q.1), (3, .int q.2.1), (4, .int q.2.2.1), (5, .int q.2.2.2.1)] → W p l e rm_L_pairs s m args below meth c H locs 0 0 (MQ below (cQ E (some (.int v)) M') args s 0 0 (eA E)) (F0 m 26 ls [])) ∧ ∀ z, y1 = .inr z → z = (v, M')) (hy2 : (∀ q : (Int32 × Int32 × Int32 × Mem), y2 = .inl q → ∀ (H : Heap) (locs : List Loc) (ls : Array Slot), MOK E (q.2.2.2) H → va_S (eA E) s.heap H locs → lv_has ls 10 [(0, .ref x0), (1, .int x1), (2, .int x2), (3, .int x3), (5, .int x5), (4, .int q.1), (6, .int q.2.1), (7, .int q.2.2.1)] → W p l e rm_L_pairs s m args below meth c H locs 0 0 (MQ below (cQ E (some (.int v)) M') args s 0 0 (eA E)) (F0 m 52 ls [])) ∧ ∀ z, y2 = .inr z → z = y1) (h : fj_L_pairs_299 x0 x1 x2 x3 x5 x6 x7 s0 M = some y2) (hM : MOK E M H) (hS : va_S (eA E) s.heap H locs) (hl : lv_has ls 10 [(0, .ref x0), (1, .int x1), (2, .int x2), (3, .int x3), (5, .int x5), (6, .int x6), (7, .int x7)]) : W p l e rm_L_pairs s m args below meth c H locs 0 0 (MQ below (cQ E (some (.int v)) M') args s 0 0 (eA E)) (F0 m 299 ls [.int s0]) := by
  obtain ⟨hx, hb, hml, hown, hts⟩ := id hC
  unfold fj_L_pairs_299 at h
  refine lv_istore (lv' := [(4, .int s0), (0, .ref x0), (1, .int x1), (2, .int x2), (3, .int x3), (5, .int x5), (6, .int x6), (7, .int x7)]) hx hb dL_pairs_299 hl (by decide) rfl (fun ls hl => ?_)
  refine lv_iinc (v := x7 + 1) (lv' := [(7, .int (x7 + 1)), (4, .int s0), (0, .ref x0), (1, .int x1), (2, .int x2), (3, .int x3), (5, .int x5), (6, .int x6)]) hx hb dL_pairs_301 hl (k := 7) rfl rfl (by decide) rfl (fun ls hl => ?_)
  refine lv_goto (tgt := 52) hx hb dL_pairs_304 (by decide) ?_
  cases h
  exact hy2.1 _ rfl _ _ _ hM hS (lv_sub hl [2, 3, 4, 5, 6, 1, 7, 0] rfl)
noncomputable def fj_L_pairs_298 (x0 : Nat) (x1 : Int32) (x2 : Int32) (x3 : Int32) (x5 : Int32) (x6 : Int32) (x7 : Int32) (M : Mem) : Option ((Int32 × Int32 × Int32 × Mem) ⊕ ((Int32 × Int32 × Int32 × Int32 × Mem) ⊕ (Int32 × Mem))) :=
  fj_L_pairs_299 x0 x1 x2 x3 x5 x6 x7 0 M
set_option maxHeartbeats 4000000 in
set_option maxRecDepth 100000 in
theorem tj_L_pairs_298 {p : Program} {l : Launch} {e : Env} {s : State} {m : MethodId} {args : Array Value} {below : List Frame} {meth : Method} {c : Code} {E : KEnv} {H : Heap} {locs : List Loc} {ls : Array Slot} {x0 : Nat} {x1 : Int32} {x2 : Int32} {x3 : Int32} {x5 : Int32} {x6 : Int32} {x7 : Int32} {y1 : ((Int32 × Int32 × Int32 × Int32 × Mem) ⊕ (Int32 × Mem))} {y2 : ((Int32 × Int32 × Int32 × Mem) ⊕ ((Int32 × Int32 × Int32 × Int32 × Mem) ⊕ (Int32 × Mem)))} {M : Mem} {v : Int32} {M' : Mem} (hC : CallFix p m c cL_pairs 10 s args lw_G RL) (hr : meth.sig.returnType = (some .boolean)) (hlocks : meth.locks = false) (hE : EnvOK E s) (hy1 : (∀ q : (Int32 × Int32 × Int32 × Int32 × Mem), y1 = .inl q → ∀ (H : Heap) (locs : List Loc) (ls : Array Slot), MOK E (q.2.2.2.2) H → va_S (eA E) s.heap H locs → lv_has ls 10 [(0, .ref x0), (1, .int x1), (2, .int q.1), (3, .int q.2.1), (4, .int q.2.2.1), (5, .int q.2.2.2.1)] → W p l e rm_L_pairs s m args below meth c H locs 0 0 (MQ below (cQ E (some (.int v)) M') args s 0 0 (eA E)) (F0 m 26 ls [])) ∧ ∀ z, y1 = .inr z → z = (v, M')) (hy2 : (∀ q : (Int32 × Int32 × Int32 × Mem), y2 = .inl q → ∀ (H : Heap) (locs : List Loc) (ls : Array Slot), MOK E (q.2.2.2) H → va_S (eA E) s.heap H locs → lv_has ls 10 [(0, .ref x0), (1, .int x1), (2, .int x2), (3, .int x3), (5, .int x5), (4, .int q.1), (6, .int q.2.1), (7, .int q.2.2.1)] → W p l e rm_L_pairs s m args below meth c H locs 0 0 (MQ below (cQ E (some (.int v)) M') args s 0 0 (eA E)) (F0 m 52 ls [])) ∧ ∀ z, y2 = .inr z → z = y1) (h : fj_L_pairs_298 x0 x1 x2 x3 x5 x6 x7 M = some y2) (hM : MOK E M H) (hS : va_S (eA E) s.heap H locs) (hl : lv_has ls 10 [(0, .ref x0), (1, .int x1), (2, .int x2), (3, .int x3), (5, .int x5), (6, .int x6), (7, .int x7)]) : W p l e rm_L_pairs s m args below meth c H locs 0 0 (MQ below (cQ E (some (.int v)) M') args s 0 0 (eA E)) (F0 m 298 ls []) := by
  obtain ⟨hx, hb, hml, hown, hts⟩ := id hC
  unfold fj_L_pairs_298 at h
  refine lv_iconst (v := 0) hx hb dL_pairs_298 (by decide) ?_
  refine W.widen (k := 0) (n := 0) (Nat.le_of_ble_eq_true rfl) (Nat.le_of_ble_eq_true rfl) ?_
  exact tj_L_pairs_299  hC hr hlocks hE hy1 hy2  h hM hS (lv_sub hl [0, 1, 2, 3, 4, 5, 6] rfl)
noncomputable def fj_L_pairs_272 (x0 : Nat) (x1 : Int32) (x2 : Int32) (x3 : Int32) (x5 : Int32) (x6 : Int32) (x7 : Int32) (s0 : Int32) (s1 : Int32) (M : Mem) : Option ((Int32 × Int32 × Int32 × Mem) ⊕ ((Int32 × Int32 × Int32 × Int32 × Mem) ⊕ (Int32 × Mem))) :=
  (if s0 < s1 then
  fj_L_pairs_298 x0 x1 x2 x3 x5 x6 x7 M
  else
  bq (cK 5 x0 M (f_X4_areEqual x0 x5 x7 M)) fun v27 M28 =>
  bq (cK 5 x0 M28 (f_X4_areEqual x0 x7 x5 M28)) fun v29 M30 =>
  (if v27 = v29 then
  fj_L_pairs_299 x0 x1 x2 x3 x5 x6 x7 1 M30
  else
  fj_L_pairs_298 x0 x1 x2 x3 x5 x6 x7 M30))
set_option maxHeartbeats 4000000 in
set_option maxRecDepth 100000 in
theorem tj_L_pairs_272 {p : Program} {l : Launch} {e : Env} {s : State} {m : MethodId} {args : Array Value} {below : List Frame} {meth : Method} {c : Code} {E : KEnv} {H : Heap} {locs : List Loc} {ls : Array Slot} {x0 : Nat} {x1 : Int32} {x2 : Int32} {x3 : Int32} {x5 : Int32} {x6 : Int32} {x7 : Int32} {s0 : Int32} {s1 : Int32} {y1 : ((Int32 × Int32 × Int32 × Int32 × Mem) ⊕ (Int32 × Mem))} {y2 : ((Int32 × Int32 × Int32 × Mem) ⊕ ((Int32 × Int32 × Int32 × Int32 × Mem) ⊕ (Int32 × Mem)))} {M : Mem} {v : Int32} {M' : Mem} (hC : CallFix p m c cL_pairs 10 s args lw_G RL) (hr : meth.sig.returnType = (some .boolean)) (hlocks : meth.locks = false) (hE : EnvOK E s) (hy1 : (∀ q : (Int32 × Int32 × Int32 × Int32 × Mem), y1 = .inl q → ∀ (H : Heap) (locs : List Loc) (ls : Array Slot), MOK E (q.2.2.2.2) H → va_S (eA E) s.heap H locs → lv_has ls 10 [(0, .ref x0), (1, .int x1), (2, .int q.1), (3, .int q.2.1), (4, .int q.2.2.1), (5, .int q.2.2.2.1)] → W p l e rm_L_pairs s m args below meth c H locs 0 0 (MQ below (cQ E (some (.int v)) M') args s 0 0 (eA E)) (F0 m 26 ls [])) ∧ ∀ z, y1 = .inr z → z = (v, M')) (hy2 : (∀ q : (Int32 × Int32 × Int32 × Mem), y2 = .inl q → ∀ (H : Heap) (locs : List Loc) (ls : Array Slot), MOK E (q.2.2.2) H → va_S (eA E) s.heap H locs → lv_has ls 10 [(0, .ref x0), (1, .int x1), (2, .int x2), (3, .int x3), (5, .int x5), (4, .int q.1), (6, .int q.2.1), (7, .int q.2.2.1)] → W p l e rm_L_pairs s m args below meth c H locs 0 0 (MQ below (cQ E (some (.int v)) M') args s 0 0 (eA E)) (F0 m 52 ls [])) ∧ ∀ z, y2 = .inr z → z = y1) (h : fj_L_pairs_272 x0 x1 x2 x3 x5 x6 x7 s0 s1 M = some y2) (hM : MOK E M H) (hS : va_S (eA E) s.heap H locs) (hl : lv_has ls 10 [(0, .ref x0), (1, .int x1), (2, .int x2), (3, .int x3), (5, .int x5), (6, .int x6), (7, .int x7)]) : W p l e rm_L_pairs s m args below meth c H locs 0 0 (MQ below (cQ E (some (.int v)) M') args s 0 0 (eA E)) (F0 m 272 ls [.int s1, .int s0]) := by
  obtain ⟨hx, hb, hml, hown, hts⟩ := id hC
  unfold fj_L_pairs_272 at h
  refine lv_icmp_lt (tgt := 298) hx hb dL_pairs_272 (by decide) (fun c1 => ?_) (fun c1 => ?_)
  · have h := ifp c1 h
    refine W.widen (k := 0) (n := 0) (Nat.le_of_ble_eq_true rfl) (Nat.le_of_ble_eq_true rfl) ?_
    exact tj_L_pairs_298  hC hr hlocks hE hy1 hy2  h hM hS (lv_sub hl [0, 1, 2, 3, 4, 5, 6] rfl)
  · have h := ifn c1 h
    refine lv_aload_n hx hb dL_pairs_275 rfl (lv_at hl 0 rfl) ?_
    refine lv_iload hx hb dL_pairs_276 (lv_at hl 4 rfl) ?_
    refine lv_iload hx hb dL_pairs_278 (lv_at hl 6 rfl) ?_
    obtain ⟨v27, M28, h1, h⟩ := obq h
    obtain ⟨hk1, h1⟩ := ifg h1
    refine kV1 (ci := 4) (As := [.int x5, .int x7]) (rest := []) hC hE hS hM (mq_X4_areEqual _ E x0 x5 x7 _ _ _ h1) (gwV qw_1147 qw_1148 qw_1149 qw_39 qw_1150) ⟨rfl, rfl, (Nat.le_of_ble_eq_true rfl), (Nat.le_of_ble_eq_true rfl)⟩ dd_X4_areEqual rfl hk1 rfl rfl hl.1 (Nat.le_of_ble_eq_true rfl) dL_pairs_280 ⟨(Nat.le_of_ble_eq_true rfl), (Nat.le_of_ble_eq_true rfl)⟩ (fun H locs hM hS => ?_)
    refine lv_aload_n hx hb dL_pairs_283 rfl (lv_at hl 0 rfl) ?_
    refine lv_iload hx hb dL_pairs_284 (lv_at hl 6 rfl) ?_
    refine lv_iload hx hb dL_pairs_286 (lv_at hl 4 rfl) ?_
    obtain ⟨v29, M30, h1, h⟩ := obq h
    obtain ⟨hk1, h1⟩ := ifg h1
    refine kV1 (ci := 4) (As := [.int x7, .int x5]) (rest := [.int v27]) hC hE hS hM (mq_X4_areEqual _ E x0 x7 x5 _ _ _ h1) (gwV qw_1147 qw_1148 qw_1149 qw_39 qw_1150) ⟨rfl, rfl, (Nat.le_of_ble_eq_true rfl), (Nat.le_of_ble_eq_true rfl)⟩ dd_X4_areEqual rfl hk1 rfl rfl hl.1 (Nat.le_of_ble_eq_true rfl) dL_pairs_288 ⟨(Nat.le_of_ble_eq_true rfl), (Nat.le_of_ble_eq_true rfl)⟩ (fun H locs hM hS => ?_)
    refine lv_icmp_ne (tgt := 298) hx hb dL_pairs_291 (by decide) (fun c1 => ?_) (fun c1 => ?_)
    · have h := ifn c1 h
      refine W.widen (k := 0) (n := 0) (Nat.le_of_ble_eq_true rfl) (Nat.le_of_ble_eq_true rfl) ?_
      exact tj_L_pairs_298  hC hr hlocks hE hy1 hy2  h hM hS (lv_sub hl [0, 1, 2, 3, 4, 5, 6] rfl)
    · have h := ifp c1 h
      refine lv_iconst (v := 1) hx hb dL_pairs_294 (by decide) ?_
      refine lv_goto (tgt := 299) hx hb dL_pairs_295 (by decide) ?_
      refine W.widen (k := 0) (n := 0) (Nat.le_of_ble_eq_true rfl) (Nat.le_of_ble_eq_true rfl) ?_
      exact tj_L_pairs_299  hC hr hlocks hE hy1 hy2  h hM hS (lv_sub hl [0, 1, 2, 3, 4, 5, 6] rfl)
noncomputable def fj_L_pairs_251 (x0 : Nat) (x1 : Int32) (x2 : Int32) (x3 : Int32) (x5 : Int32) (x6 : Int32) (x7 : Int32) (x8 : Int32) (s0 : Int32) (s1 : Int32) (M : Mem) : Option ((Int32 × Int32 × Int32 × Mem) ⊕ ((Int32 × Int32 × Int32 × Int32 × Mem) ⊕ (Int32 × Mem))) :=
  (if s0 = s1 then
  bq (cK 5 x0 M (f_X4_deltaSize x0 x7 x5 M)) fun v25 M26 =>
  (if x8 ≤ 0 then
  fj_L_pairs_272 x0 x1 x2 x3 x5 x6 x7 v25 0 M26
  else
  fj_L_pairs_272 x0 x1 x2 x3 x5 x6 x7 v25 1 M26)
  else
  fj_L_pairs_298 x0 x1 x2 x3 x5 x6 x7 M)
set_option maxHeartbeats 4000000 in
set_option maxRecDepth 100000 in
theorem tj_L_pairs_251 {p : Program} {l : Launch} {e : Env} {s : State} {m : MethodId} {args : Array Value} {below : List Frame} {meth : Method} {c : Code} {E : KEnv} {H : Heap} {locs : List Loc} {ls : Array Slot} {x0 : Nat} {x1 : Int32} {x2 : Int32} {x3 : Int32} {x5 : Int32} {x6 : Int32} {x7 : Int32} {x8 : Int32} {s0 : Int32} {s1 : Int32} {y1 : ((Int32 × Int32 × Int32 × Int32 × Mem) ⊕ (Int32 × Mem))} {y2 : ((Int32 × Int32 × Int32 × Mem) ⊕ ((Int32 × Int32 × Int32 × Int32 × Mem) ⊕ (Int32 × Mem)))} {M : Mem} {v : Int32} {M' : Mem} (hC : CallFix p m c cL_pairs 10 s args lw_G RL) (hr : meth.sig.returnType = (some .boolean)) (hlocks : meth.locks = false) (hE : EnvOK E s) (hy1 : (∀ q : (Int32 × Int32 × Int32 × Int32 × Mem), y1 = .inl q → ∀ (H : Heap) (locs : List Loc) (ls : Array Slot), MOK E (q.2.2.2.2) H → va_S (eA E) s.heap H locs → lv_has ls 10 [(0, .ref x0), (1, .int x1), (2, .int q.1), (3, .int q.2.1), (4, .int q.2.2.1), (5, .int q.2.2.2.1)] → W p l e rm_L_pairs s m args below meth c H locs 0 0 (MQ below (cQ E (some (.int v)) M') args s 0 0 (eA E)) (F0 m 26 ls [])) ∧ ∀ z, y1 = .inr z → z = (v, M')) (hy2 : (∀ q : (Int32 × Int32 × Int32 × Mem), y2 = .inl q → ∀ (H : Heap) (locs : List Loc) (ls : Array Slot), MOK E (q.2.2.2) H → va_S (eA E) s.heap H locs → lv_has ls 10 [(0, .ref x0), (1, .int x1), (2, .int x2), (3, .int x3), (5, .int x5), (4, .int q.1), (6, .int q.2.1), (7, .int q.2.2.1)] → W p l e rm_L_pairs s m args below meth c H locs 0 0 (MQ below (cQ E (some (.int v)) M') args s 0 0 (eA E)) (F0 m 52 ls [])) ∧ ∀ z, y2 = .inr z → z = y1) (h : fj_L_pairs_251 x0 x1 x2 x3 x5 x6 x7 x8 s0 s1 M = some y2) (hM : MOK E M H) (hS : va_S (eA E) s.heap H locs) (hl : lv_has ls 10 [(0, .ref x0), (1, .int x1), (2, .int x2), (3, .int x3), (5, .int x5), (6, .int x6), (7, .int x7), (8, .int x8)]) : W p l e rm_L_pairs s m args below meth c H locs 0 0 (MQ below (cQ E (some (.int v)) M') args s 0 0 (eA E)) (F0 m 251 ls [.int s1, .int s0]) := by
  obtain ⟨hx, hb, hml, hown, hts⟩ := id hC
  unfold fj_L_pairs_251 at h
  refine lv_icmp_ne (tgt := 298) hx hb dL_pairs_251 (by decide) (fun c1 => ?_) (fun c1 => ?_)
  · have h := ifn c1 h
    refine W.widen (k := 0) (n := 0) (Nat.le_of_ble_eq_true rfl) (Nat.le_of_ble_eq_true rfl) ?_
    exact tj_L_pairs_298  hC hr hlocks hE hy1 hy2  h hM hS (lv_sub hl [0, 1, 2, 3, 4, 5, 6] rfl)
  · have h := ifp c1 h
    refine lv_aload_n hx hb dL_pairs_254 rfl (lv_at hl 0 rfl) ?_
    refine lv_iload hx hb dL_pairs_255 (lv_at hl 6 rfl) ?_
    refine lv_iload hx hb dL_pairs_257 (lv_at hl 4 rfl) ?_
    obtain ⟨v25, M26, h1, h⟩ := obq h
    obtain ⟨hk1, h1⟩ := ifg h1
    refine kV1 (ci := 4) (As := [.int x7, .int x5]) (rest := []) hC hE hS hM (mq_X4_deltaSize _ E x0 x7 x5 _ _ _ h1) (gwV qw_1127 qw_1128 qw_1129 qw_39 qw_1130) ⟨rfl, rfl, (Nat.le_of_ble_eq_true rfl), (Nat.le_of_ble_eq_true rfl)⟩ dd_X4_deltaSize rfl hk1 rfl rfl hl.1 (Nat.le_of_ble_eq_true rfl) dL_pairs_259 ⟨(Nat.le_of_ble_eq_true rfl), (Nat.le_of_ble_eq_true rfl)⟩ (fun H locs hM hS => ?_)
    refine lv_iload hx hb dL_pairs_262 (lv_at hl 7 rfl) ?_
    refine lv_if_le (tgt := 271) hx hb dL_pairs_264 (by decide) (fun c1 => ?_) (fun c1 => ?_)
    · have h := ifp c1 h
      refine lv_iconst (v := 0) hx hb dL_pairs_271 (by decide) ?_
      refine W.widen (k := 0) (n := 0) (Nat.le_of_ble_eq_true rfl) (Nat.le_of_ble_eq_true rfl) ?_
      exact tj_L_pairs_272  hC hr hlocks hE hy1 hy2  h hM hS (lv_sub hl [0, 1, 2, 3, 4, 5, 6] rfl)
    · have h := ifn c1 h
      refine lv_iconst (v := 1) hx hb dL_pairs_267 (by decide) ?_
      refine lv_goto (tgt := 272) hx hb dL_pairs_268 (by decide) ?_
      refine W.widen (k := 0) (n := 0) (Nat.le_of_ble_eq_true rfl) (Nat.le_of_ble_eq_true rfl) ?_
      exact tj_L_pairs_272  hC hr hlocks hE hy1 hy2  h hM hS (lv_sub hl [0, 1, 2, 3, 4, 5, 6] rfl)
noncomputable def fj_L_pairs_250 (x0 : Nat) (x1 : Int32) (x2 : Int32) (x3 : Int32) (x5 : Int32) (x6 : Int32) (x7 : Int32) (x8 : Int32) (s0 : Int32) (M : Mem) : Option ((Int32 × Int32 × Int32 × Mem) ⊕ ((Int32 × Int32 × Int32 × Int32 × Mem) ⊕ (Int32 × Mem))) :=
  fj_L_pairs_251 x0 x1 x2 x3 x5 x6 x7 x8 s0 0 M
set_option maxHeartbeats 4000000 in
set_option maxRecDepth 100000 in
theorem tj_L_pairs_250 {p : Program} {l : Launch} {e : Env} {s : State} {m : MethodId} {args : Array Value} {below : List Frame} {meth : Method} {c : Code} {E : KEnv} {H : Heap} {locs : List Loc} {ls : Array Slot} {x0 : Nat} {x1 : Int32} {x2 : Int32} {x3 : Int32} {x5 : Int32} {x6 : Int32} {x7 : Int32} {x8 : Int32} {s0 : Int32} {y1 : ((Int32 × Int32 × Int32 × Int32 × Mem) ⊕ (Int32 × Mem))} {y2 : ((Int32 × Int32 × Int32 × Mem) ⊕ ((Int32 × Int32 × Int32 × Int32 × Mem) ⊕ (Int32 × Mem)))} {M : Mem} {v : Int32} {M' : Mem} (hC : CallFix p m c cL_pairs 10 s args lw_G RL) (hr : meth.sig.returnType = (some .boolean)) (hlocks : meth.locks = false) (hE : EnvOK E s) (hy1 : (∀ q : (Int32 × Int32 × Int32 × Int32 × Mem), y1 = .inl q → ∀ (H : Heap) (locs : List Loc) (ls : Array Slot), MOK E (q.2.2.2.2) H → va_S (eA E) s.heap H locs → lv_has ls 10 [(0, .ref x0), (1, .int x1), (2, .int q.1), (3, .int q.2.1), (4, .int q.2.2.1), (5, .int q.2.2.2.1)] → W p l e rm_L_pairs s m args below meth c H locs 0 0 (MQ below (cQ E (some (.int v)) M') args s 0 0 (eA E)) (F0 m 26 ls [])) ∧ ∀ z, y1 = .inr z → z = (v, M')) (hy2 : (∀ q : (Int32 × Int32 × Int32 × Mem), y2 = .inl q → ∀ (H : Heap) (locs : List Loc) (ls : Array Slot), MOK E (q.2.2.2) H → va_S (eA E) s.heap H locs → lv_has ls 10 [(0, .ref x0), (1, .int x1), (2, .int x2), (3, .int x3), (5, .int x5), (4, .int q.1), (6, .int q.2.1), (7, .int q.2.2.1)] → W p l e rm_L_pairs s m args below meth c H locs 0 0 (MQ below (cQ E (some (.int v)) M') args s 0 0 (eA E)) (F0 m 52 ls [])) ∧ ∀ z, y2 = .inr z → z = y1) (h : fj_L_pairs_250 x0 x1 x2 x3 x5 x6 x7 x8 s0 M = some y2) (hM : MOK E M H) (hS : va_S (eA E) s.heap H locs) (hl : lv_has ls 10 [(0, .ref x0), (1, .int x1), (2, .int x2), (3, .int x3), (5, .int x5), (6, .int x6), (7, .int x7), (8, .int x8)]) : W p l e rm_L_pairs s m args below meth c H locs 0 0 (MQ below (cQ E (some (.int v)) M') args s 0 0 (eA E)) (F0 m 250 ls [.int s0]) := by
  obtain ⟨hx, hb, hml, hown, hts⟩ := id hC
  unfold fj_L_pairs_250 at h
  refine lv_iconst (v := 0) hx hb dL_pairs_250 (by decide) ?_
  refine W.widen (k := 0) (n := 0) (Nat.le_of_ble_eq_true rfl) (Nat.le_of_ble_eq_true rfl) ?_
  exact tj_L_pairs_251  hC hr hlocks hE hy1 hy2  h hM hS (lv_sub hl [0, 1, 2, 3, 4, 5, 6, 7] rfl)
noncomputable def fj_L_pairs_219 (x0 : Nat) (x1 : Int32) (x2 : Int32) (x3 : Int32) (x5 : Int32) (x6 : Int32) (x7 : Int32) (x8 : Int32) (x9 : Int32) (s0 : Int32) (s1 : Int32) (M : Mem) : Option ((Int32 × Int32 × Int32 × Mem) ⊕ ((Int32 × Int32 × Int32 × Int32 × Mem) ⊕ (Int32 × Mem))) :=
  (if s0 = s1 then
  bq (cK 5 x0 M (f_X4_areConcurrent x0 x5 x7 M)) fun v23 M24 =>
  (if x9 = 0 then
  bq (cK 5 x0 M24 (f_X4_covers x0 x7 x5 M24)) fun v31 M32 =>
  (if v31 = 0 then
  fj_L_pairs_251 x0 x1 x2 x3 x5 x6 x7 x8 v23 1 M32
  else
  fj_L_pairs_250 x0 x1 x2 x3 x5 x6 x7 x8 v23 M32)
  else
  fj_L_pairs_250 x0 x1 x2 x3 x5 x6 x7 x8 v23 M24)
  else
  fj_L_pairs_298 x0 x1 x2 x3 x5 x6 x7 M)
set_option maxHeartbeats 4000000 in
set_option maxRecDepth 100000 in
theorem tj_L_pairs_219 {p : Program} {l : Launch} {e : Env} {s : State} {m : MethodId} {args : Array Value} {below : List Frame} {meth : Method} {c : Code} {E : KEnv} {H : Heap} {locs : List Loc} {ls : Array Slot} {x0 : Nat} {x1 : Int32} {x2 : Int32} {x3 : Int32} {x5 : Int32} {x6 : Int32} {x7 : Int32} {x8 : Int32} {x9 : Int32} {s0 : Int32} {s1 : Int32} {y1 : ((Int32 × Int32 × Int32 × Int32 × Mem) ⊕ (Int32 × Mem))} {y2 : ((Int32 × Int32 × Int32 × Mem) ⊕ ((Int32 × Int32 × Int32 × Int32 × Mem) ⊕ (Int32 × Mem)))} {M : Mem} {v : Int32} {M' : Mem} (hC : CallFix p m c cL_pairs 10 s args lw_G RL) (hr : meth.sig.returnType = (some .boolean)) (hlocks : meth.locks = false) (hE : EnvOK E s) (hy1 : (∀ q : (Int32 × Int32 × Int32 × Int32 × Mem), y1 = .inl q → ∀ (H : Heap) (locs : List Loc) (ls : Array Slot), MOK E (q.2.2.2.2) H → va_S (eA E) s.heap H locs → lv_has ls 10 [(0, .ref x0), (1, .int x1), (2, .int q.1), (3, .int q.2.1), (4, .int q.2.2.1), (5, .int q.2.2.2.1)] → W p l e rm_L_pairs s m args below meth c H locs 0 0 (MQ below (cQ E (some (.int v)) M') args s 0 0 (eA E)) (F0 m 26 ls [])) ∧ ∀ z, y1 = .inr z → z = (v, M')) (hy2 : (∀ q : (Int32 × Int32 × Int32 × Mem), y2 = .inl q → ∀ (H : Heap) (locs : List Loc) (ls : Array Slot), MOK E (q.2.2.2) H → va_S (eA E) s.heap H locs → lv_has ls 10 [(0, .ref x0), (1, .int x1), (2, .int x2), (3, .int x3), (5, .int x5), (4, .int q.1), (6, .int q.2.1), (7, .int q.2.2.1)] → W p l e rm_L_pairs s m args below meth c H locs 0 0 (MQ below (cQ E (some (.int v)) M') args s 0 0 (eA E)) (F0 m 52 ls [])) ∧ ∀ z, y2 = .inr z → z = y1) (h : fj_L_pairs_219 x0 x1 x2 x3 x5 x6 x7 x8 x9 s0 s1 M = some y2) (hM : MOK E M H) (hS : va_S (eA E) s.heap H locs) (hl : lv_has ls 10 [(0, .ref x0), (1, .int x1), (2, .int x2), (3, .int x3), (5, .int x5), (6, .int x6), (7, .int x7), (8, .int x8), (9, .int x9)]) : W p l e rm_L_pairs s m args below meth c H locs 0 0 (MQ below (cQ E (some (.int v)) M') args s 0 0 (eA E)) (F0 m 219 ls [.int s1, .int s0]) := by
  obtain ⟨hx, hb, hml, hown, hts⟩ := id hC
  unfold fj_L_pairs_219 at h
  refine lv_icmp_ne (tgt := 298) hx hb dL_pairs_219 (by decide) (fun c1 => ?_) (fun c1 => ?_)
  · have h := ifn c1 h
    refine W.widen (k := 0) (n := 0) (Nat.le_of_ble_eq_true rfl) (Nat.le_of_ble_eq_true rfl) ?_
    exact tj_L_pairs_298  hC hr hlocks hE hy1 hy2  h hM hS (lv_sub hl [0, 1, 2, 3, 4, 5, 6] rfl)
  · have h := ifp c1 h
    refine lv_aload_n hx hb dL_pairs_222 rfl (lv_at hl 0 rfl) ?_
    refine lv_iload hx hb dL_pairs_223 (lv_at hl 4 rfl) ?_
    refine lv_iload hx hb dL_pairs_225 (lv_at hl 6 rfl) ?_
    obtain ⟨v23, M24, h1, h⟩ := obq h
    obtain ⟨hk1, h1⟩ := ifg h1
    refine kV1 (ci := 4) (As := [.int x5, .int x7]) (rest := []) hC hE hS hM (mq_X4_areConcurrent _ E x0 x5 x7 _ _ _ h1) (gwV qw_1151 qw_1152 qw_1153 qw_39 qw_1154) ⟨rfl, rfl, (Nat.le_of_ble_eq_true rfl), (Nat.le_of_ble_eq_true rfl)⟩ dd_X4_areConcurrent rfl hk1 rfl rfl hl.1 (Nat.le_of_ble_eq_true rfl) dL_pairs_227 ⟨(Nat.le_of_ble_eq_true rfl), (Nat.le_of_ble_eq_true rfl)⟩ (fun H locs hM hS => ?_)
    refine lv_iload hx hb dL_pairs_230 (lv_at hl 8 rfl) ?_
    refine lv_if_ne (tgt := 250) hx hb dL_pairs_232 (by decide) (fun c1 => ?_) (fun c1 => ?_)
    · have h := ifn c1 h
      refine W.widen (k := 0) (n := 0) (Nat.le_of_ble_eq_true rfl) (Nat.le_of_ble_eq_true rfl) ?_
      exact tj_L_pairs_250  hC hr hlocks hE hy1 hy2  h hM hS (lv_sub hl [0, 1, 2, 3, 4, 5, 6, 7] rfl)
    · have h := ifp c1 h
      refine lv_aload_n hx hb dL_pairs_235 rfl (lv_at hl 0 rfl) ?_
      refine lv_iload hx hb dL_pairs_236 (lv_at hl 6 rfl) ?_
      refine lv_iload hx hb dL_pairs_238 (lv_at hl 4 rfl) ?_
      obtain ⟨v31, M32, h1, h⟩ := obq h
      obtain ⟨hk1, h1⟩ := ifg h1
      refine kV1 (ci := 4) (As := [.int x7, .int x5]) (rest := [.int v23]) hC hE hS hM (mq_X4_covers _ E x0 x7 x5 _ _ _ h1) (gwV qw_1119 qw_1120 qw_1121 qw_39 qw_1122) ⟨rfl, rfl, (Nat.le_of_ble_eq_true rfl), (Nat.le_of_ble_eq_true rfl)⟩ dd_X4_covers rfl hk1 rfl rfl hl.1 (Nat.le_of_ble_eq_true rfl) dL_pairs_240 ⟨(Nat.le_of_ble_eq_true rfl), (Nat.le_of_ble_eq_true rfl)⟩ (fun H locs hM hS => ?_)
      refine lv_if_ne (tgt := 250) hx hb dL_pairs_243 (by decide) (fun c1 => ?_) (fun c1 => ?_)
      · have h := ifn c1 h
        refine W.widen (k := 0) (n := 0) (Nat.le_of_ble_eq_true rfl) (Nat.le_of_ble_eq_true rfl) ?_
        exact tj_L_pairs_250  hC hr hlocks hE hy1 hy2  h hM hS (lv_sub hl [0, 1, 2, 3, 4, 5, 6, 7] rfl)
      · have h := ifp c1 h
        refine lv_iconst (v := 1) hx hb dL_pairs_246 (by decide) ?_
        refine lv_goto (tgt := 251) hx hb dL_pairs_247 (by decide) ?_
        refine W.widen (k := 0) (n := 0) (Nat.le_of_ble_eq_true rfl) (Nat.le_of_ble_eq_true rfl) ?_
        exact tj_L_pairs_251  hC hr hlocks hE hy1 hy2  h hM hS (lv_sub hl [0, 1, 2, 3, 4, 5, 6, 7] rfl)
noncomputable def fj_L_pairs_218 (x0 : Nat) (x1 : Int32) (x2 : Int32) (x3 : Int32) (x5 : Int32) (x6 : Int32) (x7 : Int32) (x8 : Int32) (x9 : Int32) (s0 : Int32) (M : Mem) : Option ((Int32 × Int32 × Int32 × Mem) ⊕ ((Int32 × Int32 × Int32 × Int32 × Mem) ⊕ (Int32 × Mem))) :=
  fj_L_pairs_219 x0 x1 x2 x3 x5 x6 x7 x8 x9 s0 0 M
set_option maxHeartbeats 4000000 in
set_option maxRecDepth 100000 in
theorem tj_L_pairs_218 {p : Program} {l : Launch} {e : Env} {s : State} {m : MethodId} {args : Array Value} {below : List Frame} {meth : Method} {c : Code} {E : KEnv} {H : Heap} {locs : List Loc} {ls : Array Slot} {x0 : Nat} {x1 : Int32} {x2 : Int32} {x3 : Int32} {x5 : Int32} {x6 : Int32} {x7 : Int32} {x8 : Int32} {x9 : Int32} {s0 : Int32} {y1 : ((Int32 × Int32 × Int32 × Int32 × Mem) ⊕ (Int32 × Mem))} {y2 : ((Int32 × Int32 × Int32 × Mem) ⊕ ((Int32 × Int32 × Int32 × Int32 × Mem) ⊕ (Int32 × Mem)))} {M : Mem} {v : Int32} {M' : Mem} (hC : CallFix p m c cL_pairs 10 s args lw_G RL) (hr : meth.sig.returnType = (some .boolean)) (hlocks : meth.locks = false) (hE : EnvOK E s) (hy1 : (∀ q : (Int32 × Int32 × Int32 × Int32 × Mem), y1 = .inl q → ∀ (H : Heap) (locs : List Loc) (ls : Array Slot), MOK E (q.2.2.2.2) H → va_S (eA E) s.heap H locs → lv_has ls 10 [(0, .ref x0), (1, .int x1), (2, .int q.1), (3, .int q.2.1), (4, .int q.2.2.1), (5, .int q.2.2.2.1)] → W p l e rm_L_pairs s m args below meth c H locs 0 0 (MQ below (cQ E (some (.int v)) M') args s 0 0 (eA E)) (F0 m 26 ls [])) ∧ ∀ z, y1 = .inr z → z = (v, M')) (hy2 : (∀ q : (Int32 × Int32 × Int32 × Mem), y2 = .inl q → ∀ (H : Heap) (locs : List Loc) (ls : Array Slot), MOK E (q.2.2.2) H → va_S (eA E) s.heap H locs → lv_has ls 10 [(0, .ref x0), (1, .int x1), (2, .int x2), (3, .int x3), (5, .int x5), (4, .int q.1), (6, .int q.2.1), (7, .int q.2.2.1)] → W p l e rm_L_pairs s m args below meth c H locs 0 0 (MQ below (cQ E (some (.int v)) M') args s 0 0 (eA E)) (F0 m 52 ls [])) ∧ ∀ z, y2 = .inr z → z = y1) (h : fj_L_pairs_218 x0 x1 x2 x3 x5 x6 x7 x8 x9 s0 M = some y2) (hM : MOK E M H) (hS : va_S (eA E) s.heap H locs) (hl : lv_has ls 10 [(0, .ref x0), (1, .int x1), (2, .int x2), (3, .int x3), (5, .int x5), (6, .int x6), (7, .int x7), (8, .int x8), (9, .int x9)]) : W p l e rm_L_pairs s m args below meth c H locs 0 0 (MQ below (cQ E (some (.int v)) M') args s 0 0 (eA E)) (F0 m 218 ls [.int s0]) := by
  obtain ⟨hx, hb, hml, hown, hts⟩ := id hC
  unfold fj_L_pairs_218 at h
  refine lv_iconst (v := 0) hx hb dL_pairs_218 (by decide) ?_
  refine W.widen (k := 0) (n := 0) (Nat.le_of_ble_eq_true rfl) (Nat.le_of_ble_eq_true rfl) ?_
  exact tj_L_pairs_219  hC hr hlocks hE hy1 hy2  h hM hS (lv_sub hl [0, 1, 2, 3, 4, 5, 6, 7, 8] rfl)
noncomputable def fj_L_pairs_190 (x0 : Nat) (x1 : Int32) (x2 : Int32) (x3 : Int32) (x5 : Int32) (x6 : Int32) (x7 : Int32) (x8 : Int32) (x9 : Int32) (M : Mem) : Option ((Int32 × Int32 × Int32 × Mem) ⊕ ((Int32 × Int32 × Int32 × Int32 × Mem) ⊕ (Int32 × Mem))) :=
  bq (cK 5 x0 M (f_X4_areEqual x0 x5 x7 M)) fun v21 M22 =>
  (if x9 = 0 then
  fj_L_pairs_218 x0 x1 x2 x3 x5 x6 x7 x8 x9 v21 M22
  else
  bq (cK 5 x0 M22 (f_X4_covers x0 x7 x5 M22)) fun v33 M34 =>
  (if v33 = 0 then
  fj_L_pairs_218 x0 x1 x2 x3 x5 x6 x7 x8 x9 v21 M34
  else
  fj_L_pairs_219 x0 x1 x2 x3 x5 x6 x7 x8 x9 v21 1 M34))
set_option maxHeartbeats 4000000 in
set_option maxRecDepth 100000 in
theorem tj_L_pairs_190 {p : Program} {l : Launch} {e : Env} {s : State} {m : MethodId} {args : Array Value} {below : List Frame} {meth : Method} {c : Code} {E : KEnv} {H : Heap} {locs : List Loc} {ls : Array Slot} {x0 : Nat} {x1 : Int32} {x2 : Int32} {x3 : Int32} {x5 : Int32} {x6 : Int32} {x7 : Int32} {x8 : Int32} {x9 : Int32} {y1 : ((Int32 × Int32 × Int32 × Int32 × Mem) ⊕ (Int32 × Mem))} {y2 : ((Int32 × Int32 × Int32 × Mem) ⊕ ((Int32 × Int32 × Int32 × Int32 × Mem) ⊕ (Int32 × Mem)))} {M : Mem} {v : Int32} {M' : Mem} (hC : CallFix p m c cL_pairs 10 s args lw_G RL) (hr : meth.sig.returnType = (some .boolean)) (hlocks : meth.locks = false) (hE : EnvOK E s) (hy1 : (∀ q : (Int32 × Int32 × Int32 × Int32 × Mem), y1 = .inl q → ∀ (H : Heap) (locs : List Loc) (ls : Array Slot), MOK E (q.2.2.2.2) H → va_S (eA E) s.heap H locs → lv_has ls 10 [(0, .ref x0), (1, .int x1), (2, .int q.1), (3, .int q.2.1), (4, .int q.2.2.1), (5, .int q.2.2.2.1)] → W p l e rm_L_pairs s m args below meth c H locs 0 0 (MQ below (cQ E (some (.int v)) M') args s 0 0 (eA E)) (F0 m 26 ls [])) ∧ ∀ z, y1 = .inr z → z = (v, M')) (hy2 : (∀ q : (Int32 × Int32 × Int32 × Mem), y2 = .inl q → ∀ (H : Heap) (locs : List Loc) (ls : Array Slot), MOK E (q.2.2.2) H → va_S (eA E) s.heap H locs → lv_has ls 10 [(0, .ref x0), (1, .int x1), (2, .int x2), (3, .int x3), (5, .int x5), (4, .int q.1), (6, .int q.2.1), (7, .int q.2.2.1)] → W p l e rm_L_pairs s m args below meth c H locs 0 0 (MQ below (cQ E (some (.int v)) M') args s 0 0 (eA E)) (F0 m 52 ls [])) ∧ ∀ z, y2 = .inr z → z = y1) (h : fj_L_pairs_190 x0 x1 x2 x3 x5 x6 x7 x8 x9 M = some y2) (hM : MOK E M H) (hS : va_S (eA E) s.heap H locs) (hl : lv_has ls 10 [(0, .ref x0), (1, .int x1), (2, .int x2), (3, .int x3), (5, .int x5), (6, .int x6), (7, .int x7), (8, .int x8), (9, .int x9)]) : W p l e rm_L_pairs s m args below meth c H locs 0 0 (MQ below (cQ E (some (.int v)) M') args s 0 0 (eA E)) (F0 m 190 ls []) := by
  obtain ⟨hx, hb, hml, hown, hts⟩ := id hC
  unfold fj_L_pairs_190 at h
  refine lv_aload_n hx hb dL_pairs_190 rfl (lv_at hl 0 rfl) ?_
  refine lv_iload hx hb dL_pairs_191 (lv_at hl 4 rfl) ?_
  refine lv_iload hx hb dL_pairs_193 (lv_at hl 6 rfl) ?_
  obtain ⟨v21, M22, h1, h⟩ := obq h
  obtain ⟨hk1, h1⟩ := ifg h1
  refine kV1 (ci := 4) (As := [.int x5, .int x7]) (rest := []) hC hE hS hM (mq_X4_areEqual _ E x0 x5 x7 _ _ _ h1) (gwV qw_1147 qw_1148 qw_1149 qw_39 qw_1150) ⟨rfl, rfl, (Nat.le_of_ble_eq_true rfl), (Nat.le_of_ble_eq_true rfl)⟩ dd_X4_areEqual rfl hk1 rfl rfl hl.1 (Nat.le_of_ble_eq_true rfl) dL_pairs_195 ⟨(Nat.le_of_ble_eq_true rfl), (Nat.le_of_ble_eq_true rfl)⟩ (fun H locs hM hS => ?_)
  refine lv_iload hx hb dL_pairs_198 (lv_at hl 8 rfl) ?_
  refine lv_if_eq (tgt := 218) hx hb dL_pairs_200 (by decide) (fun c1 => ?_) (fun c1 => ?_)
  · have h := ifp c1 h
    refine W.widen (k := 0) (n := 0) (Nat.le_of_ble_eq_true rfl) (Nat.le_of_ble_eq_true rfl) ?_
    exact tj_L_pairs_218  hC hr hlocks hE hy1 hy2  h hM hS (lv_sub hl [0, 1, 2, 3, 4, 5, 6, 7, 8] rfl)
  · have h := ifn c1 h
    refine lv_aload_n hx hb dL_pairs_203 rfl (lv_at hl 0 rfl) ?_
    refine lv_iload hx hb dL_pairs_204 (lv_at hl 6 rfl) ?_
    refine lv_iload hx hb dL_pairs_206 (lv_at hl 4 rfl) ?_
    obtain ⟨v33, M34, h1, h⟩ := obq h
    obtain ⟨hk1, h1⟩ := ifg h1
    refine kV1 (ci := 4) (As := [.int x7, .int x5]) (rest := [.int v21]) hC hE hS hM (mq_X4_covers _ E x0 x7 x5 _ _ _ h1) (gwV qw_1119 qw_1120 qw_1121 qw_39 qw_1122) ⟨rfl, rfl, (Nat.le_of_ble_eq_true rfl), (Nat.le_of_ble_eq_true rfl)⟩ dd_X4_covers rfl hk1 rfl rfl hl.1 (Nat.le_of_ble_eq_true rfl) dL_pairs_208 ⟨(Nat.le_of_ble_eq_true rfl), (Nat.le_of_ble_eq_true rfl)⟩ (fun H locs hM hS => ?_)
    refine lv_if_eq (tgt := 218) hx hb dL_pairs_211 (by decide) (fun c1 => ?_) (fun c1 => ?_)
    · have h := ifp c1 h
      refine W.widen (k := 0) (n := 0) (Nat.le_of_ble_eq_true rfl) (Nat.le_of_ble_eq_true rfl) ?_
      exact tj_L_pairs_218  hC hr hlocks hE hy1 hy2  h hM hS (lv_sub hl [0, 1, 2, 3, 4, 5, 6, 7, 8] rfl)
    · have h := ifn c1 h
      refine lv_iconst (v := 1) hx hb dL_pairs_214 (by decide) ?_
      refine lv_goto (tgt := 219) hx hb dL_pairs_215 (by decide) ?_
      refine W.widen (k := 0) (n := 0) (Nat.le_of_ble_eq_true rfl) (Nat.le_of_ble_eq_true rfl) ?_
      exact tj_L_pairs_219  hC hr hlocks hE hy1 hy2  h hM hS (lv_sub hl [0, 1, 2, 3, 4, 5, 6, 7, 8] rfl)
noncomputable def fj_L_pairs_132 (x0 : Nat) (x1 : Int32) (x2 : Int32) (x3 : Int32) (x5 : Int32) (x7 : Int32) (x8 : Int32) (x9 : Int32) (s0 : Int32) (M : Mem) : Option ((Int32 × Int32 × Int32 × Mem) ⊕ ((Int32 × Int32 × Int32 × Int32 × Mem) ⊕ (Int32 × Mem))) :=
  bq (cK 5 x0 M (f_X4_unseenDots x0 x7 x5 M)) fun v19 M20 =>
  (if v19 = x8 then
  (if x9 = 0 then
  fj_L_pairs_190 x0 x1 x2 x3 x5 s0 x7 x8 x9 M20
  else
  (if x8 = 0 then
  bq (cK 5 x0 M20 (f_X4_deltaSize x0 x7 x5 M20)) fun v35 M36 =>
  (if v35 = 0 then
  bq (cK 5 x0 M36 (f_X4_tagsGained x0 x5 x7 M36)) fun v37 M38 =>
  (if v37 = 0 then
  bq (cK 5 x0 M38 (f_X4_tagsLost x0 x5 x7 M38)) fun v39 M40 =>
  (if v39 = 0 then
  fj_L_pairs_190 x0 x1 x2 x3 x5 s0 x7 x8 x9 M40
  else
  fj_L_pairs_298 x0 x1 x2 x3 x5 s0 x7 M40)
  else
  fj_L_pairs_298 x0 x1 x2 x3 x5 s0 x7 M38)
  else
  fj_L_pairs_298 x0 x1 x2 x3 x5 s0 x7 M36)
  else
  fj_L_pairs_298 x0 x1 x2 x3 x5 s0 x7 M20))
  else
  fj_L_pairs_298 x0 x1 x2 x3 x5 s0 x7 M20)
set_option maxHeartbeats 4000000 in
set_option maxRecDepth 100000 in
theorem tj_L_pairs_132 {p : Program} {l : Launch} {e : Env} {s : State} {m : MethodId} {args : Array Value} {below : List Frame} {meth : Method} {c : Code} {E : KEnv} {H : Heap} {locs : List Loc} {ls : Array Slot} {x0 : Nat} {x1 : Int32} {x2 : Int32} {x3 : Int32} {x5 : Int32} {x7 : Int32} {x8 : Int32} {x9 : Int32} {s0 : Int32} {y1 : ((Int32 × Int32 × Int32 × Int32 × Mem) ⊕ (Int32 × Mem))} {y2 : ((Int32 × Int32 × Int32 × Mem) ⊕ ((Int32 × Int32 × Int32 × Int32 × Mem) ⊕ (Int32 × Mem)))} {M : Mem} {v : Int32} {M' : Mem} (hC : CallFix p m c cL_pairs 10 s args lw_G RL) (hr : meth.sig.returnType = (some .boolean)) (hlocks : meth.locks = false) (hE : EnvOK E s) (hy1 : (∀ q : (Int32 × Int32 × Int32 × Int32 × Mem), y1 = .inl q → ∀ (H : Heap) (locs : List Loc) (ls : Array Slot), MOK E (q.2.2.2.2) H → va_S (eA E) s.heap H locs → lv_has ls 10 [(0, .ref x0), (1, .int x1), (2, .int q.1), (3, .int q.2.1), (4, .int q.2.2.1), (5, .int q.2.2.2.1)] → W p l e rm_L_pairs s m args below meth c H locs 0 0 (MQ below (cQ E (some (.int v)) M') args s 0 0 (eA E)) (F0 m 26 ls [])) ∧ ∀ z, y1 = .inr z → z = (v, M')) (hy2 : (∀ q : (Int32 × Int32 × Int32 × Mem), y2 = .inl q → ∀ (H : Heap) (locs : List Loc) (ls : Array Slot), MOK E (q.2.2.2) H → va_S (eA E) s.heap H locs → lv_has ls 10 [(0, .ref x0), (1, .int x1), (2, .int x2), (3, .int x3), (5, .int x5), (4, .int q.1), (6, .int q.2.1), (7, .int q.2.2.1)] → W p l e rm_L_pairs s m args below meth c H locs 0 0 (MQ below (cQ E (some (.int v)) M') args s 0 0 (eA E)) (F0 m 52 ls [])) ∧ ∀ z, y2 = .inr z → z = y1) (h : fj_L_pairs_132 x0 x1 x2 x3 x5 x7 x8 x9 s0 M = some y2) (hM : MOK E M H) (hS : va_S (eA E) s.heap H locs) (hl : lv_has ls 10 [(0, .ref x0), (1, .int x1), (2, .int x2), (3, .int x3), (5, .int x5), (7, .int x7), (8, .int x8), (9, .int x9)]) : W p l e rm_L_pairs s m args below meth c H locs 0 0 (MQ below (cQ E (some (.int v)) M') args s 0 0 (eA E)) (F0 m 132 ls [.int s0]) := by
  obtain ⟨hx, hb, hml, hown, hts⟩ := id hC
  unfold fj_L_pairs_132 at h
  refine lv_istore (lv' := [(6, .int s0), (0, .ref x0), (1, .int x1), (2, .int x2), (3, .int x3), (5, .int x5), (7, .int x7), (8, .int x8), (9, .int x9)]) hx hb dL_pairs_132 hl (by decide) rfl (fun ls hl => ?_)
  refine lv_aload_n hx hb dL_pairs_134 rfl (lv_at hl 1 rfl) ?_
  refine lv_iload hx hb dL_pairs_135 (lv_at hl 6 rfl) ?_
  refine lv_iload hx hb dL_pairs_137 (lv_at hl 5 rfl) ?_
  obtain ⟨v19, M20, h1, h⟩ := obq h
  obtain ⟨hk1, h1⟩ := ifg h1
  refine kV1 (ci := 4) (As := [.int x7, .int x5]) (rest := []) hC hE hS hM (mq_X4_unseenDots _ E x0 x7 x5 _ _ _ h1) (gwV qw_1123 qw_1124 qw_1125 qw_39 qw_1126) ⟨rfl, rfl, (Nat.le_of_ble_eq_true rfl), (Nat.le_of_ble_eq_true rfl)⟩ dd_X4_unseenDots rfl hk1 rfl rfl hl.1 (Nat.le_of_ble_eq_true rfl) dL_pairs_139 ⟨(Nat.le_of_ble_eq_true rfl), (Nat.le_of_ble_eq_true rfl)⟩ (fun H locs hM hS => ?_)
  refine lv_iload hx hb dL_pairs_142 (lv_at hl 7 rfl) ?_
  refine lv_icmp_ne (tgt := 298) hx hb dL_pairs_144 (by decide) (fun c1 => ?_) (fun c1 => ?_)
  · have h := ifn c1 h
    refine W.widen (k := 0) (n := 0) (Nat.le_of_ble_eq_true rfl) (Nat.le_of_ble_eq_true rfl) ?_
    exact tj_L_pairs_298  hC hr hlocks hE hy1 hy2  h hM hS (lv_sub hl [1, 2, 3, 4, 5, 0, 6] rfl)
  · have h := ifp c1 h
    refine lv_iload hx hb dL_pairs_147 (lv_at hl 8 rfl) ?_
    refine lv_if_eq (tgt := 190) hx hb dL_pairs_149 (by decide) (fun c1 => ?_) (fun c1 => ?_)
    · have h := ifp c1 h
      refine W.widen (k := 0) (n := 0) (Nat.le_of_ble_eq_true rfl) (Nat.le_of_ble_eq_true rfl) ?_
      exact tj_L_pairs_190  hC hr hlocks hE hy1 hy2  h hM hS (lv_sub hl [1, 2, 3, 4, 5, 0, 6, 7, 8] rfl)
    · have h := ifn c1 h
      refine lv_iload hx hb dL_pairs_152 (lv_at hl 7 rfl) ?_
      refine lv_if_ne (tgt := 298) hx hb dL_pairs_154 (by decide) (fun c1 => ?_) (fun c1 => ?_)
      · have h := ifn c1 h
        refine W.widen (k := 0) (n := 0) (Nat.le_of_ble_eq_true rfl) (Nat.le_of_ble_eq_true rfl) ?_
        exact tj_L_pairs_298  hC hr hlocks hE hy1 hy2  h hM hS (lv_sub hl [1, 2, 3, 4, 5, 0, 6] rfl)
      · have h := ifp c1 h
        refine lv_aload_n hx hb dL_pairs_157 rfl (lv_at hl 1 rfl) ?_
        refine lv_iload hx hb dL_pairs_158 (lv_at hl 6 rfl) ?_
        refine lv_iload hx hb dL_pairs_160 (lv_at hl 5 rfl) ?_
        obtain ⟨v35, M36, h1, h⟩ := obq h
        obtain ⟨hk1, h1⟩ := ifg h1
        refine kV1 (ci := 4) (As := [.int x7, .int x5]) (rest := []) hC hE hS hM (mq_X4_deltaSize _ E x0 x7 x5 _ _ _ h1) (gwV qw_1127 qw_1128 qw_1129 qw_39 qw_1130) ⟨rfl, rfl, (Nat.le_of_ble_eq_true rfl), (Nat.le_of_ble_eq_true rfl)⟩ dd_X4_deltaSize rfl hk1 rfl rfl hl.1 (Nat.le_of_ble_eq_true rfl) dL_pairs_162 ⟨(Nat.le_of_ble_eq_true rfl), (Nat.le_of_ble_eq_true rfl)⟩ (fun H locs hM hS => ?_)
        refine lv_if_ne (tgt := 298) hx hb dL_pairs_165 (by decide) (fun c1 => ?_) (fun c1 => ?_)
        · have h := ifn c1 h
          refine W.widen (k := 0) (n := 0) (Nat.le_of_ble_eq_true rfl) (Nat.le_of_ble_eq_true rfl) ?_
          exact tj_L_pairs_298  hC hr hlocks hE hy1 hy2  h hM hS (lv_sub hl [1, 2, 3, 4, 5, 0, 6] rfl)
        · have h := ifp c1 h
          refine lv_aload_n hx hb dL_pairs_168 rfl (lv_at hl 1 rfl) ?_
          refine lv_iload hx hb dL_pairs_169 (lv_at hl 5 rfl) ?_
          refine lv_iload hx hb dL_pairs_171 (lv_at hl 6 rfl) ?_
          obtain ⟨v37, M38, h1, h⟩ := obq h
          obtain ⟨hk1, h1⟩ := ifg h1
          refine kV1 (ci := 4) (As := [.int x5, .int x7]) (rest := []) hC hE hS hM (mq_X4_tagsGained _ E x0 x5 x7 _ _ _ h1) (gwV qw_1135 qw_1136 qw_1137 qw_39 qw_1138) ⟨rfl, rfl, (Nat.le_of_ble_eq_true rfl), (Nat.le_of_ble_eq_true rfl)⟩ dd_X4_tagsGained rfl hk1 rfl rfl hl.1 (Nat.le_of_ble_eq_true rfl) dL_pairs_173 ⟨(Nat.le_of_ble_eq_true rfl), (Nat.le_of_ble_eq_true rfl)⟩ (fun H locs hM hS => ?_)
          refine lv_if_ne (tgt := 298) hx hb dL_pairs_176 (by decide) (fun c1 => ?_) (fun c1 => ?_)
          · have h := ifn c1 h
            refine W.widen (k := 0) (n := 0) (Nat.le_of_ble_eq_true rfl) (Nat.le_of_ble_eq_true rfl) ?_
            exact tj_L_pairs_298  hC hr hlocks hE hy1 hy2  h hM hS (lv_sub hl [1, 2, 3, 4, 5, 0, 6] rfl)
          · have h := ifp c1 h
            refine lv_aload_n hx hb dL_pairs_179 rfl (lv_at hl 1 rfl) ?_
            refine lv_iload hx hb dL_pairs_180 (lv_at hl 5 rfl) ?_
            refine lv_iload hx hb dL_pairs_182 (lv_at hl 6 rfl) ?_
            obtain ⟨v39, M40, h1, h⟩ := obq h
            obtain ⟨hk1, h1⟩ := ifg h1
            refine kV1 (ci := 4) (As := [.int x5, .int x7]) (rest := []) hC hE hS hM (mq_X4_tagsLost _ E x0 x5 x7 _ _ _ h1) (gwV qw_1143 qw_1144 qw_1145 qw_39 qw_1146) ⟨rfl, rfl, (Nat.le_of_ble_eq_true rfl), (Nat.le_of_ble_eq_true rfl)⟩ dd_X4_tagsLost rfl hk1 rfl rfl hl.1 (Nat.le_of_ble_eq_true rfl) dL_pairs_184 ⟨(Nat.le_of_ble_eq_true rfl), (Nat.le_of_ble_eq_true rfl)⟩ (fun H locs hM hS => ?_)
            refine lv_if_ne (tgt := 298) hx hb dL_pairs_187 (by decide) (fun c1 => ?_) (fun c1 => ?_)
            · have h := ifn c1 h
              refine W.widen (k := 0) (n := 0) (Nat.le_of_ble_eq_true rfl) (Nat.le_of_ble_eq_true rfl) ?_
              exact tj_L_pairs_298  hC hr hlocks hE hy1 hy2  h hM hS (lv_sub hl [1, 2, 3, 4, 5, 0, 6] rfl)
            · have h := ifp c1 h
              refine W.widen (k := 0) (n := 0) (Nat.le_of_ble_eq_true rfl) (Nat.le_of_ble_eq_true rfl) ?_
              exact tj_L_pairs_190  hC hr hlocks hE hy1 hy2  h hM hS (lv_sub hl [1, 2, 3, 4, 5, 0, 6, 7, 8] rfl)
noncomputable def fj_L_pairs_131 (x0 : Nat) (x1 : Int32) (x2 : Int32) (x3 : Int32) (x5 : Int32) (x7 : Int32) (x8 : Int32) (x9 : Int32) (M : Mem) : Option ((Int32 × Int32 × Int32 × Mem) ⊕ ((Int32 × Int32 × Int32 × Int32 × Mem) ⊕ (Int32 × Mem))) :=
  fj_L_pairs_132 x0 x1 x2 x3 x5 x7 x8 x9 0 M
set_option maxHeartbeats 4000000 in
set_option maxRecDepth 100000 in
theorem tj_L_pairs_131 {p : Program} {l : Launch} {e : Env} {s : State} {m : MethodId} {args : Array Value} {below : List Frame} {meth : Method} {c : Code} {E : KEnv} {H : Heap} {locs : List Loc} {ls : Array Slot} {x0 : Nat} {x1 : Int32} {x2 : Int32} {x3 : Int32} {x5 : Int32} {x7 : Int32} {x8 : Int32} {x9 : Int32} {y1 : ((Int32 × Int32 × Int32 × Int32 × Mem) ⊕ (Int32 × Mem))} {y2 : ((Int32 × Int32 × Int32 × Mem) ⊕ ((Int32 × Int32 × Int32 × Int32 × Mem) ⊕ (Int32 × Mem)))} {M : Mem} {v : Int32} {M' : Mem} (hC : CallFix p m c cL_pairs 10 s args lw_G RL) (hr : meth.sig.returnType = (some .boolean)) (hlocks : meth.locks = false) (hE : EnvOK E s) (hy1 : (∀ q : (Int32 × Int32 × Int32 × Int32 × Mem), y1 = .inl q → ∀ (H : Heap) (locs : List Loc) (ls : Array Slot), MOK E (q.2.2.2.2) H → va_S (eA E) s.heap H locs → lv_has ls 10 [(0, .ref x0), (1, .int x1), (2, .int q.1), (3, .int q.2.1), (4, .int q.2.2.1), (5, .int q.2.2.2.1)] → W p l e rm_L_pairs s m args below meth c H locs 0 0 (MQ below (cQ E (some (.int v)) M') args s 0 0 (eA E)) (F0 m 26 ls [])) ∧ ∀ z, y1 = .inr z → z = (v, M')) (hy2 : (∀ q : (Int32 × Int32 × Int32 × Mem), y2 = .inl q → ∀ (H : Heap) (locs : List Loc) (ls : Array Slot), MOK E (q.2.2.2) H → va_S (eA E) s.heap H locs → lv_has ls 10 [(0, .ref x0), (1, .int x1), (2, .int x2), (3, .int x3), (5, .int x5), (4, .int q.1), (6, .int q.2.1), (7, .int q.2.2.1)] → W p l e rm_L_pairs s m args below meth c H locs 0 0 (MQ below (cQ E (some (.int v)) M') args s 0 0 (eA E)) (F0 m 52 ls [])) ∧ ∀ z, y2 = .inr z → z = y1) (h : fj_L_pairs_131 x0 x1 x2 x3 x5 x7 x8 x9 M = some y2) (hM : MOK E M H) (hS : va_S (eA E) s.heap H locs) (hl : lv_has ls 10 [(0, .ref x0), (1, .int x1), (2, .int x2), (3, .int x3), (5, .int x5), (7, .int x7), (8, .int x8), (9, .int x9)]) : W p l e rm_L_pairs s m args below meth c H locs 0 0 (MQ below (cQ E (some (.int v)) M') args s 0 0 (eA E)) (F0 m 131 ls []) := by
  obtain ⟨hx, hb, hml, hown, hts⟩ := id hC
  unfold fj_L_pairs_131 at h
  refine lv_iconst (v := 0) hx hb dL_pairs_131 (by decide) ?_
  refine W.widen (k := 0) (n := 0) (Nat.le_of_ble_eq_true rfl) (Nat.le_of_ble_eq_true rfl) ?_
  exact tj_L_pairs_132  hC hr hlocks hE hy1 hy2  h hM hS (lv_sub hl [0, 1, 2, 3, 4, 5, 6, 7] rfl)
noncomputable def fj_L_pairs_107 (x0 : Nat) (x1 : Int32) (x2 : Int32) (x3 : Int32) (x5 : Int32) (x6 : Int32) (x7 : Int32) (x8 : Int32) (M : Mem) : Option ((Int32 × Int32 × Int32 × Mem) ⊕ ((Int32 × Int32 × Int32 × Int32 × Mem) ⊕ (Int32 × Mem))) :=
  bq (cK 5 x0 M (f_X4_covers x0 x5 x7 M)) fun v17 M18 =>
  (if x6 = 0 then
  fj_L_pairs_131 x0 x1 x2 x3 x5 x7 x8 v17 M18
  else
  (if v17 = 0 then
  fj_L_pairs_131 x0 x1 x2 x3 x5 x7 x8 v17 M18
  else
  fj_L_pairs_132 x0 x1 x2 x3 x5 x7 x8 v17 1 M18))
set_option maxHeartbeats 4000000 in
set_option maxRecDepth 100000 in
theorem tj_L_pairs_107 {p : Program} {l : Launch} {e : Env} {s : State} {m : MethodId} {args : Array Value} {below : List Frame} {meth : Method} {c : Code} {E : KEnv} {H : Heap} {locs : List Loc} {ls : Array Slot} {x0 : Nat} {x1 : Int32} {x2 : Int32} {x3 : Int32} {x5 : Int32} {x6 : Int32} {x7 : Int32} {x8 : Int32} {y1 : ((Int32 × Int32 × Int32 × Int32 × Mem) ⊕ (Int32 × Mem))} {y2 : ((Int32 × Int32 × Int32 × Mem) ⊕ ((Int32 × Int32 × Int32 × Int32 × Mem) ⊕ (Int32 × Mem)))} {M : Mem} {v : Int32} {M' : Mem} (hC : CallFix p m c cL_pairs 10 s args lw_G RL) (hr : meth.sig.returnType = (some .boolean)) (hlocks : meth.locks = false) (hE : EnvOK E s) (hy1 : (∀ q : (Int32 × Int32 × Int32 × Int32 × Mem), y1 = .inl q → ∀ (H : Heap) (locs : List Loc) (ls : Array Slot), MOK E (q.2.2.2.2) H → va_S (eA E) s.heap H locs → lv_has ls 10 [(0, .ref x0), (1, .int x1), (2, .int q.1), (3, .int q.2.1), (4, .int q.2.2.1), (5, .int q.2.2.2.1)] → W p l e rm_L_pairs s m args below meth c H locs 0 0 (MQ below (cQ E (some (.int v)) M') args s 0 0 (eA E)) (F0 m 26 ls [])) ∧ ∀ z, y1 = .inr z → z = (v, M')) (hy2 : (∀ q : (Int32 × Int32 × Int32 × Mem), y2 = .inl q → ∀ (H : Heap) (locs : List Loc) (ls : Array Slot), MOK E (q.2.2.2) H → va_S (eA E) s.heap H locs → lv_has ls 10 [(0, .ref x0), (1, .int x1), (2, .int x2), (3, .int x3), (5, .int x5), (4, .int q.1), (6, .int q.2.1), (7, .int q.2.2.1)] → W p l e rm_L_pairs s m args below meth c H locs 0 0 (MQ below (cQ E (some (.int v)) M') args s 0 0 (eA E)) (F0 m 52 ls [])) ∧ ∀ z, y2 = .inr z → z = y1) (h : fj_L_pairs_107 x0 x1 x2 x3 x5 x6 x7 x8 M = some y2) (hM : MOK E M H) (hS : va_S (eA E) s.heap H locs) (hl : lv_has ls 10 [(0, .ref x0), (1, .int x1), (2, .int x2), (3, .int x3), (5, .int x5), (6, .int x6), (7, .int x7), (8, .int x8)]) : W p l e rm_L_pairs s m args below meth c H locs 0 0 (MQ below (cQ E (some (.int v)) M') args s 0 0 (eA E)) (F0 m 107 ls []) := by
  obtain ⟨hx, hb, hml, hown, hts⟩ := id hC
  unfold fj_L_pairs_107 at h
  refine lv_aload_n hx hb dL_pairs_107 rfl (lv_at hl 0 rfl) ?_
  refine lv_iload hx hb dL_pairs_108 (lv_at hl 4 rfl) ?_
  refine lv_iload hx hb dL_pairs_110 (lv_at hl 6 rfl) ?_
  obtain ⟨v17, M18, h1, h⟩ := obq h
  obtain ⟨hk1, h1⟩ := ifg h1
  refine kV1 (ci := 4) (As := [.int x5, .int x7]) (rest := []) hC hE hS hM (mq_X4_covers _ E x0 x5 x7 _ _ _ h1) (gwV qw_1119 qw_1120 qw_1121 qw_39 qw_1122) ⟨rfl, rfl, (Nat.le_of_ble_eq_true rfl), (Nat.le_of_ble_eq_true rfl)⟩ dd_X4_covers rfl hk1 rfl rfl hl.1 (Nat.le_of_ble_eq_true rfl) dL_pairs_112 ⟨(Nat.le_of_ble_eq_true rfl), (Nat.le_of_ble_eq_true rfl)⟩ (fun H locs hM hS => ?_)
  refine lv_istore (lv' := [(9, .int v17), (0, .ref x0), (1, .int x1), (2, .int x2), (3, .int x3), (5, .int x5), (6, .int x6), (7, .int x7), (8, .int x8)]) hx hb dL_pairs_115 hl (by decide) rfl (fun ls hl => ?_)
  refine lv_iload hx hb dL_pairs_117 (lv_at hl 6 rfl) ?_
  refine lv_if_eq (tgt := 131) hx hb dL_pairs_119 (by decide) (fun c1 => ?_) (fun c1 => ?_)
  · have h := ifp c1 h
    refine W.widen (k := 0) (n := 0) (Nat.le_of_ble_eq_true rfl) (Nat.le_of_ble_eq_true rfl) ?_
    exact tj_L_pairs_131  hC hr hlocks hE hy1 hy2  h hM hS (lv_sub hl [1, 2, 3, 4, 5, 7, 8, 0] rfl)
  · have h := ifn c1 h
    refine lv_iload hx hb dL_pairs_122 (lv_at hl 0 rfl) ?_
    refine lv_if_eq (tgt := 131) hx hb dL_pairs_124 (by decide) (fun c1 => ?_) (fun c1 => ?_)
    · have h := ifp c1 h
      refine W.widen (k := 0) (n := 0) (Nat.le_of_ble_eq_true rfl) (Nat.le_of_ble_eq_true rfl) ?_
      exact tj_L_pairs_131  hC hr hlocks hE hy1 hy2  h hM hS (lv_sub hl [1, 2, 3, 4, 5, 7, 8, 0] rfl)
    · have h := ifn c1 h
      refine lv_iconst (v := 1) hx hb dL_pairs_127 (by decide) ?_
      refine lv_goto (tgt := 132) hx hb dL_pairs_128 (by decide) ?_
      refine W.widen (k := 0) (n := 0) (Nat.le_of_ble_eq_true rfl) (Nat.le_of_ble_eq_true rfl) ?_
      exact tj_L_pairs_132  hC hr hlocks hE hy1 hy2  h hM hS (lv_sub hl [1, 2, 3, 4, 5, 7, 8, 0] rfl)
noncomputable def fc_L_pairs_69 (x0 : Nat) (x1 : Int32) (x2 : Int32) (x3 : Int32) (x5 : Int32) (x6 : Int32) (x7 : Int32) (x8 : Int32) (x9 : Int32) (M : Mem) : Option ((Int32 × Int32 × Mem) ⊕ ((Int32 × Int32 × Int32 × Mem) ⊕ ((Int32 × Int32 × Int32 × Int32 × Mem) ⊕ (Int32 × Mem)))) :=
  (if x1 ≤ x9 then
  (fj_L_pairs_107 x0 x1 x2 x3 x5 x6 x7 x8 M).map Sum.inr
  else
  bq (cK 5 x0 M (f_X4_versionEntry x0 x7 x9 M)) fun v41 M42 =>
  bq (cK 5 x0 M42 (f_X4_versionEntry x0 x5 x9 M42)) fun v43 M44 =>
  some (.inl (x8 + (if 0 < (v41 - v43) then (v41 - v43) else 0), x9 + 1, M44)))
noncomputable def fj_L_pairs_69 (x0 : Nat) (x1 : Int32) (x2 : Int32) (x3 : Int32) (x5 : Int32) (x6 : Int32) (x7 : Int32) (x8 : Int32) (x9 : Int32) (M : Mem) : Option ((Int32 × Int32 × Int32 × Mem) ⊕ ((Int32 × Int32 × Int32 × Int32 × Mem) ⊕ (Int32 × Mem))) := loopM (fun q : (Int32 × Int32 × Mem) => fc_L_pairs_69 x0 x1 x2 x3 x5 x6 x7 q.1 q.2.1 q.2.2) FU (x8, x9, M)
set_option maxHeartbeats 4000000 in
set_option maxRecDepth 100000 in
theorem tj_L_pairs_69 {p : Program} {l : Launch} {e : Env} {s : State} {m : MethodId} {args : Array Value} {below : List Frame} {meth : Method} {c : Code} {E : KEnv} {H : Heap} {locs : List Loc} {ls : Array Slot} {x0 : Nat} {x1 : Int32} {x2 : Int32} {x3 : Int32} {x5 : Int32} {x6 : Int32} {x7 : Int32} {x8 : Int32} {x9 : Int32} {y1 : ((Int32 × Int32 × Int32 × Int32 × Mem) ⊕ (Int32 × Mem))} {y2 : ((Int32 × Int32 × Int32 × Mem) ⊕ ((Int32 × Int32 × Int32 × Int32 × Mem) ⊕ (Int32 × Mem)))} {M : Mem} {v : Int32} {M' : Mem} (hC : CallFix p m c cL_pairs 10 s args lw_G RL) (hr : meth.sig.returnType = (some .boolean)) (hlocks : meth.locks = false) (hE : EnvOK E s) (hy1 : (∀ q : (Int32 × Int32 × Int32 × Int32 × Mem), y1 = .inl q → ∀ (H : Heap) (locs : List Loc) (ls : Array Slot), MOK E (q.2.2.2.2) H → va_S (eA E) s.heap H locs → lv_has ls 10 [(0, .ref x0), (1, .int x1), (2, .int q.1), (3, .int q.2.1), (4, .int q.2.2.1), (5, .int q.2.2.2.1)] → W p l e rm_L_pairs s m args below meth c H locs 0 0 (MQ below (cQ E (some (.int v)) M') args s 0 0 (eA E)) (F0 m 26 ls [])) ∧ ∀ z, y1 = .inr z → z = (v, M')) (hy2 : (∀ q : (Int32 × Int32 × Int32 × Mem), y2 = .inl q → ∀ (H : Heap) (locs : List Loc) (ls : Array Slot), MOK E (q.2.2.2) H → va_S (eA E) s.heap H locs → lv_has ls 10 [(0, .ref x0), (1, .int x1), (2, .int x2), (3, .int x3), (5, .int x5), (4, .int q.1), (6, .int q.2.1), (7, .int q.2.2.1)] → W p l e rm_L_pairs s m args below meth c H locs 0 0 (MQ below (cQ E (some (.int v)) M') args s 0 0 (eA E)) (F0 m 52 ls [])) ∧ ∀ z, y2 = .inr z → z = y1) (h : fj_L_pairs_69 x0 x1 x2 x3 x5 x6 x7 x8 x9 M = some y2) (hM : MOK E M H) (hS : va_S (eA E) s.heap H locs) (hl : lv_has ls 10 [(0, .ref x0), (1, .int x1), (2, .int x2), (3, .int x3), (5, .int x5), (6, .int x6), (7, .int x7), (8, .int x8), (9, .int x9)]) : W p l e rm_L_pairs s m args below meth c H locs 0 0 (MQ below (cQ E (some (.int v)) M') args s 0 0 (eA E)) (F0 m 69 ls []) := by
  refine loopM_ind (body := fun q : (Int32 × Int32 × Mem) => fc_L_pairs_69 x0 x1 x2 x3 x5 x6 x7 q.1 q.2.1 q.2.2) (x0 := y2) (Wd := fun q : (Int32 × Int32 × Mem) => ∀ (H : Heap) (locs : List Loc) (ls : Array Slot), MOK E (q.2.2) H → va_S (eA E) s.heap H locs → lv_has ls 10 [(0, .ref x0), (1, .int x1), (2, .int x2), (3, .int x3), (5, .int x5), (6, .int x6), (7, .int x7), (8, .int q.1), (9, .int q.2.1)] → W p l e rm_L_pairs s m args below meth c H locs 0 0 (MQ below (cQ E (some (.int v)) M') args s 0 0 (eA E)) (F0 m 69 ls [])) ?_ FU (x8, x9, M) h H locs ls hM hS hl
  clear h hM hS hl H locs ls M x8 x9
  obtain ⟨hx, hb, hml, hown, hts⟩ := id hC
  intro q y3 h hy3 H locs ls hM hS hl
  obtain ⟨x8, x9, M⟩ := q
  have h : fc_L_pairs_69 x0 x1 x2 x3 x5 x6 x7 x8 x9 M = some y3 := h
  have hM : MOK E M H := hM
  have hl : lv_has ls 10 [(0, .ref x0), (1, .int x1), (2, .int x2), (3, .int x3), (5, .int x5), (6, .int x6), (7, .int x7), (8, .int x8), (9, .int x9)] := hl
  unfold fc_L_pairs_69 at h
  show W p l e rm_L_pairs s m args below meth c H locs _ _ _ _
  refine lv_iload hx hb dL_pairs_69 (lv_at hl 8 rfl) ?_
  refine lv_iload_n hx hb dL_pairs_71 rfl (lv_at hl 1 rfl) ?_
  refine lv_icmp_ge (tgt := 107) hx hb dL_pairs_72 (by decide) (fun c1 => ?_) (fun c1 => ?_)
  · have h := ifp c1 h
    obtain ⟨z0, h9, rfl⟩ := om h
    have e0 := hy3.2 _ rfl
    subst e0
    have h := h9
    refine W.widen (k := 0) (n := 0) (Nat.le_of_ble_eq_true rfl) (Nat.le_of_ble_eq_true rfl) ?_
    exact tj_L_pairs_107  hC hr hlocks hE hy1 hy2  h hM hS (lv_sub hl [0, 1, 2, 3, 4, 5, 6, 7] rfl)
  · have h := ifn c1 h
    refine lv_iload hx hb dL_pairs_75 (lv_at hl 7 rfl) ?_
    refine lv_iconst (v := 0) hx hb dL_pairs_77 (by decide) ?_
    refine lv_aload_n hx hb dL_pairs_78 rfl (lv_at hl 0 rfl) ?_
    refine lv_iload hx hb dL_pairs_79 (lv_at hl 6 rfl) ?_
    refine lv_iload hx hb dL_pairs_81 (lv_at hl 8 rfl) ?_
    obtain ⟨v41, M42, h1, h⟩ := obq h
    obtain ⟨hk1, h1⟩ := ifg h1
    refine kV1 (ci := 4) (As := [.int x7, .int x9]) (rest := [.int 0, .int x8]) hC hE hS hM (mq_X4_versionEntry _ E x0 x7 x9 _ _ _ h1) (gwV qw_994 qw_995 qw_996 qw_39 qw_997) ⟨rfl, rfl, (Nat.le_of_ble_eq_true rfl), (Nat.le_of_ble_eq_true rfl)⟩ dd_X4_versionEntry rfl hk1 rfl rfl hl.1 (Nat.le_of_ble_eq_true rfl) dL_pairs_83 ⟨(Nat.le_of_ble_eq_true rfl), (Nat.le_of_ble_eq_true rfl)⟩ (fun H locs hM hS => ?_)
    refine lv_aload_n hx hb dL_pairs_86 rfl (lv_at hl 0 rfl) ?_
    refine lv_iload hx hb dL_pairs_87 (lv_at hl 4 rfl) ?_
    refine lv_iload hx hb dL_pairs_89 (lv_at hl 8 rfl) ?_
    obtain ⟨v43, M44, h1, h⟩ := obq h
    obtain ⟨hk1, h1⟩ := ifg h1
    refine kV1 (ci := 4) (As := [.int x5, .int x9]) (rest := [.int v41, .int 0, .int x8]) hC hE hS hM (mq_X4_versionEntry _ E x0 x5 x9 _ _ _ h1) (gwV qw_994 qw_995 qw_996 qw_39 qw_997) ⟨rfl, rfl, (Nat.le_of_ble_eq_true rfl), (Nat.le_of_ble_eq_true rfl)⟩ dd_X4_versionEntry rfl hk1 rfl rfl hl.1 (Nat.le_of_ble_eq_true rfl) dL_pairs_91 ⟨(Nat.le_of_ble_eq_true rfl), (Nat.le_of_ble_eq_true rfl)⟩ (fun H locs hM hS => ?_)
    refine lv_isub hx hb dL_pairs_94 ?_
    refine va_mmax hx hb (hml.trans hl.1.symm) hown (hts _ qw_1080) (hts _ qw_375) (hts _ qw_48) (hts _ qw_376) (Nat.le_of_ble_eq_true rfl) (Nat.le_of_ble_eq_true rfl) (Nat.le_of_ble_eq_true rfl) (Nat.le_of_ble_eq_true rfl) dL_pairs_95 ?_
    refine lv_iadd hx hb dL_pairs_98 ?_
    refine lv_istore (lv' := [(8, .int (x8 + (if 0 < (v41 - v43) then (v41 - v43) else 0))), (0, .ref x0), (1, .int x1), (2, .int x2), (3, .int x3), (5, .int x5), (6, .int x6), (7, .int x7), (9, .int x9)]) hx hb dL_pairs_99 hl (by decide) rfl (fun ls hl => ?_)
    refine lv_iinc (v := x9 + 1) (lv' := [(9, .int (x9 + 1)), (8, .int (x8 + (if 0 < (v41 - v43) then (v41 - v43) else 0))), (0, .ref x0), (1, .int x1), (2, .int x2), (3, .int x3), (5, .int x5), (6, .int x6), (7, .int x7)]) hx hb dL_pairs_101 hl (k := 8) rfl rfl (by decide) rfl (fun ls hl => ?_)
    refine lv_goto (tgt := 69) hx hb dL_pairs_104 (by decide) ?_
    cases h
    exact hy3.1 _ rfl _ _ _ hM hS (lv_sub hl [2, 3, 4, 5, 6, 7, 8, 1, 0] rfl)
noncomputable def fc_L_pairs_52 (x0 : Nat) (x1 : Int32) (x2 : Int32) (x3 : Int32) (x5 : Int32) (x4 : Int32) (x6 : Int32) (x7 : Int32) (M : Mem) : Option ((Int32 × Int32 × Int32 × Mem) ⊕ ((Int32 × Int32 × Int32 × Int32 × Mem) ⊕ (Int32 × Mem))) :=
  (if x1 ≤ x7 then
  (fj_L_pairs_307 x0 x1 x2 x3 x4 x5 x6 M).map Sum.inr
  else
  (if x4 = 0 then
  (fj_L_pairs_307 x0 x1 x2 x3 x4 x5 x6 M).map Sum.inr
  else
  fj_L_pairs_69 x0 x1 x2 x3 x5 x6 x7 0 0 M))
noncomputable def fj_L_pairs_52 (x0 : Nat) (x1 : Int32) (x2 : Int32) (x3 : Int32) (x5 : Int32) (x4 : Int32) (x6 : Int32) (x7 : Int32) (M : Mem) : Option ((Int32 × Int32 × Int32 × Int32 × Mem) ⊕ (Int32 × Mem)) := loopM (fun q : (Int32 × Int32 × Int32 × Mem) => fc_L_pairs_52 x0 x1 x2 x3 x5 q.1 q.2.1 q.2.2.1 q.2.2.2) FU (x4, x6, x7, M)
set_option maxHeartbeats 4000000 in
set_option maxRecDepth 100000 in
theorem tj_L_pairs_52 {p : Program} {l : Launch} {e : Env} {s : State} {m : MethodId} {args : Array Value} {below : List Frame} {meth : Method} {c : Code} {E : KEnv} {H : Heap} {locs : List Loc} {ls : Array Slot} {x0 : Nat} {x1 : Int32} {x2 : Int32} {x3 : Int32} {x5 : Int32} {x4 : Int32} {x6 : Int32} {x7 : Int32} {y1 : ((Int32 × Int32 × Int32 × Int32 × Mem) ⊕ (Int32 × Mem))} {M : Mem} {v : Int32} {M' : Mem} (hC : CallFix p m c cL_pairs 10 s args lw_G RL) (hr : meth.sig.returnType = (some .boolean)) (hlocks : meth.locks = false) (hE : EnvOK E s) (hy1 : (∀ q : (Int32 × Int32 × Int32 × Int32 × Mem), y1 = .inl q → ∀ (H : Heap) (locs : List Loc) (ls : Array Slot), MOK E (q.2.2.2.2) H → va_S (eA E) s.heap H locs → lv_has ls 10 [(0, .ref x0), (1, .int x1), (2, .int q.1), (3, .int q.2.1), (4, .int q.2.2.1), (5, .int q.2.2.2.1)] → W p l e rm_L_pairs s m args below meth c H locs 0 0 (MQ below (cQ E (some (.int v)) M') args s 0 0 (eA E)) (F0 m 26 ls [])) ∧ ∀ z, y1 = .inr z → z = (v, M')) (h : fj_L_pairs_52 x0 x1 x2 x3 x5 x4 x6 x7 M = some y1) (hM : MOK E M H) (hS : va_S (eA E) s.heap H locs) (hl : lv_has ls 10 [(0, .ref x0), (1, .int x1), (2, .int x2), (3, .int x3), (5, .int x5), (4, .int x4), (6, .int x6), (7, .int x7)]) : W p l e rm_L_pairs s m args below meth c H locs 0 0 (MQ below (cQ E (some (.int v)) M') args s 0 0 (eA E)) (F0 m 52 ls []) := by
  refine loopM_ind (body := fun q : (Int32 × Int32 × Int32 × Mem) => fc_L_pairs_52 x0 x1 x2 x3 x5 q.1 q.2.1 q.2.2.1 q.2.2.2) (x0 := y1) (Wd := fun q : (Int32 × Int32 × Int32 × Mem) => ∀ (H : Heap) (locs : List Loc) (ls : Array Slot), MOK E (q.2.2.2) H → va_S (eA E) s.heap H locs → lv_has ls 10 [(0, .ref x0), (1, .int x1), (2, .int x2), (3, .int x3), (5, .int x5), (4, .int q.1), (6, .int q.2.1), (7, .int q.2.2.1)] → W p l e rm_L_pairs s m args below meth c H locs 0 0 (MQ below (cQ E (some (.int v)) M') args s 0 0 (eA E)) (F0 m 52 ls [])) ?_ FU (x4, x6, x7, M) h H locs ls hM hS hl
  clear h hM hS hl H locs ls M x4 x6 x7
  obtain ⟨hx, hb, hml, hown, hts⟩ := id hC
  intro q y2 h hy2 H locs ls hM hS hl
  obtain ⟨x4, x6, x7, M⟩ := q
  have h : fc_L_pairs_52 x0 x1 x2 x3 x5 x4 x6 x7 M = some y2 := h
  have hM : MOK E M H := hM
  have hl : lv_has ls 10 [(0, .ref x0), (1, .int x1), (2, .int x2), (3, .int x3), (5, .int x5), (4, .int x4), (6, .int x6), (7, .int x7)] := hl
  unfold fc_L_pairs_52 at h
  show W p l e rm_L_pairs s m args below meth c H locs _ _ _ _
  refine lv_iload hx hb dL_pairs_52 (lv_at hl 7 rfl) ?_
  refine lv_iload_n hx hb dL_pairs_54 rfl (lv_at hl 1 rfl) ?_
  refine lv_icmp_ge (tgt := 307) hx hb dL_pairs_55 (by decide) (fun c1 => ?_) (fun c1 => ?_)
  · have h := ifp c1 h
    obtain ⟨z0, h9, rfl⟩ := om h
    have e0 := hy2.2 _ rfl
    subst e0
    have h := h9
    refine W.widen (k := 0) (n := 0) (Nat.le_of_ble_eq_true rfl) (Nat.le_of_ble_eq_true rfl) ?_
    exact tj_L_pairs_307  hC hr hlocks hE hy1  h hM hS (lv_sub hl [0, 1, 2, 3, 5, 4, 6] rfl)
  · have h := ifn c1 h
    refine lv_iload hx hb dL_pairs_58 (lv_at hl 5 rfl) ?_
    refine lv_if_eq (tgt := 307) hx hb dL_pairs_60 (by decide) (fun c1 => ?_) (fun c1 => ?_)
    · have h := ifp c1 h
      obtain ⟨z0, h9, rfl⟩ := om h
      have e0 := hy2.2 _ rfl
      subst e0
      have h := h9
      refine W.widen (k := 0) (n := 0) (Nat.le_of_ble_eq_true rfl) (Nat.le_of_ble_eq_true rfl) ?_
      exact tj_L_pairs_307  hC hr hlocks hE hy1  h hM hS (lv_sub hl [0, 1, 2, 3, 5, 4, 6] rfl)
    · have h := ifn c1 h
      refine lv_iconst (v := 0) hx hb dL_pairs_63 (by decide) ?_
      refine lv_istore (lv' := [(8, .int 0), (0, .ref x0), (1, .int x1), (2, .int x2), (3, .int x3), (5, .int x5), (4, .int x4), (6, .int x6), (7, .int x7)]) hx hb dL_pairs_64 hl (by decide) rfl (fun ls hl => ?_)
      refine lv_iconst (v := 0) hx hb dL_pairs_66 (by decide) ?_
      refine lv_istore (lv' := [(9, .int 0), (8, .int 0), (0, .ref x0), (1, .int x1), (2, .int x2), (3, .int x3), (5, .int x5), (4, .int x4), (6, .int x6), (7, .int x7)]) hx hb dL_pairs_67 hl (by decide) rfl (fun ls hl => ?_)
      refine W.widen (k := 0) (n := 0) (Nat.le_of_ble_eq_true rfl) (Nat.le_of_ble_eq_true rfl) ?_
      exact tj_L_pairs_69  hC hr hlocks hE hy1 hy2  h hM hS (lv_sub hl [2, 3, 4, 5, 6, 8, 9, 1, 0] rfl)
noncomputable def fc_L_pairs_26 (x0 : Nat) (x1 : Int32) (x2 : Int32) (x3 : Int32) (x4 : Int32) (x5 : Int32) (M : Mem) : Option ((Int32 × Int32 × Int32 × Int32 × Mem) ⊕ (Int32 × Mem)) :=
  (if x1 ≤ x5 then
  (fj_L_pairs_326 x0 x1 x2 x3 x4 M).map Sum.inr
  else
  (if x4 = 0 then
  (fj_L_pairs_326 x0 x1 x2 x3 x4 M).map Sum.inr
  else
  bq (cK 5 x0 M (f_X4_tagCount x0 x5 M)) fun v15 M16 =>
  fj_L_pairs_52 x0 x1 x2 (x3 + v15) x5 x4 1 0 M16))
noncomputable def fj_L_pairs_26 (x0 : Nat) (x1 : Int32) (x2 : Int32) (x3 : Int32) (x4 : Int32) (x5 : Int32) (M : Mem) : Option (Int32 × Mem) := loopM (fun q : (Int32 × Int32 × Int32 × Int32 × Mem) => fc_L_pairs_26 x0 x1 q.1 q.2.1 q.2.2.1 q.2.2.2.1 q.2.2.2.2) FU (x2, x3, x4, x5, M)
set_option maxHeartbeats 4000000 in
set_option maxRecDepth 100000 in
theorem tj_L_pairs_26 {p : Program} {l : Launch} {e : Env} {s : State} {m : MethodId} {args : Array Value} {below : List Frame} {meth : Method} {c : Code} {E : KEnv} {H : Heap} {locs : List Loc} {ls : Array Slot} {x0 : Nat} {x1 : Int32} {x2 : Int32} {x3 : Int32} {x4 : Int32} {x5 : Int32} {M : Mem} {v : Int32} {M' : Mem} (hC : CallFix p m c cL_pairs 10 s args lw_G RL) (hr : meth.sig.returnType = (some .boolean)) (hlocks : meth.locks = false) (hE : EnvOK E s) (h : fj_L_pairs_26 x0 x1 x2 x3 x4 x5 M = some (v, M')) (hM : MOK E M H) (hS : va_S (eA E) s.heap H locs) (hl : lv_has ls 10 [(0, .ref x0), (1, .int x1), (2, .int x2), (3, .int x3), (4, .int x4), (5, .int x5)]) : W p l e rm_L_pairs s m args below meth c H locs 0 0 (MQ below (cQ E (some (.int v)) M') args s 0 0 (eA E)) (F0 m 26 ls []) := by
  refine loopM_ind (body := fun q : (Int32 × Int32 × Int32 × Int32 × Mem) => fc_L_pairs_26 x0 x1 q.1 q.2.1 q.2.2.1 q.2.2.2.1 q.2.2.2.2) (x0 := (v, M')) (Wd := fun q : (Int32 × Int32 × Int32 × Int32 × Mem) => ∀ (H : Heap) (locs : List Loc) (ls : Array Slot), MOK E (q.2.2.2.2) H → va_S (eA E) s.heap H locs → lv_has ls 10 [(0, .ref x0), (1, .int x1), (2, .int q.1), (3, .int q.2.1), (4, .int q.2.2.1), (5, .int q.2.2.2.1)] → W p l e rm_L_pairs s m args below meth c H locs 0 0 (MQ below (cQ E (some (.int v)) M') args s 0 0 (eA E)) (F0 m 26 ls [])) ?_ FU (x2, x3, x4, x5, M) h H locs ls hM hS hl
  clear h hM hS hl H locs ls M x2 x3 x4 x5
  obtain ⟨hx, hb, hml, hown, hts⟩ := id hC
  intro q y1 h hy1 H locs ls hM hS hl
  obtain ⟨x2, x3, x4, x5, M⟩ := q
  have h : fc_L_pairs_26 x0 x1 x2 x3 x4 x5 M = some y1 := h
  have hM : MOK E M H := hM
  have hl : lv_has ls 10 [(0, .ref x0), (1, .int x1), (2, .int x2), (3, .int x3), (4, .int x4), (5, .int x5)] := hl
  unfold fc_L_pairs_26 at h
  show W p l e rm_L_pairs s m args below meth c H locs _ _ _ _
  refine lv_iload hx hb dL_pairs_26 (lv_at hl 5 rfl) ?_
  refine lv_iload_n hx hb dL_pairs_28 rfl (lv_at hl 1 rfl) ?_
  refine lv_icmp_ge (tgt := 326) hx hb dL_pairs_29 (by decide) (fun c1 => ?_) (fun c1 => ?_)
  · have h := ifp c1 h
    obtain ⟨z0, h9, rfl⟩ := om h
    have e0 := hy1.2 _ rfl
    subst e0
    have h := h9
    refine W.widen (k := 0) (n := 0) (Nat.le_of_ble_eq_true rfl) (Nat.le_of_ble_eq_true rfl) ?_
    exact tj_L_pairs_326  hC hr hlocks hE  h hM hS (lv_sub hl [0, 1, 2, 3, 4] rfl)
  · have h := ifn c1 h
    refine lv_iload hx hb dL_pairs_32 (lv_at hl 4 rfl) ?_
    refine lv_if_eq (tgt := 326) hx hb dL_pairs_34 (by decide) (fun c1 => ?_) (fun c1 => ?_)
    · have h := ifp c1 h
      obtain ⟨z0, h9, rfl⟩ := om h
      have e0 := hy1.2 _ rfl
      subst e0
      have h := h9
      refine W.widen (k := 0) (n := 0) (Nat.le_of_ble_eq_true rfl) (Nat.le_of_ble_eq_true rfl) ?_
      exact tj_L_pairs_326  hC hr hlocks hE  h hM hS (lv_sub hl [0, 1, 2, 3, 4] rfl)
    · have h := ifn c1 h
      refine lv_iconst (v := 1) hx hb dL_pairs_37 (by decide) ?_
      refine lv_istore (lv' := [(6, .int 1), (0, .ref x0), (1, .int x1), (2, .int x2), (3, .int x3), (4, .int x4), (5, .int x5)]) hx hb dL_pairs_38 hl (by decide) rfl (fun ls hl => ?_)
      refine lv_iload_n hx hb dL_pairs_40 rfl (lv_at hl 4 rfl) ?_
      refine lv_aload_n hx hb dL_pairs_41 rfl (lv_at hl 1 rfl) ?_
      refine lv_iload hx hb dL_pairs_42 (lv_at hl 6 rfl) ?_
      obtain ⟨v15, M16, h1, h⟩ := obq h
      obtain ⟨hk1, h1⟩ := ifg h1
      refine kV1 (ci := 4) (As := [.int x5]) (rest := [.int x3]) hC hE hS hM (mq_X4_tagCount _ E x0 x5 _ _ _ h1) (gwV qw_1090 qw_1091 qw_1092 qw_39 qw_1093) ⟨rfl, rfl, (Nat.le_of_ble_eq_true rfl), (Nat.le_of_ble_eq_true rfl)⟩ dd_X4_tagCount rfl hk1 rfl rfl hl.1 (Nat.le_of_ble_eq_true rfl) dL_pairs_44 ⟨(Nat.le_of_ble_eq_true rfl), (Nat.le_of_ble_eq_true rfl)⟩ (fun H locs hM hS => ?_)
      refine lv_iadd hx hb dL_pairs_47 ?_
      refine lv_istore_n (lv' := [(3, .int (x3 + v15)), (6, .int 1), (0, .ref x0), (1, .int x1), (2, .int x2), (4, .int x4), (5, .int x5)]) hx hb dL_pairs_48 rfl hl (by decide) rfl (fun ls hl => ?_)
      refine lv_iconst (v := 0) hx hb dL_pairs_49 (by decide) ?_
      refine lv_istore (lv' := [(7, .int 0), (3, .int (x3 + v15)), (6, .int 1), (0, .ref x0), (1, .int x1), (2, .int x2), (4, .int x4), (5, .int x5)]) hx hb dL_pairs_50 hl (by decide) rfl (fun ls hl => ?_)
      refine W.widen (k := 0) (n := 0) (Nat.le_of_ble_eq_true rfl) (Nat.le_of_ble_eq_true rfl) ?_
      exact tj_L_pairs_52  hC hr hlocks hE hy1  h hM hS (lv_sub hl [3, 4, 5, 1, 7, 6, 2, 0] rfl)
noncomputable def fj_L_pairs_21 (x0 : Nat) (x1 : Int32) (x2 : Int32) (x3 : Int32) (s0 : Int32) (M : Mem) : Option (Int32 × Mem) :=
  fj_L_pairs_26 x0 x1 x2 x3 s0 0 M
set_option maxHeartbeats 4000000 in
set_option maxRecDepth 100000 in
theorem tj_L_pairs_21 {p : Program} {l : Launch} {e : Env} {s : State} {m : MethodId} {args : Array Value} {below : List Frame} {meth : Method} {c : Code} {E : KEnv} {H : Heap} {locs : List Loc} {ls : Array Slot} {x0 : Nat} {x1 : Int32} {x2 : Int32} {x3 : Int32} {s0 : Int32} {M : Mem} {v : Int32} {M' : Mem} (hC : CallFix p m c cL_pairs 10 s args lw_G RL) (hr : meth.sig.returnType = (some .boolean)) (hlocks : meth.locks = false) (hE : EnvOK E s) (h : fj_L_pairs_21 x0 x1 x2 x3 s0 M = some (v, M')) (hM : MOK E M H) (hS : va_S (eA E) s.heap H locs) (hl : lv_has ls 10 [(0, .ref x0), (1, .int x1), (2, .int x2), (3, .int x3)]) : W p l e rm_L_pairs s m args below meth c H locs 0 0 (MQ below (cQ E (some (.int v)) M') args s 0 0 (eA E)) (F0 m 21 ls [.int s0]) := by
  obtain ⟨hx, hb, hml, hown, hts⟩ := id hC
  unfold fj_L_pairs_21 at h
  refine lv_istore (lv' := [(4, .int s0), (0, .ref x0), (1, .int x1), (2, .int x2), (3, .int x3)]) hx hb dL_pairs_21 hl (by decide) rfl (fun ls hl => ?_)
  refine lv_iconst (v := 0) hx hb dL_pairs_23 (by decide) ?_
  refine lv_istore (lv' := [(5, .int 0), (4, .int s0), (0, .ref x0), (1, .int x1), (2, .int x2), (3, .int x3)]) hx hb dL_pairs_24 hl (by decide) rfl (fun ls hl => ?_)
  refine W.widen (k := 0) (n := 0) (Nat.le_of_ble_eq_true rfl) (Nat.le_of_ble_eq_true rfl) ?_
  exact tj_L_pairs_26  hC hr hlocks hE  h hM hS (lv_sub hl [2, 3, 4, 5, 1, 0] rfl)
noncomputable def f_L_pairs (a1 : Nat) (M : Mem) : Option (Int32 × Mem) :=
  bn (cK 5 a1 M (f_X4_replicaCount a1 M)) fun v1 M2 =>
  bn (cK 5 a1 M2 (f_X4_convergenceErrors a1 M2)) fun v3 M4 =>
  (if v3 = 0 then
  fj_L_pairs_21 a1 v1 0 0 1 M4
  else
  fj_L_pairs_21 a1 v1 0 0 0 M4)
set_option maxHeartbeats 4000000 in
set_option maxRecDepth 100000 in
theorem mt_L_pairs (l : Launch) (E : KEnv) (a1 : Nat) (M M' : Mem) (v : Int32) (h : f_L_pairs a1 M = some (v, M')) : Met l yL_pairs (Cond.code yL_pairs cL_pairs 10 (some .boolean) :: lw_G) rm_L_pairs (cPc E [.ref a1] M) (cQ E (some (.int v)) M') 0 0 (eA E) := by
  refine Met.ofW (cc := cL_pairs) (maxL := 10) (ret := (some .boolean)) (by decide) rfl ?_
  intro p e s m args below meth c s₁ B hml hv
  obtain ⟨rfl, hE, hM⟩ := hv
  have hx := B.exec
  have hb := B.bytes
  have hr := B.returns
  have hts0 := atoms_spec (ws := Cond.code yL_pairs cL_pairs 10 (some .boolean) :: lw_G) B.pre
  have hts : ∀ w ∈ lw_G, w.before _ s = true := fun w hw => hts0 w (List.mem_cons_of_mem _ hw)
  have hown : s.vm.findClass RL = some m.cls := findClass_of_methodNamed B.named
  have hlocks := B.notSynchronized
  have hC : CallFix p m c cL_pairs 10 s _ lw_G RL := ⟨hx, hb, hml, hown, hts⟩
  have hS : va_S (eA E) s.heap s.heap [] := va_S.rf
  have hl := lv_entry ([.ref a1]) (n := 10) (Nat.le_of_ble_eq_true rfl)
  rw [lg_entry_eq]
  generalize (lg_sl ([.ref a1]) ++ List.replicate (10 - (lg_sl ([.ref a1])).length) Slot.unset).toArray = ls at hl ⊢
  have hl : lv_has ls 10 [(0, .ref a1)] := hl
  unfold f_L_pairs at h
  show W p l e rm_L_pairs s m _ below meth c s.heap [] 0 0 _ _
  refine lv_aload_n hx hb dL_pairs_0 rfl (lv_at hl 0 rfl) ?_
  obtain ⟨v1, M2, h1, h⟩ := ob2 h
  obtain ⟨hk1, h1⟩ := ifg h1
  refine kV1 (ci := 4) (As := []) (rest := []) hC hE hS hM (mt_X4_replicaCount _ E a1 _ _ _ h1) (gwV qw_985 qw_986 qw_987 qw_39 qw_988) ⟨rfl, rfl, (Nat.le_of_ble_eq_true rfl), (Nat.le_of_ble_eq_true rfl)⟩ dd_X4_replicaCount rfl hk1 rfl rfl hl.1 (Nat.le_of_ble_eq_true rfl) dL_pairs_1 ⟨(Nat.le_of_ble_eq_true rfl), (Nat.le_of_ble_eq_true rfl)⟩ (fun H locs hM hS => ?_)
  refine lv_istore_n (lv' := [(1, .int v1), (0, .ref a1)]) hx hb dL_pairs_4 rfl hl (by decide) rfl (fun ls hl => ?_)
  refine lv_iconst (v := 0) hx hb dL_pairs_5 (by decide) ?_
  refine lv_istore_n (lv' := [(2, .int 0), (1, .int v1), (0, .ref a1)]) hx hb dL_pairs_6 rfl hl (by decide) rfl (fun ls hl => ?_)
  refine lv_iconst (v := 0) hx hb dL_pairs_7 (by decide) ?_
  refine lv_istore_n (lv' := [(3, .int 0), (2, .int 0), (1, .int v1), (0, .ref a1)]) hx hb dL_pairs_8 rfl hl (by decide) rfl (fun ls hl => ?_)
  refine lv_aload_n hx hb dL_pairs_9 rfl (lv_at hl 3 rfl) ?_
  obtain ⟨v3, M4, h1, h⟩ := ob2 h
  obtain ⟨hk1, h1⟩ := ifg h1
  refine kV1 (ci := 4) (As := []) (rest := []) hC hE hS hM (mt_X4_convergenceErrors _ E a1 _ _ _ h1) (gwV qw_1110 qw_1111 qw_1112 qw_39 qw_1113) ⟨rfl, rfl, (Nat.le_of_ble_eq_true rfl), (Nat.le_of_ble_eq_true rfl)⟩ dd_X4_convergenceErrors rfl hk1 rfl rfl hl.1 (Nat.le_of_ble_eq_true rfl) dL_pairs_10 ⟨(Nat.le_of_ble_eq_true rfl), (Nat.le_of_ble_eq_true rfl)⟩ (fun H locs hM hS => ?_)
  refine lv_if_ne (tgt := 20) hx hb dL_pairs_13 (by decide) (fun c1 => ?_) (fun c1 => ?_)
  · have h := ifn c1 h
    refine lv_iconst (v := 0) hx hb dL_pairs_20 (by decide) ?_
    refine W.widen (k := 0) (n := 0) (Nat.le_of_ble_eq_true rfl) (Nat.le_of_ble_eq_true rfl) ?_
    exact tj_L_pairs_21  hC hr hlocks hE  h hM hS (lv_sub hl [3, 2, 1, 0] rfl)
  · have h := ifp c1 h
    refine lv_iconst (v := 1) hx hb dL_pairs_16 (by decide) ?_
    refine lv_goto (tgt := 21) hx hb dL_pairs_17 (by decide) ?_
    refine W.widen (k := 0) (n := 0) (Nat.le_of_ble_eq_true rfl) (Nat.le_of_ble_eq_true rfl) ?_
    exact tj_L_pairs_21  hC hr hlocks hE  h hM hS (lv_sub hl [3, 2, 1, 0] rfl)
