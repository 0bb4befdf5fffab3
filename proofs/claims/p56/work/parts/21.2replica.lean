/-! printed by wip/p56/gen2.py: methods as functions over the memory, and that the code does what they say -/
theorem dd_L_replica : yL_replica.cls ≠ "java/lang/invoke/MethodHandle" ∧ yL_replica.cls ≠ "java/lang/invoke/VarHandle" ∧ (parseMethodDescriptor yL_replica.desc).map (fun d => d.parameters.length) = some 2 := by decide +kernel
abbrev rm_L_replica : Room := ({ frames := 10, cells := 2, slots := 12, locals := 178 } : Room)
noncomputable def fj_L_replica_539 (s0 : Int32) (M : Mem) : Option (Int32 × Mem) :=
  (if s0 = 0 ∨ s0 = 1 then some (s0, M) else none)
set_option maxHeartbeats 4000000 in
set_option maxRecDepth 100000 in
theorem tj_L_replica_539 {p : Program} {l : Launch} {e : Env} {s : State} {m : MethodId} {args : Array Value} {below : List Frame} {meth : Method} {c : Code} {E : KEnv} {H : Heap} {locs : List Loc} {ls : Array Slot} {s0 : Int32} {M : Mem} {v : Int32} {M' : Mem} (hfl : l.stackTraces = false) (hC : CallFix p m c cL_replica 10 s args lw_G RL) (hr : meth.sig.returnType = (some .boolean)) (hlocks : meth.locks = false) (hE : EnvOK E s) (h : fj_L_replica_539 s0 M = some (v, M')) (hM : MOK E M H) (hS : va_S (eA E) s.heap H locs) (hl : lv_has ls 10 []) : W p l e rm_L_replica s m args below meth c H locs 2 12 (MQ below (cQ E (some (.int v)) M') args s 2 12 (eA E)) (F0 m 539 ls [.int s0]) := by
  obtain ⟨hx, hb, hml, hown, hts⟩ := id hC
  unfold fj_L_replica_539 at h
  obtain ⟨h01, h⟩ := ifg h
  cases h
  exact eZ hx hb hr hlocks hM hS dL_replica_539 (Nat.le_of_ble_eq_true rfl) (Nat.le_of_ble_eq_true rfl) h01
noncomputable def fj_L_replica_538  (M : Mem) : Option (Int32 × Mem) :=
  fj_L_replica_539 0 M
set_option maxHeartbeats 4000000 in
set_option maxRecDepth 100000 in
theorem tj_L_replica_538 {p : Program} {l : Launch} {e : Env} {s : State} {m : MethodId} {args : Array Value} {below : List Frame} {meth : Method} {c : Code} {E : KEnv} {H : Heap} {locs : List Loc} {ls : Array Slot}  {M : Mem} {v : Int32} {M' : Mem} (hfl : l.stackTraces = false) (hC : CallFix p m c cL_replica 10 s args lw_G RL) (hr : meth.sig.returnType = (some .boolean)) (hlocks : meth.locks = false) (hE : EnvOK E s) (h : fj_L_replica_538  M = some (v, M')) (hM : MOK E M H) (hS : va_S (eA E) s.heap H locs) (hl : lv_has ls 10 []) : W p l e rm_L_replica s m args below meth c H locs 2 12 (MQ below (cQ E (some (.int v)) M') args s 2 12 (eA E)) (F0 m 538 ls []) := by
  obtain ⟨hx, hb, hml, hown, hts⟩ := id hC
  unfold fj_L_replica_538 at h
  refine lv_iconst (v := 0) hx hb dL_replica_538 (by decide) ?_
  refine W.widen (k := 2) (n := 12) (Nat.le_of_ble_eq_true rfl) (Nat.le_of_ble_eq_true rfl) ?_
  exact tj_L_replica_539 hfl hC hr hlocks hE  h hM hS (lv_sub hl [] rfl)
noncomputable def fj_L_replica_499 (x0 : Nat) (x1 : Int32) (x3 : Int32) (x4 : Int32) (x5 : Int32) (M : Mem) : Option (Int32 × Mem) :=
  (if x5 = 0 then
  fj_L_replica_538 M
  else
  bq (cK 5 x0 M (f_X4_tagCount x0 x1 M)) fun v7 M8 =>
  (if v7 = x3 then
  bn (f_L_tagAt x0 x1 x3 M8) fun v9 M10 =>
  (if v9 = (-5) then
  bq (cK 5 x0 M10 (f_X4_conflicts x0 x1 M10)) fun v11 M12 =>
  (if v11 = x4 then
  fj_L_replica_539 1 M12
  else
  fj_L_replica_538 M12)
  else
  fj_L_replica_538 M10)
  else
  fj_L_replica_538 M8))
set_option maxHeartbeats 4000000 in
set_option maxRecDepth 100000 in
theorem tj_L_replica_499 {p : Program} {l : Launch} {e : Env} {s : State} {m : MethodId} {args : Array Value} {below : List Frame} {meth : Method} {c : Code} {E : KEnv} {H : Heap} {locs : List Loc} {ls : Array Slot} {x0 : Nat} {x1 : Int32} {x3 : Int32} {x4 : Int32} {x5 : Int32} {M : Mem} {v : Int32} {M' : Mem} (hfl : l.stackTraces = false) (hC : CallFix p m c cL_replica 10 s args lw_G RL) (hr : meth.sig.returnType = (some .boolean)) (hlocks : meth.locks = false) (hE : EnvOK E s) (h : fj_L_replica_499 x0 x1 x3 x4 x5 M = some (v, M')) (hM : MOK E M H) (hS : va_S (eA E) s.heap H locs) (hl : lv_has ls 10 [(0, .ref x0), (1, .int x1), (3, .int x3), (4, .int x4), (5, .int x5)]) : W p l e rm_L_replica s m args below meth c H locs 0 0 (MQ below (cQ E (some (.int v)) M') args s 2 12 (eA E)) (F0 m 499 ls []) := by
  obtain ⟨hx, hb, hml, hown, hts⟩ := id hC
  unfold fj_L_replica_499 at h
  refine lv_iload hx hb dL_replica_499 (lv_at hl 4 rfl) ?_
  refine lv_if_eq (tgt := 538) hx hb dL_replica_501 (by decide) (fun c1 => ?_) (fun c1 => ?_)
  · have h := ifp c1 h
    refine W.widen (k := 2) (n := 12) (Nat.le_of_ble_eq_true rfl) (Nat.le_of_ble_eq_true rfl) ?_
    exact tj_L_replica_538 hfl hC hr hlocks hE  h hM hS (lv_sub hl [] rfl)
  · have h := ifn c1 h
    refine lv_aload_n hx hb dL_replica_504 rfl (lv_at hl 0 rfl) ?_
    refine lv_iload_n hx hb dL_replica_505 rfl (lv_at hl 1 rfl) ?_
    obtain ⟨v7, M8, h1, h⟩ := obq h
    obtain ⟨hk1, h1⟩ := ifg h1
    refine kV1 (ci := 4) (As := [.int x1]) (rest := []) hC hE hS hM (mq_X4_tagCount _ E x0 x1 _ _ _ h1) (gwV qw_1090 qw_1091 qw_1092 qw_39 qw_1093) ⟨rfl, rfl, (Nat.le_of_ble_eq_true rfl), (Nat.le_of_ble_eq_true rfl)⟩ dd_X4_tagCount rfl hk1 rfl rfl hl.1 (Nat.le_of_ble_eq_true rfl) dL_replica_506 ⟨(Nat.le_of_ble_eq_true rfl), (Nat.le_of_ble_eq_true rfl)⟩ (fun H locs hM hS => ?_)
    refine lv_iload_n hx hb dL_replica_509 rfl (lv_at hl 2 rfl) ?_
    refine lv_icmp_ne (tgt := 538) hx hb dL_replica_510 (by decide) (fun c1 => ?_) (fun c1 => ?_)
    · have h := ifn c1 h
      refine W.widen (k := 2) (n := 12) (Nat.le_of_ble_eq_true rfl) (Nat.le_of_ble_eq_true rfl) ?_
      exact tj_L_replica_538 hfl hC hr hlocks hE  h hM hS (lv_sub hl [] rfl)
    · have h := ifp c1 h
      refine lv_aload_n hx hb dL_replica_513 rfl (lv_at hl 0 rfl) ?_
      refine lv_iload_n hx hb dL_replica_514 rfl (lv_at hl 1 rfl) ?_
      refine lv_iload_n hx hb dL_replica_515 rfl (lv_at hl 2 rfl) ?_
      obtain ⟨v9, M10, h1, h⟩ := ob2 h
      refine kSW (As := [.ref x0, .int x1, .int x3]) (rest := []) hC hE hS hM (mt_L_tagAt _ hfl E x0 x1 x3 _ _ _ h1) (gwSW qw_1068 qw_1069 qw_38 qz_L_tagAt) ⟨rfl, rfl, (Nat.le_of_ble_eq_true rfl), (Nat.le_of_ble_eq_true rfl)⟩ dd_L_tagAt rfl rfl hl.1 (Nat.le_of_ble_eq_true rfl) dL_replica_516 ⟨(Nat.le_of_ble_eq_true rfl), (Nat.le_of_ble_eq_true rfl)⟩ (fun H locs hM hS => ?_)
      refine lv_bipush (v := (-5)) hx hb dL_replica_519 (by decide) ?_
      refine lv_icmp_ne (tgt := 538) hx hb dL_replica_521 (by decide) (fun c1 => ?_) (fun c1 => ?_)
      · have h := ifn c1 h
        refine W.widen (k := 2) (n := 12) (Nat.le_of_ble_eq_true rfl) (Nat.le_of_ble_eq_true rfl) ?_
        exact tj_L_replica_538 hfl hC hr hlocks hE  h hM hS (lv_sub hl [] rfl)
      · have h := ifp c1 h
        refine lv_aload_n hx hb dL_replica_524 rfl (lv_at hl 0 rfl) ?_
        refine lv_iload_n hx hb dL_replica_525 rfl (lv_at hl 1 rfl) ?_
        obtain ⟨v11, M12, h1, h⟩ := obq h
        obtain ⟨hk1, h1⟩ := ifg h1
        refine kV1 (ci := 4) (As := [.int x1]) (rest := []) hC hE hS hM (mq_X4_conflicts _ E x0 x1 _ _ _ h1) (gwV qw_1098 qw_1099 qw_1100 qw_39 qw_1101) ⟨rfl, rfl, (Nat.le_of_ble_eq_true rfl), (Nat.le_of_ble_eq_true rfl)⟩ dd_X4_conflicts rfl hk1 rfl rfl hl.1 (Nat.le_of_ble_eq_true rfl) dL_replica_526 ⟨(Nat.le_of_ble_eq_true rfl), (Nat.le_of_ble_eq_true rfl)⟩ (fun H locs hM hS => ?_)
        refine lv_iload hx hb dL_replica_529 (lv_at hl 3 rfl) ?_
        refine lv_icmp_ne (tgt := 538) hx hb dL_replica_531 (by decide) (fun c1 => ?_) (fun c1 => ?_)
        · have h := ifn c1 h
          refine W.widen (k := 2) (n := 12) (Nat.le_of_ble_eq_true rfl) (Nat.le_of_ble_eq_true rfl) ?_
          exact tj_L_replica_538 hfl hC hr hlocks hE  h hM hS (lv_sub hl [] rfl)
        · have h := ifp c1 h
          refine lv_iconst (v := 1) hx hb dL_replica_534 (by decide) ?_
          refine lv_goto (tgt := 539) hx hb dL_replica_535 (by decide) ?_
          refine W.widen (k := 2) (n := 12) (Nat.le_of_ble_eq_true rfl) (Nat.le_of_ble_eq_true rfl) ?_
          exact tj_L_replica_539 hfl hC hr hlocks hE  h hM hS (lv_sub hl [] rfl)
noncomputable def fj_L_replica_491 (x0 : Nat) (x1 : Int32) (x2 : Int32) (x3 : Int32) (x4 : Int32) (x6 : Int32) (s0 : Int32) (M : Mem) : Option ((Int32 × Int32 × Mem) ⊕ (Int32 × Mem)) :=
  some (.inl (s0, x6 + 1, M))
set_option maxHeartbeats 4000000 in
set_option maxRecDepth 100000 in
theorem tj_L_replica_491 {p : Program} {l : Launch} {e : Env} {s : State} {m : MethodId} {args : Array Value} {below : List Frame} {meth : Method} {c : Code} {E : KEnv} {H : Heap} {locs : List Loc} {ls : Array Slot} {x0 : Nat} {x1 : Int32} {x2 : Int32} {x3 : Int32} {x4 : Int32} {x6 : Int32} {s0 : Int32} {y1 : ((Int32 × Int32 × Mem) ⊕ (Int32 × Mem))} {M : Mem} {v : Int32} {M' : Mem} (hfl : l.stackTraces = false) (hC : CallFix p m c cL_replica 10 s args lw_G RL) (hr : meth.sig.returnType = (some .boolean)) (hlocks : meth.locks = false) (hE : EnvOK E s) (hy1 : (∀ q : (Int32 × Int32 × Mem), y1 = .inl q → ∀ (H : Heap) (locs : List Loc) (ls : Array Slot), MOK E (q.2.2) H → va_S (eA E) s.heap H locs → lv_has ls 10 [(0, .ref x0), (1, .int x1), (2, .int x2), (3, .int x3), (4, .int x4), (5, .int q.1), (6, .int q.2.1)] → W p l e rm_L_replica s m args below meth c H locs 0 0 (MQ below (cQ E (some (.int v)) M') args s 2 12 (eA E)) (F0 m 457 ls [])) ∧ ∀ z, y1 = .inr z → z = (v, M')) (h : fj_L_replica_491 x0 x1 x2 x3 x4 x6 s0 M = some y1) (hM : MOK E M H) (hS : va_S (eA E) s.heap H locs) (hl : lv_has ls 10 [(0, .ref x0), (1, .int x1), (2, .int x2), (3, .int x3), (4, .int x4), (6, .int x6)]) : W p l e rm_L_replica s m args below meth c H locs 0 0 (MQ below (cQ E (some (.int v)) M') args s 2 12 (eA E)) (F0 m 491 ls [.int s0]) := by
  obtain ⟨hx, hb, hml, hown, hts⟩ := id hC
  unfold fj_L_replica_491 at h
  refine lv_istore (lv' := [(5, .int s0), (0, .ref x0), (1, .int x1), (2, .int x2), (3, .int x3), (4, .int x4), (6, .int x6)]) hx hb dL_replica_491 hl (by decide) rfl (fun ls hl => ?_)
  refine lv_iinc (v := x6 + 1) (lv' := [(6, .int (x6 + 1)), (5, .int s0), (0, .ref x0), (1, .int x1), (2, .int x2), (3, .int x3), (4, .int x4)]) hx hb dL_replica_493 hl (k := 6) rfl rfl (by decide) rfl (fun ls hl => ?_)
  refine lv_goto (tgt := 457) hx hb dL_replica_496 (by decide) ?_
  cases h
  exact hy1.1 _ rfl _ _ _ hM hS (lv_sub hl [2, 3, 4, 5, 6, 1, 0] rfl)
noncomputable def fc_L_replica_457 (x0 : Nat) (x1 : Int32) (x2 : Int32) (x3 : Int32) (x4 : Int32) (x5 : Int32) (x6 : Int32) (M : Mem) : Option ((Int32 × Int32 × Mem) ⊕ (Int32 × Mem)) :=
  (if x2 ≤ x6 then
  (fj_L_replica_499 x0 x1 x3 x4 x5 M).map Sum.inr
  else
  (if x5 = 0 then
  (fj_L_replica_499 x0 x1 x3 x4 x5 M).map Sum.inr
  else
  bq (cK 5 x0 M (f_X4_versionEntry x0 x1 x6 M)) fun v13 M14 =>
  bq (cK 5 x0 M14 (f_X4_versionEntry x0 x6 x6 M14)) fun v15 M16 =>
  (if v15 < v13 then
  fj_L_replica_491 x0 x1 x2 x3 x4 x6 0 M16
  else
  fj_L_replica_491 x0 x1 x2 x3 x4 x6 1 M16)))
noncomputable def fj_L_replica_457 (x0 : Nat) (x1 : Int32) (x2 : Int32) (x3 : Int32) (x4 : Int32) (x5 : Int32) (x6 : Int32) (M : Mem) : Option (Int32 × Mem) := loopM (fun q : (Int32 × Int32 × Mem) => fc_L_replica_457 x0 x1 x2 x3 x4 q.1 q.2.1 q.2.2) FU (x5, x6, M)
set_option maxHeartbeats 4000000 in
set_option maxRecDepth 100000 in
theorem tj_L_replica_457 {p : Program} {l : Launch} {e : Env} {s : State} {m : MethodId} {args : Array Value} {below : List Frame} {meth : Method} {c : Code} {E : KEnv} {H : Heap} {locs : List Loc} {ls : Array Slot} {x0 : Nat} {x1 : Int32} {x2 : Int32} {x3 : Int32} {x4 : Int32} {x5 : Int32} {x6 : Int32} {M : Mem} {v : Int32} {M' : Mem} (hfl : l.stackTraces = false) (hC : CallFix p m c cL_replica 10 s args lw_G RL) (hr : meth.sig.returnType = (some .boolean)) (hlocks : meth.locks = false) (hE : EnvOK E s) (h : fj_L_replica_457 x0 x1 x2 x3 x4 x5 x6 M = some (v, M')) (hM : MOK E M H) (hS : va_S (eA E) s.heap H locs) (hl : lv_has ls 10 [(0, .ref x0), (1, .int x1), (2, .int x2), (3, .int x3), (4, .int x4), (5, .int x5), (6, .int x6)]) : W p l e rm_L_replica s m args below meth c H locs 0 0 (MQ below (cQ E (some (.int v)) M') args s 2 12 (eA E)) (F0 m 457 ls []) := by
  refine loopM_ind (body := fun q : (Int32 × Int32 × Mem) => fc_L_replica_457 x0 x1 x2 x3 x4 q.1 q.2.1 q.2.2) (x0 := (v, M')) (Wd := fun q : (Int32 × Int32 × Mem) => ∀ (H : Heap) (locs : List Loc) (ls : Array Slot), MOK E (q.2.2) H → va_S (eA E) s.heap H locs → lv_has ls 10 [(0, .ref x0), (1, .int x1), (2, .int x2), (3, .int x3), (4, .int x4), (5, .int q.1), (6, .int q.2.1)] → W p l e rm_L_replica s m args below meth c H locs 0 0 (MQ below (cQ E (some (.int v)) M') args s 2 12 (eA E)) (F0 m 457 ls [])) ?_ FU (x5, x6, M) h H locs ls hM hS hl
  clear h hM hS hl H locs ls M x5 x6
  obtain ⟨hx, hb, hml, hown, hts⟩ := id hC
  intro q y1 h hy1 H locs ls hM hS hl
  obtain ⟨x5, x6, M⟩ := q
  have h : fc_L_replica_457 x0 x1 x2 x3 x4 x5 x6 M = some y1 := h
  have hM : MOK E M H := hM
  have hl : lv_has ls 10 [(0, .ref x0), (1, .int x1), (2, .int x2), (3, .int x3), (4, .int x4), (5, .int x5), (6, .int x6)] := hl
  unfold fc_L_replica_457 at h
  show W p l e rm_L_replica s m args below meth c H locs _ _ _ _
  refine lv_iload hx hb dL_replica_457 (lv_at hl 6 rfl) ?_
  refine lv_iload_n hx hb dL_replica_459 rfl (lv_at hl 2 rfl) ?_
  refine lv_icmp_ge (tgt := 499) hx hb dL_replica_460 (by decide) (fun c1 => ?_) (fun c1 => ?_)
  · have h := ifp c1 h
    obtain ⟨z0, h9, rfl⟩ := om h
    have e0 := hy1.2 _ rfl
    subst e0
    have h := h9
    refine W.widen (k := 0) (n := 0) (Nat.le_of_ble_eq_true rfl) (Nat.le_of_ble_eq_true rfl) ?_
    exact tj_L_replica_499 hfl hC hr hlocks hE  h hM hS (lv_sub hl [0, 1, 3, 4, 5] rfl)
  · have h := ifn c1 h
    refine lv_iload hx hb dL_replica_463 (lv_at hl 5 rfl) ?_
    refine lv_if_eq (tgt := 499) hx hb dL_replica_465 (by decide) (fun c1 => ?_) (fun c1 => ?_)
    · have h := ifp c1 h
      obtain ⟨z0, h9, rfl⟩ := om h
      have e0 := hy1.2 _ rfl
      subst e0
      have h := h9
      refine W.widen (k := 0) (n := 0) (Nat.le_of_ble_eq_true rfl) (Nat.le_of_ble_eq_true rfl) ?_
      exact tj_L_replica_499 hfl hC hr hlocks hE  h hM hS (lv_sub hl [0, 1, 3, 4, 5] rfl)
    · have h := ifn c1 h
      refine lv_aload_n hx hb dL_replica_468 rfl (lv_at hl 0 rfl) ?_
      refine lv_iload_n hx hb dL_replica_469 rfl (lv_at hl 1 rfl) ?_
      refine lv_iload hx hb dL_replica_470 (lv_at hl 6 rfl) ?_
      obtain ⟨v13, M14, h1, h⟩ := obq h
      obtain ⟨hk1, h1⟩ := ifg h1
      refine kV1 (ci := 4) (As := [.int x1, .int x6]) (rest := []) hC hE hS hM (mq_X4_versionEntry _ E x0 x1 x6 _ _ _ h1) (gwV qw_994 qw_995 qw_996 qw_39 qw_997) ⟨rfl, rfl, (Nat.le_of_ble_eq_true rfl), (Nat.le_of_ble_eq_true rfl)⟩ dd_X4_versionEntry rfl hk1 rfl rfl hl.1 (Nat.le_of_ble_eq_true rfl) dL_replica_472 ⟨(Nat.le_of_ble_eq_true rfl), (Nat.le_of_ble_eq_true rfl)⟩ (fun H locs hM hS => ?_)
      refine lv_aload_n hx hb dL_replica_475 rfl (lv_at hl 0 rfl) ?_
      refine lv_iload hx hb dL_replica_476 (lv_at hl 6 rfl) ?_
      refine lv_iload hx hb dL_replica_478 (lv_at hl 6 rfl) ?_
      obtain ⟨v15, M16, h1, h⟩ := obq h
      obtain ⟨hk1, h1⟩ := ifg h1
      refine kV1 (ci := 4) (As := [.int x6, .int x6]) (rest := [.int v13]) hC hE hS hM (mq_X4_versionEntry _ E x0 x6 x6 _ _ _ h1) (gwV qw_994 qw_995 qw_996 qw_39 qw_997) ⟨rfl, rfl, (Nat.le_of_ble_eq_true rfl), (Nat.le_of_ble_eq_true rfl)⟩ dd_X4_versionEntry rfl hk1 rfl rfl hl.1 (Nat.le_of_ble_eq_true rfl) dL_replica_480 ⟨(Nat.le_of_ble_eq_true rfl), (Nat.le_of_ble_eq_true rfl)⟩ (fun H locs hM hS => ?_)
      refine lv_icmp_gt (tgt := 490) hx hb dL_replica_483 (by decide) (fun c1 => ?_) (fun c1 => ?_)
      · have h := ifp c1 h
        refine lv_iconst (v := 0) hx hb dL_replica_490 (by decide) ?_
        refine W.widen (k := 0) (n := 0) (Nat.le_of_ble_eq_true rfl) (Nat.le_of_ble_eq_true rfl) ?_
        exact tj_L_replica_491 hfl hC hr hlocks hE hy1  h hM hS (lv_sub hl [0, 1, 2, 3, 4, 6] rfl)
      · have h := ifn c1 h
        refine lv_iconst (v := 1) hx hb dL_replica_486 (by decide) ?_
        refine lv_goto (tgt := 491) hx hb dL_replica_487 (by decide) ?_
        refine W.widen (k := 0) (n := 0) (Nat.le_of_ble_eq_true rfl) (Nat.le_of_ble_eq_true rfl) ?_
        exact tj_L_replica_491 hfl hC hr hlocks hE hy1  h hM hS (lv_sub hl [0, 1, 2, 3, 4, 6] rfl)
noncomputable def fj_L_replica_454 (x0 : Nat) (x1 : Int32) (x2 : Int32) (x3 : Int32) (x4 : Int32) (x5 : Int32) (M : Mem) : Option (Int32 × Mem) :=
  fj_L_replica_457 x0 x1 x2 x3 x4 x5 0 M
set_option maxHeartbeats 4000000 in
set_option maxRecDepth 100000 in
theorem tj_L_replica_454 {p : Program} {l : Launch} {e : Env} {s : State} {m : MethodId} {args : Array Value} {below : List Frame} {meth : Method} {c : Code} {E : KEnv} {H : Heap} {locs : List Loc} {ls : Array Slot} {x0 : Nat} {x1 : Int32} {x2 : Int32} {x3 : Int32} {x4 : Int32} {x5 : Int32} {M : Mem} {v : Int32} {M' : Mem} (hfl : l.stackTraces = false) (hC : CallFix p m c cL_replica 10 s args lw_G RL) (hr : meth.sig.returnType = (some .boolean)) (hlocks : meth.locks = false) (hE : EnvOK E s) (h : fj_L_replica_454 x0 x1 x2 x3 x4 x5 M = some (v, M')) (hM : MOK E M H) (hS : va_S (eA E) s.heap H locs) (hl : lv_has ls 10 [(0, .ref x0), (1, .int x1), (2, .int x2), (3, .int x3), (4, .int x4), (5, .int x5)]) : W p l e rm_L_replica s m args below meth c H locs 0 0 (MQ below (cQ E (some (.int v)) M') args s 2 12 (eA E)) (F0 m 454 ls []) := by
  obtain ⟨hx, hb, hml, hown, hts⟩ := id hC
  unfold fj_L_replica_454 at h
  refine lv_iconst (v := 0) hx hb dL_replica_454 (by decide) ?_
  refine lv_istore (lv' := [(6, .int 0), (0, .ref x0), (1, .int x1), (2, .int x2), (3, .int x3), (4, .int x4), (5, .int x5)]) hx hb dL_replica_455 hl (by decide) rfl (fun ls hl => ?_)
  refine W.widen (k := 0) (n := 0) (Nat.le_of_ble_eq_true rfl) (Nat.le_of_ble_eq_true rfl) ?_
  exact tj_L_replica_457 hfl hC hr hlocks hE  h hM hS (lv_sub hl [1, 2, 3, 4, 5, 6, 0] rfl)
noncomputable def fj_L_replica_446 (x0 : Nat) (x1 : Int32) (x2 : Int32) (x3 : Int32) (x4 : Int32) (x6 : Int32) (s0 : Int32) (M : Mem) : Option ((Int32 × Int32 × Int32 × Mem) ⊕ (Int32 × Mem)) :=
  some (.inl (x4, s0, x6 + 1, M))
set_option maxHeartbeats 4000000 in
set_option maxRecDepth 100000 in
theorem tj_L_replica_446 {p : Program} {l : Launch} {e : Env} {s : State} {m : MethodId} {args : Array Value} {below : List Frame} {meth : Method} {c : Code} {E : KEnv} {H : Heap} {locs : List Loc} {ls : Array Slot} {x0 : Nat} {x1 : Int32} {x2 : Int32} {x3 : Int32} {x4 : Int32} {x6 : Int32} {s0 : Int32} {y1 : ((Int32 × Int32 × Int32 × Mem) ⊕ (Int32 × Mem))} {M : Mem} {v : Int32} {M' : Mem} (hfl : l.stackTraces = false) (hC : CallFix p m c cL_replica 10 s args lw_G RL) (hr : meth.sig.returnType = (some .boolean)) (hlocks : meth.locks = false) (hE : EnvOK E s) (hy1 : (∀ q : (Int32 × Int32 × Int32 × Mem), y1 = .inl q → ∀ (H : Heap) (locs : List Loc) (ls : Array Slot), MOK E (q.2.2.2) H → va_S (eA E) s.heap H locs → lv_has ls 10 [(0, .ref x0), (1, .int x1), (2, .int x2), (3, .int x3), (4, .int q.1), (5, .int q.2.1), (6, .int q.2.2.1)] → W p l e rm_L_replica s m args below meth c H locs 0 0 (MQ below (cQ E (some (.int v)) M') args s 2 12 (eA E)) (F0 m 328 ls [])) ∧ ∀ z, y1 = .inr z → z = (v, M')) (h : fj_L_replica_446 x0 x1 x2 x3 x4 x6 s0 M = some y1) (hM : MOK E M H) (hS : va_S (eA E) s.heap H locs) (hl : lv_has ls 10 [(0, .ref x0), (1, .int x1), (2, .int x2), (3, .int x3), (4, .int x4), (6, .int x6)]) : W p l e rm_L_replica s m args below meth c H locs 0 0 (MQ below (cQ E (some (.int v)) M') args s 2 12 (eA E)) (F0 m 446 ls [.int s0]) := by
  obtain ⟨hx, hb, hml, hown, hts⟩ := id hC
  unfold fj_L_replica_446 at h
  refine lv_istore (lv' := [(5, .int s0), (0, .ref x0), (1, .int x1), (2, .int x2), (3, .int x3), (4, .int x4), (6, .int x6)]) hx hb dL_replica_446 hl (by decide) rfl (fun ls hl => ?_)
  refine lv_iinc (v := x6 + 1) (lv' := [(6, .int (x6 + 1)), (5, .int s0), (0, .ref x0), (1, .int x1), (2, .int x2), (3, .int x3), (4, .int x4)]) hx hb dL_replica_448 hl (k := 6) rfl rfl (by decide) rfl (fun ls hl => ?_)
  refine lv_goto (tgt := 328) hx hb dL_replica_451 (by decide) ?_
  cases h
  exact hy1.1 _ rfl _ _ _ hM hS (lv_sub hl [2, 3, 4, 5, 6, 1, 0] rfl)
noncomputable def fj_L_replica_445 (x0 : Nat) (x1 : Int32) (x2 : Int32) (x3 : Int32) (x4 : Int32) (x6 : Int32) (M : Mem) : Option ((Int32 × Int32 × Int32 × Mem) ⊕ (Int32 × Mem)) :=
  fj_L_replica_446 x0 x1 x2 x3 x4 x6 0 M
set_option maxHeartbeats 4000000 in
set_option maxRecDepth 100000 in
theorem tj_L_replica_445 {p : Program} {l : Launch} {e : Env} {s : State} {m : MethodId} {args : Array Value} {below : List Frame} {meth : Method} {c : Code} {E : KEnv} {H : Heap} {locs : List Loc} {ls : Array Slot} {x0 : Nat} {x1 : Int32} {x2 : Int32} {x3 : Int32} {x4 : Int32} {x6 : Int32} {y1 : ((Int32 × Int32 × Int32 × Mem) ⊕ (Int32 × Mem))} {M : Mem} {v : Int32} {M' : Mem} (hfl : l.stackTraces = false) (hC : CallFix p m c cL_replica 10 s args lw_G RL) (hr : meth.sig.returnType = (some .boolean)) (hlocks : meth.locks = false) (hE : EnvOK E s) (hy1 : (∀ q : (Int32 × Int32 × Int32 × Mem), y1 = .inl q → ∀ (H : Heap) (locs : List Loc) (ls : Array Slot), MOK E (q.2.2.2) H → va_S (eA E) s.heap H locs → lv_has ls 10 [(0, .ref x0), (1, .int x1), (2, .int x2), (3, .int x3), (4, .int q.1), (5, .int q.2.1), (6, .int q.2.2.1)] → W p l e rm_L_replica s m args below meth c H locs 0 0 (MQ below (cQ E (some (.int v)) M') args s 2 12 (eA E)) (F0 m 328 ls [])) ∧ ∀ z, y1 = .inr z → z = (v, M')) (h : fj_L_replica_445 x0 x1 x2 x3 x4 x6 M = some y1) (hM : MOK E M H) (hS : va_S (eA E) s.heap H locs) (hl : lv_has ls 10 [(0, .ref x0), (1, .int x1), (2, .int x2), (3, .int x3), (4, .int x4), (6, .int x6)]) : W p l e rm_L_replica s m args below meth c H locs 0 0 (MQ below (cQ E (some (.int v)) M') args s 2 12 (eA E)) (F0 m 445 ls []) := by
  obtain ⟨hx, hb, hml, hown, hts⟩ := id hC
  unfold fj_L_replica_445 at h
  refine lv_iconst (v := 0) hx hb dL_replica_445 (by decide) ?_
  refine W.widen (k := 0) (n := 0) (Nat.le_of_ble_eq_true rfl) (Nat.le_of_ble_eq_true rfl) ?_
  exact tj_L_replica_446 hfl hC hr hlocks hE hy1  h hM hS (lv_sub hl [0, 1, 2, 3, 4, 5] rfl)
noncomputable def fj_L_replica_414 (x0 : Nat) (x1 : Int32) (x2 : Int32) (x3 : Int32) (x6 : Int32) (x7 : Int32) (x8 : Int32) (s0 : Int32) (s1 : Int32) (M : Mem) : Option ((Int32 × Int32 × Int32 × Mem) ⊕ (Int32 × Mem)) :=
  bq (cK 5 x0 M (f_X4_entryCount x0 x1 x6 M)) fun v17 M18 =>
  (if v17 = x7 then
  bq (cK 5 x0 M18 (f_X4_greatestValue x0 x1 x6 M18)) fun v19 M20 =>
  (if v19 = x8 then
  fj_L_replica_446 x0 x1 x2 x3 (s0 + s1) x6 1 M20
  else
  fj_L_replica_445 x0 x1 x2 x3 (s0 + s1) x6 M20)
  else
  fj_L_replica_445 x0 x1 x2 x3 (s0 + s1) x6 M18)
set_option maxHeartbeats 4000000 in
set_option maxRecDepth 100000 in
theorem tj_L_replica_414 {p : Program} {l : Launch} {e : Env} {s : State} {m : MethodId} {args : Array Value} {below : List Frame} {meth : Method} {c : Code} {E : KEnv} {H : Heap} {locs : List Loc} {ls : Array Slot} {x0 : Nat} {x1 : Int32} {x2 : Int32} {x3 : Int32} {x6 : Int32} {x7 : Int32} {x8 : Int32} {s0 : Int32} {s1 : Int32} {y1 : ((Int32 × Int32 × Int32 × Mem) ⊕ (Int32 × Mem))} {M : Mem} {v : Int32} {M' : Mem} (hfl : l.stackTraces = false) (hC : CallFix p m c cL_replica 10 s args lw_G RL) (hr : meth.sig.returnType = (some .boolean)) (hlocks : meth.locks = false) (hE : EnvOK E s) (hy1 : (∀ q : (Int32 × Int32 × Int32 × Mem), y1 = .inl q → ∀ (H : Heap) (locs : List Loc) (ls : Array Slot), MOK E (q.2.2.2) H → va_S (eA E) s.heap H locs → lv_has ls 10 [(0, .ref x0), (1, .int x1), (2, .int x2), (3, .int x3), (4, .int q.1), (5, .int q.2.1), (6, .int q.2.2.1)] → W p l e rm_L_replica s m args below meth c H locs 0 0 (MQ below (cQ E (some (.int v)) M') args s 2 12 (eA E)) (F0 m 328 ls [])) ∧ ∀ z, y1 = .inr z → z = (v, M')) (h : fj_L_replica_414 x0 x1 x2 x3 x6 x7 x8 s0 s1 M = some y1) (hM : MOK E M H) (hS : va_S (eA E) s.heap H locs) (hl : lv_has ls 10 [(0, .ref x0), (1, .int x1), (2, .int x2), (3, .int x3), (6, .int x6), (7, .int x7), (8, .int x8)]) : W p l e rm_L_replica s m args below meth c H locs 0 0 (MQ below (cQ E (some (.int v)) M') args s 2 12 (eA E)) (F0 m 414 ls [.int s1, .int s0]) := by
  obtain ⟨hx, hb, hml, hown, hts⟩ := id hC
  unfold fj_L_replica_414 at h
  refine lv_iadd hx hb dL_replica_414 ?_
  refine lv_istore (lv' := [(4, .int (s0 + s1)), (0, .ref x0), (1, .int x1), (2, .int x2), (3, .int x3), (6, .int x6), (7, .int x7), (8, .int x8)]) hx hb dL_replica_415 hl (by decide) rfl (fun ls hl => ?_)
  refine lv_aload_n hx hb dL_replica_417 rfl (lv_at hl 1 rfl) ?_
  refine lv_iload_n hx hb dL_replica_418 rfl (lv_at hl 2 rfl) ?_
  refine lv_iload hx hb dL_replica_419 (lv_at hl 5 rfl) ?_
  obtain ⟨v17, M18, h1, h⟩ := obq h
  obtain ⟨hk1, h1⟩ := ifg h1
  refine kV1 (ci := 4) (As := [.int x1, .int x6]) (rest := []) hC hE hS hM (mq_X4_entryCount _ E x0 x1 x6 _ _ _ h1) (gwV qw_1081 qw_1082 qw_1083 qw_39 qw_1084) ⟨rfl, rfl, (Nat.le_of_ble_eq_true rfl), (Nat.le_of_ble_eq_true rfl)⟩ dd_X4_entryCount rfl hk1 rfl rfl hl.1 (Nat.le_of_ble_eq_true rfl) dL_replica_421 ⟨(Nat.le_of_ble_eq_true rfl), (Nat.le_of_ble_eq_true rfl)⟩ (fun H locs hM hS => ?_)
  refine lv_iload hx hb dL_replica_424 (lv_at hl 6 rfl) ?_
  refine lv_icmp_ne (tgt := 445) hx hb dL_replica_426 (by decide) (fun c1 => ?_) (fun c1 => ?_)
  · have h := ifn c1 h
    refine W.widen (k := 0) (n := 0) (Nat.le_of_ble_eq_true rfl) (Nat.le_of_ble_eq_true rfl) ?_
    exact tj_L_replica_445 hfl hC hr hlocks hE hy1  h hM hS (lv_sub hl [1, 2, 3, 4, 0, 5] rfl)
  · have h := ifp c1 h
    refine lv_aload_n hx hb dL_replica_429 rfl (lv_at hl 1 rfl) ?_
    refine lv_iload_n hx hb dL_replica_430 rfl (lv_at hl 2 rfl) ?_
    refine lv_iload hx hb dL_replica_431 (lv_at hl 5 rfl) ?_
    obtain ⟨v19, M20, h1, h⟩ := obq h
    obtain ⟨hk1, h1⟩ := ifg h1
    refine kV1 (ci := 4) (As := [.int x1, .int x6]) (rest := []) hC hE hS hM (mq_X4_greatestValue _ E x0 x1 x6 _ _ _ h1) (gwV qw_1085 qw_1086 qw_1087 qw_39 qw_1088) ⟨rfl, rfl, (Nat.le_of_ble_eq_true rfl), (Nat.le_of_ble_eq_true rfl)⟩ dd_X4_greatestValue rfl hk1 rfl rfl hl.1 (Nat.le_of_ble_eq_true rfl) dL_replica_433 ⟨(Nat.le_of_ble_eq_true rfl), (Nat.le_of_ble_eq_true rfl)⟩ (fun H locs hM hS => ?_)
    refine lv_iload hx hb dL_replica_436 (lv_at hl 7 rfl) ?_
    refine lv_icmp_ne (tgt := 445) hx hb dL_replica_438 (by decide) (fun c1 => ?_) (fun c1 => ?_)
    · have h := ifn c1 h
      refine W.widen (k := 0) (n := 0) (Nat.le_of_ble_eq_true rfl) (Nat.le_of_ble_eq_true rfl) ?_
      exact tj_L_replica_445 hfl hC hr hlocks hE hy1  h hM hS (lv_sub hl [1, 2, 3, 4, 0, 5] rfl)
    · have h := ifp c1 h
      refine lv_iconst (v := 1) hx hb dL_replica_441 (by decide) ?_
      refine lv_goto (tgt := 446) hx hb dL_replica_442 (by decide) ?_
      refine W.widen (k := 0) (n := 0) (Nat.le_of_ble_eq_true rfl) (Nat.le_of_ble_eq_true rfl) ?_
      exact tj_L_replica_446 hfl hC hr hlocks hE hy1  h hM hS (lv_sub hl [1, 2, 3, 4, 0, 5] rfl)
noncomputable def fj_L_replica_401 (x0 : Nat) (x1 : Int32) (x2 : Int32) (x3 : Int32) (x4 : Int32) (x6 : Int32) (x7 : Int32) (x8 : Int32) (M : Mem) : Option ((Int32 × Int32 × Int32 × Mem) ⊕ (Int32 × Mem)) :=
  (if x7 ≤ 1 then
  fj_L_replica_414 x0 x1 x2 x3 x6 x7 x8 x4 0 M
  else
  fj_L_replica_414 x0 x1 x2 x3 x6 x7 x8 x4 1 M)
set_option maxHeartbeats 4000000 in
set_option maxRecDepth 100000 in
theorem tj_L_replica_401 {p : Program} {l : Launch} {e : Env} {s : State} {m : MethodId} {args : Array Value} {below : List Frame} {meth : Method} {c : Code} {E : KEnv} {H : Heap} {locs : List Loc} {ls : Array Slot} {x0 : Nat} {x1 : Int32} {x2 : Int32} {x3 : Int32} {x4 : Int32} {x6 : Int32} {x7 : Int32} {x8 : Int32} {y1 : ((Int32 × Int32 × Int32 × Mem) ⊕ (Int32 × Mem))} {M : Mem} {v : Int32} {M' : Mem} (hfl : l.stackTraces = false) (hC : CallFix p m c cL_replica 10 s args lw_G RL) (hr : meth.sig.returnType = (some .boolean)) (hlocks : meth.locks = false) (hE : EnvOK E s) (hy1 : (∀ q : (Int32 × Int32 × Int32 × Mem), y1 = .inl q → ∀ (H : Heap) (locs : List Loc) (ls : Array Slot), MOK E (q.2.2.2) H → va_S (eA E) s.heap H locs → lv_has ls 10 [(0, .ref x0), (1, .int x1), (2, .int x2), (3, .int x3), (4, .int q.1), (5, .int q.2.1), (6, .int q.2.2.1)] → W p l e rm_L_replica s m args below meth c H locs 0 0 (MQ below (cQ E (some (.int v)) M') args s 2 12 (eA E)) (F0 m 328 ls [])) ∧ ∀ z, y1 = .inr z → z = (v, M')) (h : fj_L_replica_401 x0 x1 x2 x3 x4 x6 x7 x8 M = some y1) (hM : MOK E M H) (hS : va_S (eA E) s.heap H locs) (hl : lv_has ls 10 [(0, .ref x0), (1, .int x1), (2, .int x2), (3, .int x3), (4, .int x4), (6, .int x6), (7, .int x7), (8, .int x8)]) : W p l e rm_L_replica s m args below meth c H locs 0 0 (MQ below (cQ E (some (.int v)) M') args s 2 12 (eA E)) (F0 m 401 ls []) := by
  obtain ⟨hx, hb, hml, hown, hts⟩ := id hC
  unfold fj_L_replica_401 at h
  refine lv_iload hx hb dL_replica_401 (lv_at hl 4 rfl) ?_
  refine lv_iload hx hb dL_replica_403 (lv_at hl 6 rfl) ?_
  refine lv_iconst (v := 1) hx hb dL_replica_405 (by decide) ?_
  refine lv_icmp_le (tgt := 413) hx hb dL_replica_406 (by decide) (fun c1 => ?_) (fun c1 => ?_)
  · have h := ifp c1 h
    refine lv_iconst (v := 0) hx hb dL_replica_413 (by decide) ?_
    refine W.widen (k := 0) (n := 0) (Nat.le_of_ble_eq_true rfl) (Nat.le_of_ble_eq_true rfl) ?_
    exact tj_L_replica_414 hfl hC hr hlocks hE hy1  h hM hS (lv_sub hl [0, 1, 2, 3, 5, 6, 7] rfl)
  · have h := ifn c1 h
    refine lv_iconst (v := 1) hx hb dL_replica_409 (by decide) ?_
    refine lv_goto (tgt := 414) hx hb dL_replica_410 (by decide) ?_
    refine W.widen (k := 0) (n := 0) (Nat.le_of_ble_eq_true rfl) (Nat.le_of_ble_eq_true rfl) ?_
    exact tj_L_replica_414 hfl hC hr hlocks hE hy1  h hM hS (lv_sub hl [0, 1, 2, 3, 5, 6, 7] rfl)
noncomputable def fj_L_replica_376 (x0 : Nat) (x1 : Int32) (x2 : Int32) (x3 : Int32) (x4 : Int32) (x6 : Int32) (x8 : Int32) (x9 : Int32) (s0 : Int32) (s1 : Int32) (M : Mem) : Option ((Int32 × Int32 × Int32 × Mem) ⊕ ((Int32 × Int32 × Int32 × Mem) ⊕ (Int32 × Mem))) :=
  bq (cK 5 x0 M (f_X4_entryValue x0 x1 x6 x9 M)) fun v23 M24 =>
  some (.inl (s0 + s1, (if x8 < v23 then v23 else x8), x9 + 1, M24))
set_option maxHeartbeats 4000000 in
set_option maxRecDepth 100000 in
theorem tj_L_replica_376 {p : Program} {l : Launch} {e : Env} {s : State} {m : MethodId} {args : Array Value} {below : List Frame} {meth : Method} {c : Code} {E : KEnv} {H : Heap} {locs : List Loc} {ls : Array Slot} {x0 : Nat} {x1 : Int32} {x2 : Int32} {x3 : Int32} {x4 : Int32} {x6 : Int32} {x8 : Int32} {x9 : Int32} {s0 : Int32} {s1 : Int32} {y1 : ((Int32 × Int32 × Int32 × Mem) ⊕ (Int32 × Mem))} {y2 : ((Int32 × Int32 × Int32 × Mem) ⊕ ((Int32 × Int32 × Int32 × Mem) ⊕ (Int32 × Mem)))} {M : Mem} {v : Int32} {M' : Mem} (hfl : l.stackTraces = false) (hC : CallFix p m c cL_replica 10 s args lw_G RL) (hr : meth.sig.returnType = (some .boolean)) (hlocks : meth.locks = false) (hE : EnvOK E s) (hy1 : (∀ q : (Int32 × Int32 × Int32 × Mem), y1 = .inl q → ∀ (H : Heap) (locs : List Loc) (ls : Array Slot), MOK E (q.2.2.2) H → va_S (eA E) s.heap H locs → lv_has ls 10 [(0, .ref x0), (1, .int x1), (2, .int x2), (3, .int x3), (4, .int q.1), (5, .int q.2.1), (6, .int q.2.2.1)] → W p l e rm_L_replica s m args below meth c H locs 0 0 (MQ below (cQ E (some (.int v)) M') args s 2 12 (eA E)) (F0 m 328 ls [])) ∧ ∀ z, y1 = .inr z → z = (v, M')) (hy2 : (∀ q : (Int32 × Int32 × Int32 × Mem), y2 = .inl q → ∀ (H : Heap) (locs : List Loc) (ls : Array Slot), MOK E (q.2.2.2) H → va_S (eA E) s.heap H locs → lv_has ls 10 [(0, .ref x0), (1, .int x1), (2, .int x2), (3, .int x3), (4, .int x4), (6, .int x6), (7, .int q.1), (8, .int q.2.1), (9, .int q.2.2.1)] → W p l e rm_L_replica s m args below meth c H locs 0 0 (MQ below (cQ E (some (.int v)) M') args s 2 12 (eA E)) (F0 m 351 ls [])) ∧ ∀ z, y2 = .inr z → z = y1) (h : fj_L_replica_376 x0 x1 x2 x3 x4 x6 x8 x9 s0 s1 M = some y2) (hM : MOK E M H) (hS : va_S (eA E) s.heap H locs) (hl : lv_has ls 10 [(0, .ref x0), (1, .int x1), (2, .int x2), (3, .int x3), (4, .int x4), (6, .int x6), (8, .int x8), (9, .int x9)]) : W p l e rm_L_replica s m args below meth c H locs 0 0 (MQ below (cQ E (some (.int v)) M') args s 2 12 (eA E)) (F0 m 376 ls [.int s1, .int s0]) := by
  obtain ⟨hx, hb, hml, hown, hts⟩ := id hC
  unfold fj_L_replica_376 at h
  refine lv_iadd hx hb dL_replica_376 ?_
  refine lv_istore (lv' := [(7, .int (s0 + s1)), (0, .ref x0), (1, .int x1), (2, .int x2), (3, .int x3), (4, .int x4), (6, .int x6), (8, .int x8), (9, .int x9)]) hx hb dL_replica_377 hl (by decide) rfl (fun ls hl => ?_)
  refine lv_iload hx hb dL_replica_379 (lv_at hl 7 rfl) ?_
  refine lv_aload_n hx hb dL_replica_381 rfl (lv_at hl 1 rfl) ?_
  refine lv_iload_n hx hb dL_replica_382 rfl (lv_at hl 2 rfl) ?_
  refine lv_iload hx hb dL_replica_383 (lv_at hl 6 rfl) ?_
  refine lv_iload hx hb dL_replica_385 (lv_at hl 8 rfl) ?_
  obtain ⟨v23, M24, h1, h⟩ := obq h
  obtain ⟨hk1, h1⟩ := ifg h1
  refine kV1 (ci := 4) (As := [.int x1, .int x6, .int x9]) (rest := [.int x8]) hC hE hS hM (mq_X4_entryValue _ E x0 x1 x6 x9 _ _ _ h1) (gwV qw_1027 qw_1028 qw_1029 qw_39 qw_1030) ⟨rfl, rfl, (Nat.le_of_ble_eq_true rfl), (Nat.le_of_ble_eq_true rfl)⟩ dd_X4_entryValue rfl hk1 rfl rfl hl.1 (Nat.le_of_ble_eq_true rfl) dL_replica_387 ⟨(Nat.le_of_ble_eq_true rfl), (Nat.le_of_ble_eq_true rfl)⟩ (fun H locs hM hS => ?_)
  refine va_mmax hx hb (hml.trans hl.1.symm) hown (hts _ qw_1080) (hts _ qw_375) (hts _ qw_48) (hts _ qw_376) (Nat.le_of_ble_eq_true rfl) (Nat.le_of_ble_eq_true rfl) (Nat.le_of_ble_eq_true rfl) (Nat.le_of_ble_eq_true rfl) dL_replica_390 ?_
  refine lv_istore (lv' := [(8, .int (if x8 < v23 then v23 else x8)), (7, .int (s0 + s1)), (0, .ref x0), (1, .int x1), (2, .int x2), (3, .int x3), (4, .int x4), (6, .int x6), (9, .int x9)]) hx hb dL_replica_393 hl (by decide) rfl (fun ls hl => ?_)
  refine lv_iinc (v := x9 + 1) (lv' := [(9, .int (x9 + 1)), (8, .int (if x8 < v23 then v23 else x8)), (7, .int (s0 + s1)), (0, .ref x0), (1, .int x1), (2, .int x2), (3, .int x3), (4, .int x4), (6, .int x6)]) hx hb dL_replica_395 hl (k := 8) rfl rfl (by decide) rfl (fun ls hl => ?_)
  refine lv_goto (tgt := 351) hx hb dL_replica_398 (by decide) ?_
  cases h
  exact hy2.1 _ rfl _ _ _ hM hS (lv_sub hl [3, 4, 5, 6, 7, 8, 2, 1, 0] rfl)
noncomputable def fc_L_replica_351 (x0 : Nat) (x1 : Int32) (x2 : Int32) (x3 : Int32) (x4 : Int32) (x6 : Int32) (x7 : Int32) (x8 : Int32) (x9 : Int32) (M : Mem) : Option ((Int32 × Int32 × Int32 × Mem) ⊕ ((Int32 × Int32 × Int32 × Mem) ⊕ (Int32 × Mem))) :=
  (if x2 ≤ x9 then
  (fj_L_replica_401 x0 x1 x2 x3 x4 x6 x7 x8 M).map Sum.inr
  else
  bq (cK 5 x0 M (f_X4_entryValue x0 x1 x6 x9 M)) fun v21 M22 =>
  (if v21 < 0 then
  fj_L_replica_376 x0 x1 x2 x3 x4 x6 x8 x9 x7 0 M22
  else
  fj_L_replica_376 x0 x1 x2 x3 x4 x6 x8 x9 x7 1 M22))
noncomputable def fj_L_replica_351 (x0 : Nat) (x1 : Int32) (x2 : Int32) (x3 : Int32) (x4 : Int32) (x6 : Int32) (x7 : Int32) (x8 : Int32) (x9 : Int32) (M : Mem) : Option ((Int32 × Int32 × Int32 × Mem) ⊕ (Int32 × Mem)) := loopM (fun q : (Int32 × Int32 × Int32 × Mem) => fc_L_replica_351 x0 x1 x2 x3 x4 x6 q.1 q.2.1 q.2.2.1 q.2.2.2) FU (x7, x8, x9, M)
set_option maxHeartbeats 4000000 in
set_option maxRecDepth 100000 in
theorem tj_L_replica_351 {p : Program} {l : Launch} {e : Env} {s : State} {m : MethodId} {args : Array Value} {below : List Frame} {meth : Method} {c : Code} {E : KEnv} {H : Heap} {locs : List Loc} {ls : Array Slot} {x0 : Nat} {x1 : Int32} {x2 : Int32} {x3 : Int32} {x4 : Int32} {x6 : Int32} {x7 : Int32} {x8 : Int32} {x9 : Int32} {y1 : ((Int32 × Int32 × Int32 × Mem) ⊕ (Int32 × Mem))} {M : Mem} {v : Int32} {M' : Mem} (hfl : l.stackTraces = false) (hC : CallFix p m c cL_replica 10 s args lw_G RL) (hr : meth.sig.returnType = (some .boolean)) (hlocks : meth.locks = false) (hE : EnvOK E s) (hy1 : (∀ q : (Int32 × Int32 × Int32 × Mem), y1 = .inl q → ∀ (H : Heap) (locs : List Loc) (ls : Array Slot), MOK E (q.2.2.2) H → va_S (eA E) s.heap H locs → lv_has ls 10 [(0, .ref x0), (1, .int x1), (2, .int x2), (3, .int x3), (4, .int q.1), (5, .int q.2.1), (6, .int q.2.2.1)] → W p l e rm_L_replica s m args below meth c H locs 0 0 (MQ below (cQ E (some (.int v)) M') args s 2 12 (eA E)) (F0 m 328 ls [])) ∧ ∀ z, y1 = .inr z → z = (v, M')) (h : fj_L_replica_351 x0 x1 x2 x3 x4 x6 x7 x8 x9 M = some y1) (hM : MOK E M H) (hS : va_S (eA E) s.heap H locs) (hl : lv_has ls 10 [(0, .ref x0), (1, .int x1), (2, .int x2), (3, .int x3), (4, .int x4), (6, .int x6), (7, .int x7), (8, .int x8), (9, .int x9)]) : W p l e rm_L_replica s m args below meth c H locs 0 0 (MQ below (cQ E (some (.int v)) M') args s 2 12 (eA E)) (F0 m 351 ls []) := by
  refine loopM_ind (body := fun q : (Int32 × Int32 × Int32 × Mem) => fc_L_replica_351 x0 x1 x2 x3 x4 x6 q.1 q.2.1 q.2.2.1 q.2.2.2) (x0 := y1) (Wd := fun q : (Int32 × Int32 × Int32 × Mem) => ∀ (H : Heap) (locs : List Loc) (ls : Array Slot), MOK E (q.2.2.2) H → va_S (eA E) s.heap H locs → lv_has ls 10 [(0, .ref x0), (1, .int x1), (2, .int x2), (3, .int x3), (4, .int x4), (6, .int x6), (7, .int q.1), (8, .int q.2.1), (9, .int q.2.2.1)] → W p l e rm_L_replica s m args below meth c H locs 0 0 (MQ below (cQ E (some (.int v)) M') args s 2 12 (eA E)) (F0 m 351 ls [])) ?_ FU (x7, x8, x9, M) h H locs ls hM hS hl
  clear h hM hS hl H locs ls M x7 x8 x9
  obtain ⟨hx, hb, hml, hown, hts⟩ := id hC
  intro q y2 h hy2 H locs ls hM hS hl
  obtain ⟨x7, x8, x9, M⟩ := q
  have h : fc_L_replica_351 x0 x1 x2 x3 x4 x6 x7 x8 x9 M = some y2 := h
  have hM : MOK E M H := hM
  have hl : lv_has ls 10 [(0, .ref x0), (1, .int x1), (2, .int x2), (3, .int x3), (4, .int x4), (6, .int x6), (7, .int x7), (8, .int x8), (9, .int x9)] := hl
  unfold fc_L_replica_351 at h
  show W p l e rm_L_replica s m args below meth c H locs _ _ _ _
  refine lv_iload hx hb dL_replica_351 (lv_at hl 8 rfl) ?_
  refine lv_iload_n hx hb dL_replica_353 rfl (lv_at hl 2 rfl) ?_
  refine lv_icmp_ge (tgt := 401) hx hb dL_replica_354 (by decide) (fun c1 => ?_) (fun c1 => ?_)
  · have h := ifp c1 h
    obtain ⟨z0, h9, rfl⟩ := om h
    have e0 := hy2.2 _ rfl
    subst e0
    have h := h9
    refine W.widen (k := 0) (n := 0) (Nat.le_of_ble_eq_true rfl) (Nat.le_of_ble_eq_true rfl) ?_
    exact tj_L_replica_401 hfl hC hr hlocks hE hy1  h hM hS (lv_sub hl [0, 1, 2, 3, 4, 5, 6, 7] rfl)
  · have h := ifn c1 h
    refine lv_iload hx hb dL_replica_357 (lv_at hl 6 rfl) ?_
    refine lv_aload_n hx hb dL_replica_359 rfl (lv_at hl 0 rfl) ?_
    refine lv_iload_n hx hb dL_replica_360 rfl (lv_at hl 1 rfl) ?_
    refine lv_iload hx hb dL_replica_361 (lv_at hl 5 rfl) ?_
    refine lv_iload hx hb dL_replica_363 (lv_at hl 8 rfl) ?_
    obtain ⟨v21, M22, h1, h⟩ := obq h
    obtain ⟨hk1, h1⟩ := ifg h1
    refine kV1 (ci := 4) (As := [.int x1, .int x6, .int x9]) (rest := [.int x7]) hC hE hS hM (mq_X4_entryValue _ E x0 x1 x6 x9 _ _ _ h1) (gwV qw_1027 qw_1028 qw_1029 qw_39 qw_1030) ⟨rfl, rfl, (Nat.le_of_ble_eq_true rfl), (Nat.le_of_ble_eq_true rfl)⟩ dd_X4_entryValue rfl hk1 rfl rfl hl.1 (Nat.le_of_ble_eq_true rfl) dL_replica_365 ⟨(Nat.le_of_ble_eq_true rfl), (Nat.le_of_ble_eq_true rfl)⟩ (fun H locs hM hS => ?_)
    refine lv_if_lt (tgt := 375) hx hb dL_replica_368 (by decide) (fun c1 => ?_) (fun c1 => ?_)
    · have h := ifp c1 h
      refine lv_iconst (v := 0) hx hb dL_replica_375 (by decide) ?_
      refine W.widen (k := 0) (n := 0) (Nat.le_of_ble_eq_true rfl) (Nat.le_of_ble_eq_true rfl) ?_
      exact tj_L_replica_376 hfl hC hr hlocks hE hy1 hy2  h hM hS (lv_sub hl [0, 1, 2, 3, 4, 5, 7, 8] rfl)
    · have h := ifn c1 h
      refine lv_iconst (v := 1) hx hb dL_replica_371 (by decide) ?_
      refine lv_goto (tgt := 376) hx hb dL_replica_372 (by decide) ?_
      refine W.widen (k := 0) (n := 0) (Nat.le_of_ble_eq_true rfl) (Nat.le_of_ble_eq_true rfl) ?_
      exact tj_L_replica_376 hfl hC hr hlocks hE hy1 hy2  h hM hS (lv_sub hl [0, 1, 2, 3, 4, 5, 7, 8] rfl)
noncomputable def fc_L_replica_328 (x0 : Nat) (x1 : Int32) (x2 : Int32) (x3 : Int32) (x4 : Int32) (x5 : Int32) (x6 : Int32) (M : Mem) : Option ((Int32 × Int32 × Int32 × Mem) ⊕ (Int32 × Mem)) :=
  bn (cK 5 x0 M (f_X4_registerCount x0 M)) fun v5 M6 =>
  (if v5 ≤ x6 then
  (fj_L_replica_454 x0 x1 x2 x3 x4 x5 M6).map Sum.inr
  else
  (if x5 = 0 then
  (fj_L_replica_454 x0 x1 x2 x3 x4 x5 M6).map Sum.inr
  else
  fj_L_replica_351 x0 x1 x2 x3 x4 x6 0 (-1) 0 M6))
noncomputable def fj_L_replica_328 (x0 : Nat) (x1 : Int32) (x2 : Int32) (x3 : Int32) (x4 : Int32) (x5 : Int32) (x6 : Int32) (M : Mem) : Option (Int32 × Mem) := loopM (fun q : (Int32 × Int32 × Int32 × Mem) => fc_L_replica_328 x0 x1 x2 x3 q.1 q.2.1 q.2.2.1 q.2.2.2) FU (x4, x5, x6, M)
set_option maxHeartbeats 4000000 in
set_option maxRecDepth 100000 in
theorem tj_L_replica_328 {p : Program} {l : Launch} {e : Env} {s : State} {m : MethodId} {args : Array Value} {below : List Frame} {meth : Method} {c : Code} {E : KEnv} {H : Heap} {locs : List Loc} {ls : Array Slot} {x0 : Nat} {x1 : Int32} {x2 : Int32} {x3 : Int32} {x4 : Int32} {x5 : Int32} {x6 : Int32} {M : Mem} {v : Int32} {M' : Mem} (hfl : l.stackTraces = false) (hC : CallFix p m c cL_replica 10 s args lw_G RL) (hr : meth.sig.returnType = (some .boolean)) (hlocks : meth.locks = false) (hE : EnvOK E s) (h : fj_L_replica_328 x0 x1 x2 x3 x4 x5 x6 M = some (v, M')) (hM : MOK E M H) (hS : va_S (eA E) s.heap H locs) (hl : lv_has ls 10 [(0, .ref x0), (1, .int x1), (2, .int x2), (3, .int x3), (4, .int x4), (5, .int x5), (6, .int x6)]) : W p l e rm_L_replica s m args below meth c H locs 0 0 (MQ below (cQ E (some (.int v)) M') args s 2 12 (eA E)) (F0 m 328 ls []) := by
  refine loopM_ind (body := fun q : (Int32 × Int32 × Int32 × Mem) => fc_L_replica_328 x0 x1 x2 x3 q.1 q.2.1 q.2.2.1 q.2.2.2) (x0 := (v, M')) (Wd := fun q : (Int32 × Int32 × Int32 × Mem) => ∀ (H : Heap) (locs : List Loc) (ls : Array Slot), MOK E (q.2.2.2) H → va_S (eA E) s.heap H locs → lv_has ls 10 [(0, .ref x0), (1, .int x1), (2, .int x2), (3, .int x3), (4, .int q.1), (5, .int q.2.1), (6, .int q.2.2.1)] → W p l e rm_L_replica s m args below meth c H locs 0 0 (MQ below (cQ E (some (.int v)) M') args s 2 12 (eA E)) (F0 m 328 ls [])) ?_ FU (x4, x5, x6, M) h H locs ls hM hS hl
  clear h hM hS hl H locs ls M x4 x5 x6
  obtain ⟨hx, hb, hml, hown, hts⟩ := id hC
  intro q y1 h hy1 H locs ls hM hS hl
  obtain ⟨x4, x5, x6, M⟩ := q
  have h : fc_L_replica_328 x0 x1 x2 x3 x4 x5 x6 M = some y1 := h
  have hM : MOK E M H := hM
  have hl : lv_has ls 10 [(0, .ref x0), (1, .int x1), (2, .int x2), (3, .int x3), (4, .int x4), (5, .int x5), (6, .int x6)] := hl
  unfold fc_L_replica_328 at h
  show W p l e rm_L_replica s m args below meth c H locs _ _ _ _
  refine lv_iload hx hb dL_replica_328 (lv_at hl 6 rfl) ?_
  refine lv_aload_n hx hb dL_replica_330 rfl (lv_at hl 0 rfl) ?_
  obtain ⟨v5, M6, h1, h⟩ := ob2 h
  obtain ⟨hk1, h1⟩ := ifg h1
  refine kV1 (ci := 4) (As := []) (rest := [.int x6]) hC hE hS hM (mt_X4_registerCount _ E x0 _ _ _ h1) (gwV qw_1023 qw_1024 qw_1025 qw_39 qw_1026) ⟨rfl, rfl, (Nat.le_of_ble_eq_true rfl), (Nat.le_of_ble_eq_true rfl)⟩ dd_X4_registerCount rfl hk1 rfl rfl hl.1 (Nat.le_of_ble_eq_true rfl) dL_replica_331 ⟨(Nat.le_of_ble_eq_true rfl), (Nat.le_of_ble_eq_true rfl)⟩ (fun H locs hM hS => ?_)
  refine lv_icmp_ge (tgt := 454) hx hb dL_replica_334 (by decide) (fun c1 => ?_) (fun c1 => ?_)
  · have h := ifp c1 h
    obtain ⟨z0, h9, rfl⟩ := om h
    have e0 := hy1.2 _ rfl
    subst e0
    have h := h9
    refine W.widen (k := 0) (n := 0) (Nat.le_of_ble_eq_true rfl) (Nat.le_of_ble_eq_true rfl) ?_
    exact tj_L_replica_454 hfl hC hr hlocks hE  h hM hS (lv_sub hl [0, 1, 2, 3, 4, 5] rfl)
  · have h := ifn c1 h
    refine lv_iload hx hb dL_replica_337 (lv_at hl 5 rfl) ?_
    refine lv_if_eq (tgt := 454) hx hb dL_replica_339 (by decide) (fun c1 => ?_) (fun c1 => ?_)
    · have h := ifp c1 h
      obtain ⟨z0, h9, rfl⟩ := om h
      have e0 := hy1.2 _ rfl
      subst e0
      have h := h9
      refine W.widen (k := 0) (n := 0) (Nat.le_of_ble_eq_true rfl) (Nat.le_of_ble_eq_true rfl) ?_
      exact tj_L_replica_454 hfl hC hr hlocks hE  h hM hS (lv_sub hl [0, 1, 2, 3, 4, 5] rfl)
    · have h := ifn c1 h
      refine lv_iconst (v := 0) hx hb dL_replica_342 (by decide) ?_
      refine lv_istore (lv' := [(7, .int 0), (0, .ref x0), (1, .int x1), (2, .int x2), (3, .int x3), (4, .int x4), (5, .int x5), (6, .int x6)]) hx hb dL_replica_343 hl (by decide) rfl (fun ls hl => ?_)
      refine lv_iconst (v := (-1)) hx hb dL_replica_345 (by decide) ?_
      refine lv_istore (lv' := [(8, .int (-1)), (7, .int 0), (0, .ref x0), (1, .int x1), (2, .int x2), (3, .int x3), (4, .int x4), (5, .int x5), (6, .int x6)]) hx hb dL_replica_346 hl (by decide) rfl (fun ls hl => ?_)
      refine lv_iconst (v := 0) hx hb dL_replica_348 (by decide) ?_
      refine lv_istore (lv' := [(9, .int 0), (8, .int (-1)), (7, .int 0), (0, .ref x0), (1, .int x1), (2, .int x2), (3, .int x3), (4, .int x4), (5, .int x5), (6, .int x6)]) hx hb dL_replica_349 hl (by decide) rfl (fun ls hl => ?_)
      refine W.widen (k := 0) (n := 0) (Nat.le_of_ble_eq_true rfl) (Nat.le_of_ble_eq_true rfl) ?_
      exact tj_L_replica_351 hfl hC hr hlocks hE hy1  h hM hS (lv_sub hl [3, 4, 5, 6, 7, 9, 2, 1, 0] rfl)
noncomputable def fj_L_replica_325 (x0 : Nat) (x1 : Int32) (x2 : Int32) (x3 : Int32) (x4 : Int32) (x5 : Int32) (M : Mem) : Option (Int32 × Mem) :=
  fj_L_replica_328 x0 x1 x2 x3 x4 x5 0 M
set_option maxHeartbeats 4000000 in
set_option maxRecDepth 100000 in
theorem tj_L_replica_325 {p : Program} {l : Launch} {e : Env} {s : State} {m : MethodId} {args : Array Value} {below : List Frame} {meth : Method} {c : Code} {E : KEnv} {H : Heap} {locs : List Loc} {ls : Array Slot} {x0 : Nat} {x1 : Int32} {x2 : Int32} {x3 : Int32} {x4 : Int32} {x5 : Int32} {M : Mem} {v : Int32} {M' : Mem} (hfl : l.stackTraces = false) (hC : CallFix p m c cL_replica 10 s args lw_G RL) (hr : meth.sig.returnType = (some .boolean)) (hlocks : meth.locks = false) (hE : EnvOK E s) (h : fj_L_replica_325 x0 x1 x2 x3 x4 x5 M = some (v, M')) (hM : MOK E M H) (hS : va_S (eA E) s.heap H locs) (hl : lv_has ls 10 [(0, .ref x0), (1, .int x1), (2, .int x2), (3, .int x3), (4, .int x4), (5, .int x5)]) : W p l e rm_L_replica s m args below meth c H locs 0 0 (MQ below (cQ E (some (.int v)) M') args s 2 12 (eA E)) (F0 m 325 ls []) := by
  obtain ⟨hx, hb, hml, hown, hts⟩ := id hC
  unfold fj_L_replica_325 at h
  refine lv_iconst (v := 0) hx hb dL_replica_325 (by decide) ?_
  refine lv_istore (lv' := [(6, .int 0), (0, .ref x0), (1, .int x1), (2, .int x2), (3, .int x3), (4, .int x4), (5, .int x5)]) hx hb dL_replica_326 hl (by decide) rfl (fun ls hl => ?_)
  refine W.widen (k := 0) (n := 0) (Nat.le_of_ble_eq_true rfl) (Nat.le_of_ble_eq_true rfl) ?_
  exact tj_L_replica_328 hfl hC hr hlocks hE  h hM hS (lv_sub hl [1, 2, 3, 4, 5, 6, 0] rfl)
noncomputable def fj_L_replica_317 (x0 : Nat) (x1 : Int32) (x2 : Int32) (x4 : Int32) (x5 : Int32) (x6 : Int32) (s0 : Int32) (s1 : Int32) (M : Mem) : Option ((Int32 × Int32 × Int32 × Mem) ⊕ (Int32 × Mem)) :=
  some (.inl (s0 + s1, x5, x6 + 1, M))
set_option maxHeartbeats 4000000 in
set_option maxRecDepth 100000 in
theorem tj_L_replica_317 {p : Program} {l : Launch} {e : Env} {s : State} {m : MethodId} {args : Array Value} {below : List Frame} {meth : Method} {c : Code} {E : KEnv} {H : Heap} {locs : List Loc} {ls : Array Slot} {x0 : Nat} {x1 : Int32} {x2 : Int32} {x4 : Int32} {x5 : Int32} {x6 : Int32} {s0 : Int32} {s1 : Int32} {y1 : ((Int32 × Int32 × Int32 × Mem) ⊕ (Int32 × Mem))} {M : Mem} {v : Int32} {M' : Mem} (hfl : l.stackTraces = false) (hC : CallFix p m c cL_replica 10 s args lw_G RL) (hr : meth.sig.returnType = (some .boolean)) (hlocks : meth.locks = false) (hE : EnvOK E s) (hy1 : (∀ q : (Int32 × Int32 × Int32 × Mem), y1 = .inl q → ∀ (H : Heap) (locs : List Loc) (ls : Array Slot), MOK E (q.2.2.2) H → va_S (eA E) s.heap H locs → lv_has ls 10 [(0, .ref x0), (1, .int x1), (2, .int x2), (4, .int x4), (3, .int q.1), (5, .int q.2.1), (6, .int q.2.2.1)] → W p l e rm_L_replica s m args below meth c H locs 0 0 (MQ below (cQ E (some (.int v)) M') args s 2 12 (eA E)) (F0 m 161 ls [])) ∧ ∀ z, y1 = .inr z → z = (v, M')) (h : fj_L_replica_317 x0 x1 x2 x4 x5 x6 s0 s1 M = some y1) (hM : MOK E M H) (hS : va_S (eA E) s.heap H locs) (hl : lv_has ls 10 [(0, .ref x0), (1, .int x1), (2, .int x2), (4, .int x4), (5, .int x5), (6, .int x6)]) : W p l e rm_L_replica s m args below meth c H locs 0 0 (MQ below (cQ E (some (.int v)) M') args s 2 12 (eA E)) (F0 m 317 ls [.int s1, .int s0]) := by
  obtain ⟨hx, hb, hml, hown, hts⟩ := id hC
  unfold fj_L_replica_317 at h
  refine lv_iadd hx hb dL_replica_317 ?_
  refine lv_istore_n (lv' := [(3, .int (s0 + s1)), (0, .ref x0), (1, .int x1), (2, .int x2), (4, .int x4), (5, .int x5), (6, .int x6)]) hx hb dL_replica_318 rfl hl (by decide) rfl (fun ls hl => ?_)
  refine lv_iinc (v := x6 + 1) (lv' := [(6, .int (x6 + 1)), (3, .int (s0 + s1)), (0, .ref x0), (1, .int x1), (2, .int x2), (4, .int x4), (5, .int x5)]) hx hb dL_replica_319 hl (k := 6) rfl rfl (by decide) rfl (fun ls hl => ?_)
  refine lv_goto (tgt := 161) hx hb dL_replica_322 (by decide) ?_
  cases h
  exact hy1.1 _ rfl _ _ _ hM hS (lv_sub hl [2, 3, 4, 5, 1, 6, 0] rfl)
noncomputable def fj_L_replica_304 (x0 : Nat) (x1 : Int32) (x2 : Int32) (x3 : Int32) (x4 : Int32) (x6 : Int32) (x7 : Int32) (s0 : Int32) (M : Mem) : Option ((Int32 × Int32 × Int32 × Mem) ⊕ (Int32 × Mem)) :=
  (if x7 ≤ 0 then
  fj_L_replica_317 x0 x1 x2 x4 s0 x6 x3 0 M
  else
  fj_L_replica_317 x0 x1 x2 x4 s0 x6 x3 1 M)
set_option maxHeartbeats 4000000 in
set_option maxRecDepth 100000 in
theorem tj_L_replica_304 {p : Program} {l : Launch} {e : Env} {s : State} {m : MethodId} {args : Array Value} {below : List Frame} {meth : Method} {c : Code} {E : KEnv} {H : Heap} {locs : List Loc} {ls : Array Slot} {x0 : Nat} {x1 : Int32} {x2 : Int32} {x3 : Int32} {x4 : Int32} {x6 : Int32} {x7 : Int32} {s0 : Int32} {y1 : ((Int32 × Int32 × Int32 × Mem) ⊕ (Int32 × Mem))} {M : Mem} {v : Int32} {M' : Mem} (hfl : l.stackTraces = false) (hC : CallFix p m c cL_replica 10 s args lw_G RL) (hr : meth.sig.returnType = (some .boolean)) (hlocks : meth.locks = false) (hE : EnvOK E s) (hy1 : (∀ q : (Int32 × Int32 × Int32 × Mem), y1 = .inl q → ∀ (H : Heap) (locs : List Loc) (ls : Array Slot), MOK E (q.2.2.2) H → va_S (eA E) s.heap H locs → lv_has ls 10 [(0, .ref x0), (1, .int x1), (2, .int x2), (4, .int x4), (3, .int q.1), (5, .int q.2.1), (6, .int q.2.2.1)] → W p l e rm_L_replica s m args below meth c H locs 0 0 (MQ below (cQ E (some (.int v)) M') args s 2 12 (eA E)) (F0 m 161 ls [])) ∧ ∀ z, y1 = .inr z → z = (v, M')) (h : fj_L_replica_304 x0 x1 x2 x3 x4 x6 x7 s0 M = some y1) (hM : MOK E M H) (hS : va_S (eA E) s.heap H locs) (hl : lv_has ls 10 [(0, .ref x0), (1, .int x1), (2, .int x2), (3, .int x3), (4, .int x4), (6, .int x6), (7, .int x7)]) : W p l e rm_L_replica s m args below meth c H locs 0 0 (MQ below (cQ E (some (.int v)) M') args s 2 12 (eA E)) (F0 m 304 ls [.int s0]) := by
  obtain ⟨hx, hb, hml, hown, hts⟩ := id hC
  unfold fj_L_replica_304 at h
  refine lv_istore (lv' := [(5, .int s0), (0, .ref x0), (1, .int x1), (2, .int x2), (3, .int x3), (4, .int x4), (6, .int x6), (7, .int x7)]) hx hb dL_replica_304 hl (by decide) rfl (fun ls hl => ?_)
  refine lv_iload_n hx hb dL_replica_306 rfl (lv_at hl 4 rfl) ?_
  refine lv_iload hx hb dL_replica_307 (lv_at hl 7 rfl) ?_
  refine lv_if_le (tgt := 316) hx hb dL_replica_309 (by decide) (fun c1 => ?_) (fun c1 => ?_)
  · have h := ifp c1 h
    refine lv_iconst (v := 0) hx hb dL_replica_316 (by decide) ?_
    refine W.widen (k := 0) (n := 0) (Nat.le_of_ble_eq_true rfl) (Nat.le_of_ble_eq_true rfl) ?_
    exact tj_L_replica_317 hfl hC hr hlocks hE hy1  h hM hS (lv_sub hl [1, 2, 3, 5, 0, 6] rfl)
  · have h := ifn c1 h
    refine lv_iconst (v := 1) hx hb dL_replica_312 (by decide) ?_
    refine lv_goto (tgt := 317) hx hb dL_replica_313 (by decide) ?_
    refine W.widen (k := 0) (n := 0) (Nat.le_of_ble_eq_true rfl) (Nat.le_of_ble_eq_true rfl) ?_
    exact tj_L_replica_317 hfl hC hr hlocks hE hy1  h hM hS (lv_sub hl [1, 2, 3, 5, 0, 6] rfl)
noncomputable def fj_L_replica_303 (x0 : Nat) (x1 : Int32) (x2 : Int32) (x3 : Int32) (x4 : Int32) (x6 : Int32) (x7 : Int32) (M : Mem) : Option ((Int32 × Int32 × Int32 × Mem) ⊕ (Int32 × Mem)) :=
  fj_L_replica_304 x0 x1 x2 x3 x4 x6 x7 0 M
set_option maxHeartbeats 4000000 in
set_option maxRecDepth 100000 in
theorem tj_L_replica_303 {p : Program} {l : Launch} {e : Env} {s : State} {m : MethodId} {args : Array Value} {below : List Frame} {meth : Method} {c : Code} {E : KEnv} {H : Heap} {locs : List Loc} {ls : Array Slot} {x0 : Nat} {x1 : Int32} {x2 : Int32} {x3 : Int32} {x4 : Int32} {x6 : Int32} {x7 : Int32} {y1 : ((Int32 × Int32 × Int32 × Mem) ⊕ (Int32 × Mem))} {M : Mem} {v : Int32} {M' : Mem} (hfl : l.stackTraces = false) (hC : CallFix p m c cL_replica 10 s args lw_G RL) (hr : meth.sig.returnType = (some .boolean)) (hlocks : meth.locks = false) (hE : EnvOK E s) (hy1 : (∀ q : (Int32 × Int32 × Int32 × Mem), y1 = .inl q → ∀ (H : Heap) (locs : List Loc) (ls : Array Slot), MOK E (q.2.2.2) H → va_S (eA E) s.heap H locs → lv_has ls 10 [(0, .ref x0), (1, .int x1), (2, .int x2), (4, .int x4), (3, .int q.1), (5, .int q.2.1), (6, .int q.2.2.1)] → W p l e rm_L_replica s m args below meth c H locs 0 0 (MQ below (cQ E (some (.int v)) M') args s 2 12 (eA E)) (F0 m 161 ls [])) ∧ ∀ z, y1 = .inr z → z = (v, M')) (h : fj_L_replica_303 x0 x1 x2 x3 x4 x6 x7 M = some y1) (hM : MOK E M H) (hS : va_S (eA E) s.heap H locs) (hl : lv_has ls 10 [(0, .ref x0), (1, .int x1), (2, .int x2), (3, .int x3), (4, .int x4), (6, .int x6), (7, .int x7)]) : W p l e rm_L_replica s m args below meth c H locs 0 0 (MQ below (cQ E (some (.int v)) M') args s 2 12 (eA E)) (F0 m 303 ls []) := by
  obtain ⟨hx, hb, hml, hown, hts⟩ := id hC
  unfold fj_L_replica_303 at h
  refine lv_iconst (v := 0) hx hb dL_replica_303 (by decide) ?_
  refine W.widen (k := 0) (n := 0) (Nat.le_of_ble_eq_true rfl) (Nat.le_of_ble_eq_true rfl) ?_
  exact tj_L_replica_304 hfl hC hr hlocks hE hy1  h hM hS (lv_sub hl [0, 1, 2, 3, 4, 5, 6] rfl)
noncomputable def fj_L_replica_299 (x0 : Nat) (x1 : Int32) (x2 : Int32) (x3 : Int32) (x4 : Int32) (x6 : Int32) (x7 : Int32) (M : Mem) : Option ((Int32 × Int32 × Int32 × Mem) ⊕ (Int32 × Mem)) :=
  fj_L_replica_304 x0 x1 x2 x3 x4 x6 x7 1 M
set_option maxHeartbeats 4000000 in
set_option maxRecDepth 100000 in
theorem tj_L_replica_299 {p : Program} {l : Launch} {e : Env} {s : State} {m : MethodId} {args : Array Value} {below : List Frame} {meth : Method} {c : Code} {E : KEnv} {H : Heap} {locs : List Loc} {ls : Array Slot} {x0 : Nat} {x1 : Int32} {x2 : Int32} {x3 : Int32} {x4 : Int32} {x6 : Int32} {x7 : Int32} {y1 : ((Int32 × Int32 × Int32 × Mem) ⊕ (Int32 × Mem))} {M : Mem} {v : Int32} {M' : Mem} (hfl : l.stackTraces = false) (hC : CallFix p m c cL_replica 10 s args lw_G RL) (hr : meth.sig.returnType = (some .boolean)) (hlocks : meth.locks = false) (hE : EnvOK E s) (hy1 : (∀ q : (Int32 × Int32 × Int32 × Mem), y1 = .inl q → ∀ (H : Heap) (locs : List Loc) (ls : Array Slot), MOK E (q.2.2.2) H → va_S (eA E) s.heap H locs → lv_has ls 10 [(0, .ref x0), (1, .int x1), (2, .int x2), (4, .int x4), (3, .int q.1), (5, .int q.2.1), (6, .int q.2.2.1)] → W p l e rm_L_replica s m args below meth c H locs 0 0 (MQ below (cQ E (some (.int v)) M') args s 2 12 (eA E)) (F0 m 161 ls [])) ∧ ∀ z, y1 = .inr z → z = (v, M')) (h : fj_L_replica_299 x0 x1 x2 x3 x4 x6 x7 M = some y1) (hM : MOK E M H) (hS : va_S (eA E) s.heap H locs) (hl : lv_has ls 10 [(0, .ref x0), (1, .int x1), (2, .int x2), (3, .int x3), (4, .int x4), (6, .int x6), (7, .int x7)]) : W p l e rm_L_replica s m args below meth c H locs 0 0 (MQ below (cQ E (some (.int v)) M') args s 2 12 (eA E)) (F0 m 299 ls []) := by
  obtain ⟨hx, hb, hml, hown, hts⟩ := id hC
  unfold fj_L_replica_299 at h
  refine lv_iconst (v := 1) hx hb dL_replica_299 (by decide) ?_
  refine lv_goto (tgt := 304) hx hb dL_replica_300 (by decide) ?_
  refine W.widen (k := 0) (n := 0) (Nat.le_of_ble_eq_true rfl) (Nat.le_of_ble_eq_true rfl) ?_
  exact tj_L_replica_304 hfl hC hr hlocks hE hy1  h hM hS (lv_sub hl [0, 1, 2, 3, 4, 5, 6] rfl)
noncomputable def fj_L_replica_280 (x0 : Nat) (x1 : Int32) (x2 : Int32) (x3 : Int32) (x4 : Int32) (x6 : Int32) (x7 : Int32) (s0 : Int32) (s1 : Int32) (M : Mem) : Option ((Int32 × Int32 × Int32 × Mem) ⊕ (Int32 × Mem)) :=
  (if s0 = s1 then
  (if x7 = 0 then
  fj_L_replica_299 x0 x1 x2 x3 x4 x6 x7 M
  else
  bn (f_L_tagAt_i x0 x1 x3 M) fun v30 M31 =>
  (if v30 = x6 then
  fj_L_replica_299 x0 x1 x2 x3 x4 x6 x7 M31
  else
  fj_L_replica_303 x0 x1 x2 x3 x4 x6 x7 M31))
  else
  fj_L_replica_303 x0 x1 x2 x3 x4 x6 x7 M)
set_option maxHeartbeats 4000000 in
set_option maxRecDepth 100000 in
theorem tj_L_replica_280 {p : Program} {l : Launch} {e : Env} {s : State} {m : MethodId} {args : Array Value} {below : List Frame} {meth : Method} {c : Code} {E : KEnv} {H : Heap} {locs : List Loc} {ls : Array Slot} {x0 : Nat} {x1 : Int32} {x2 : Int32} {x3 : Int32} {x4 : Int32} {x6 : Int32} {x7 : Int32} {s0 : Int32} {s1 : Int32} {y1 : ((Int32 × Int32 × Int32 × Mem) ⊕ (Int32 × Mem))} {M : Mem} {v : Int32} {M' : Mem} (hfl : l.stackTraces = false) (hC : CallFix p m c cL_replica 10 s args lw_G RL) (hr : meth.sig.returnType = (some .boolean)) (hlocks : meth.locks = false) (hE : EnvOK E s) (hy1 : (∀ q : (Int32 × Int32 × Int32 × Mem), y1 = .inl q → ∀ (H : Heap) (locs : List Loc) (ls : Array Slot), MOK E (q.2.2.2) H → va_S (eA E) s.heap H locs → lv_has ls 10 [(0, .ref x0), (1, .int x1), (2, .int x2), (4, .int x4), (3, .int q.1), (5, .int q.2.1), (6, .int q.2.2.1)] → W p l e rm_L_replica s m args below meth c H locs 0 0 (MQ below (cQ E (some (.int v)) M') args s 2 12 (eA E)) (F0 m 161 ls [])) ∧ ∀ z, y1 = .inr z → z = (v, M')) (h : fj_L_replica_280 x0 x1 x2 x3 x4 x6 x7 s0 s1 M = some y1) (hM : MOK E M H) (hS : va_S (eA E) s.heap H locs) (hl : lv_has ls 10 [(0, .ref x0), (1, .int x1), (2, .int x2), (3, .int x3), (4, .int x4), (6, .int x6), (7, .int x7)]) : W p l e rm_L_replica s m args below meth c H locs 0 0 (MQ below (cQ E (some (.int v)) M') args s 2 12 (eA E)) (F0 m 280 ls [.int s1, .int s0]) := by
  obtain ⟨hx, hb, hml, hown, hts⟩ := id hC
  unfold fj_L_replica_280 at h
  refine lv_icmp_ne (tgt := 303) hx hb dL_replica_280 (by decide) (fun c1 => ?_) (fun c1 => ?_)
  · have h := ifn c1 h
    refine W.widen (k := 0) (n := 0) (Nat.le_of_ble_eq_true rfl) (Nat.le_of_ble_eq_true rfl) ?_
    exact tj_L_replica_303 hfl hC hr hlocks hE hy1  h hM hS (lv_sub hl [0, 1, 2, 3, 4, 5, 6] rfl)
  · have h := ifp c1 h
    refine lv_iload hx hb dL_replica_283 (lv_at hl 6 rfl) ?_
    refine lv_if_eq (tgt := 299) hx hb dL_replica_285 (by decide) (fun c1 => ?_) (fun c1 => ?_)
    · have h := ifp c1 h
      refine W.widen (k := 0) (n := 0) (Nat.le_of_ble_eq_true rfl) (Nat.le_of_ble_eq_true rfl) ?_
      exact tj_L_replica_299 hfl hC hr hlocks hE hy1  h hM hS (lv_sub hl [0, 1, 2, 3, 4, 5, 6] rfl)
    · have h := ifn c1 h
      refine lv_aload_n hx hb dL_replica_288 rfl (lv_at hl 0 rfl) ?_
      refine lv_iload_n hx hb dL_replica_289 rfl (lv_at hl 1 rfl) ?_
      refine lv_iload_n hx hb dL_replica_290 rfl (lv_at hl 3 rfl) ?_
      obtain ⟨v30, M31, h1, h⟩ := ob2 h
      refine kSW (As := [.ref x0, .int x1, .int x3]) (rest := []) hC hE hS hM (mt_L_tagAt_i _ E x0 x1 x3 _ _ _ h1) (gwSW qw_1068 qw_1069 qw_38 qz_L_tagAt) ⟨rfl, rfl, (Nat.le_of_ble_eq_true rfl), (Nat.le_of_ble_eq_true rfl)⟩ dd_L_tagAt_i rfl rfl hl.1 (Nat.le_of_ble_eq_true rfl) dL_replica_291 ⟨(Nat.le_of_ble_eq_true rfl), (Nat.le_of_ble_eq_true rfl)⟩ (fun H locs hM hS => ?_)
      refine lv_iload hx hb dL_replica_294 (lv_at hl 5 rfl) ?_
      refine lv_icmp_ne (tgt := 303) hx hb dL_replica_296 (by decide) (fun c1 => ?_) (fun c1 => ?_)
      · have h := ifn c1 h
        refine W.widen (k := 0) (n := 0) (Nat.le_of_ble_eq_true rfl) (Nat.le_of_ble_eq_true rfl) ?_
        exact tj_L_replica_303 hfl hC hr hlocks hE hy1  h hM hS (lv_sub hl [0, 1, 2, 3, 4, 5, 6] rfl)
      · have h := ifp c1 h
        refine W.widen (k := 0) (n := 0) (Nat.le_of_ble_eq_true rfl) (Nat.le_of_ble_eq_true rfl) ?_
        exact tj_L_replica_299 hfl hC hr hlocks hE hy1  h hM hS (lv_sub hl [0, 1, 2, 3, 4, 5, 6] rfl)
noncomputable def fj_L_replica_246 (x0 : Nat) (x1 : Int32) (x2 : Int32) (x3 : Int32) (x4 : Int32) (x5 : Int32) (x6 : Int32) (x7 : Int32) (M : Mem) : Option ((Int32 × Int32 × Int32 × Mem) ⊕ (Int32 × Mem)) :=
  (if x5 = 0 then
  fj_L_replica_303 x0 x1 x2 x3 x4 x6 x7 M
  else
  bq (cK 5 x0 M (f_X4_liveDots x0 x1 x6 M)) fun v26 M27 =>
  (if v26 = x7 then
  bq (cK 5 x0 M27 (f_X4_hasTag x0 x1 x6 M27)) fun v28 M29 =>
  (if x7 ≤ 0 then
  fj_L_replica_280 x0 x1 x2 x3 x4 x6 x7 v28 0 M29
  else
  fj_L_replica_280 x0 x1 x2 x3 x4 x6 x7 v28 1 M29)
  else
  fj_L_replica_303 x0 x1 x2 x3 x4 x6 x7 M27))
set_option maxHeartbeats 4000000 in
set_option maxRecDepth 100000 in
theorem tj_L_replica_246 {p : Program} {l : Launch} {e : Env} {s : State} {m : MethodId} {args : Array Value} {below : List Frame} {meth : Method} {c : Code} {E : KEnv} {H : Heap} {locs : List Loc} {ls : Array Slot} {x0 : Nat} {x1 : Int32} {x2 : Int32} {x3 : Int32} {x4 : Int32} {x5 : Int32} {x6 : Int32} {x7 : Int32} {y1 : ((Int32 × Int32 × Int32 × Mem) ⊕ (Int32 × Mem))} {M : Mem} {v : Int32} {M' : Mem} (hfl : l.stackTraces = false) (hC : CallFix p m c cL_replica 10 s args lw_G RL) (hr : meth.sig.returnType = (some .boolean)) (hlocks : meth.locks = false) (hE : EnvOK E s) (hy1 : (∀ q : (Int32 × Int32 × Int32 × Mem), y1 = .inl q → ∀ (H : Heap) (locs : List Loc) (ls : Array Slot), MOK E (q.2.2.2) H → va_S (eA E) s.heap H locs → lv_has ls 10 [(0, .ref x0), (1, .int x1), (2, .int x2), (4, .int x4), (3, .int q.1), (5, .int q.2.1), (6, .int q.2.2.1)] → W p l e rm_L_replica s m args below meth c H locs 0 0 (MQ below (cQ E (some (.int v)) M') args s 2 12 (eA E)) (F0 m 161 ls [])) ∧ ∀ z, y1 = .inr z → z = (v, M')) (h : fj_L_replica_246 x0 x1 x2 x3 x4 x5 x6 x7 M = some y1) (hM : MOK E M H) (hS : va_S (eA E) s.heap H locs) (hl : lv_has ls 10 [(0, .ref x0), (1, .int x1), (2, .int x2), (3, .int x3), (4, .int x4), (5, .int x5), (6, .int x6), (7, .int x7)]) : W p l e rm_L_replica s m args below meth c H locs 0 0 (MQ below (cQ E (some (.int v)) M') args s 2 12 (eA E)) (F0 m 246 ls []) := by
  obtain ⟨hx, hb, hml, hown, hts⟩ := id hC
  unfold fj_L_replica_246 at h
  refine lv_iload hx hb dL_replica_246 (lv_at hl 5 rfl) ?_
  refine lv_if_eq (tgt := 303) hx hb dL_replica_248 (by decide) (fun c1 => ?_) (fun c1 => ?_)
  · have h := ifp c1 h
    refine W.widen (k := 0) (n := 0) (Nat.le_of_ble_eq_true rfl) (Nat.le_of_ble_eq_true rfl) ?_
    exact tj_L_replica_303 hfl hC hr hlocks hE hy1  h hM hS (lv_sub hl [0, 1, 2, 3, 4, 6, 7] rfl)
  · have h := ifn c1 h
    refine lv_aload_n hx hb dL_replica_251 rfl (lv_at hl 0 rfl) ?_
    refine lv_iload_n hx hb dL_replica_252 rfl (lv_at hl 1 rfl) ?_
    refine lv_iload hx hb dL_replica_253 (lv_at hl 6 rfl) ?_
    obtain ⟨v26, M27, h1, h⟩ := obq h
    obtain ⟨hk1, h1⟩ := ifg h1
    refine kV1 (ci := 4) (As := [.int x1, .int x6]) (rest := []) hC hE hS hM (mq_X4_liveDots _ E x0 x1 x6 _ _ _ h1) (gwV qw_1059 qw_1060 qw_1061 qw_39 qw_1062) ⟨rfl, rfl, (Nat.le_of_ble_eq_true rfl), (Nat.le_of_ble_eq_true rfl)⟩ dd_X4_liveDots rfl hk1 rfl rfl hl.1 (Nat.le_of_ble_eq_true rfl) dL_replica_255 ⟨(Nat.le_of_ble_eq_true rfl), (Nat.le_of_ble_eq_true rfl)⟩ (fun H locs hM hS => ?_)
    refine lv_iload hx hb dL_replica_258 (lv_at hl 7 rfl) ?_
    refine lv_icmp_ne (tgt := 303) hx hb dL_replica_260 (by decide) (fun c1 => ?_) (fun c1 => ?_)
    · have h := ifn c1 h
      refine W.widen (k := 0) (n := 0) (Nat.le_of_ble_eq_true rfl) (Nat.le_of_ble_eq_true rfl) ?_
      exact tj_L_replica_303 hfl hC hr hlocks hE hy1  h hM hS (lv_sub hl [0, 1, 2, 3, 4, 6, 7] rfl)
    · have h := ifp c1 h
      refine lv_aload_n hx hb dL_replica_263 rfl (lv_at hl 0 rfl) ?_
      refine lv_iload_n hx hb dL_replica_264 rfl (lv_at hl 1 rfl) ?_
      refine lv_iload hx hb dL_replica_265 (lv_at hl 6 rfl) ?_
      obtain ⟨v28, M29, h1, h⟩ := obq h
      obtain ⟨hk1, h1⟩ := ifg h1
      refine kV1 (ci := 4) (As := [.int x1, .int x6]) (rest := []) hC hE hS hM (mq_X4_hasTag _ E x0 x1 x6 _ _ _ h1) (gwV qw_1063 qw_1064 qw_1065 qw_39 qw_1066) ⟨rfl, rfl, (Nat.le_of_ble_eq_true rfl), (Nat.le_of_ble_eq_true rfl)⟩ dd_X4_hasTag rfl hk1 rfl rfl hl.1 (Nat.le_of_ble_eq_true rfl) dL_replica_267 ⟨(Nat.le_of_ble_eq_true rfl), (Nat.le_of_ble_eq_true rfl)⟩ (fun H locs hM hS => ?_)
      refine lv_iload hx hb dL_replica_270 (lv_at hl 7 rfl) ?_
      refine lv_if_le (tgt := 279) hx hb dL_replica_272 (by decide) (fun c1 => ?_) (fun c1 => ?_)
      · have h := ifp c1 h
        refine lv_iconst (v := 0) hx hb dL_replica_279 (by decide) ?_
        refine W.widen (k := 0) (n := 0) (Nat.le_of_ble_eq_true rfl) (Nat.le_of_ble_eq_true rfl) ?_
        exact tj_L_replica_280 hfl hC hr hlocks hE hy1  h hM hS (lv_sub hl [0, 1, 2, 3, 4, 6, 7] rfl)
      · have h := ifn c1 h
        refine lv_iconst (v := 1) hx hb dL_replica_275 (by decide) ?_
        refine lv_goto (tgt := 280) hx hb dL_replica_276 (by decide) ?_
        refine W.widen (k := 0) (n := 0) (Nat.le_of_ble_eq_true rfl) (Nat.le_of_ble_eq_true rfl) ?_
        exact tj_L_replica_280 hfl hC hr hlocks hE hy1  h hM hS (lv_sub hl [0, 1, 2, 3, 4, 6, 7] rfl)
noncomputable def fj_L_replica_238 (x0 : Nat) (x1 : Int32) (x2 : Int32) (x3 : Int32) (x4 : Int32) (x6 : Int32) (x7 : Int32) (x8 : Int32) (s0 : Int32) (M : Mem) : Option ((Int32 × Int32 × Int32 × Mem) ⊕ ((Int32 × Int32 × Int32 × Mem) ⊕ (Int32 × Mem))) :=
  some (.inl (s0, x7, x8 + 1, M))
set_option maxHeartbeats 4000000 in
set_option maxRecDepth 100000 in
theorem tj_L_replica_238 {p : Program} {l : Launch} {e : Env} {s : State} {m : MethodId} {args : Array Value} {below : List Frame} {meth : Method} {c : Code} {E : KEnv} {H : Heap} {locs : List Loc} {ls : Array Slot} {x0 : Nat} {x1 : Int32} {x2 : Int32} {x3 : Int32} {x4 : Int32} {x6 : Int32} {x7 : Int32} {x8 : Int32} {s0 : Int32} {y1 : ((Int32 × Int32 × Int32 × Mem) ⊕ (Int32 × Mem))} {y2 : ((Int32 × Int32 × Int32 × Mem) ⊕ ((Int32 × Int32 × Int32 × Mem) ⊕ (Int32 × Mem)))} {M : Mem} {v : Int32} {M' : Mem} (hfl : l.stackTraces = false) (hC : CallFix p m c cL_replica 10 s args lw_G RL) (hr : meth.sig.returnType = (some .boolean)) (hlocks : meth.locks = false) (hE : EnvOK E s) (hy1 : (∀ q : (Int32 × Int32 × Int32 × Mem), y1 = .inl q → ∀ (H : Heap) (locs : List Loc) (ls : Array Slot), MOK E (q.2.2.2) H → va_S (eA E) s.heap H locs → lv_has ls 10 [(0, .ref x0), (1, .int x1), (2, .int x2), (4, .int x4), (3, .int q.1), (5, .int q.2.1), (6, .int q.2.2.1)] → W p l e rm_L_replica s m args below meth c H locs 0 0 (MQ below (cQ E (some (.int v)) M') args s 2 12 (eA E)) (F0 m 161 ls [])) ∧ ∀ z, y1 = .inr z → z = (v, M')) (hy2 : (∀ q : (Int32 × Int32 × Int32 × Mem), y2 = .inl q → ∀ (H : Heap) (locs : List Loc) (ls : Array Slot), MOK E (q.2.2.2) H → va_S (eA E) s.heap H locs → lv_has ls 10 [(0, .ref x0), (1, .int x1), (2, .int x2), (3, .int x3), (4, .int x4), (6, .int x6), (5, .int q.1), (7, .int q.2.1), (8, .int q.2.2.1)] → W p l e rm_L_replica s m args below meth c H locs 0 0 (MQ below (cQ E (some (.int v)) M') args s 2 12 (eA E)) (F0 m 179 ls [])) ∧ ∀ z, y2 = .inr z → z = y1) (h : fj_L_replica_238 x0 x1 x2 x3 x4 x6 x7 x8 s0 M = some y2) (hM : MOK E M H) (hS : va_S (eA E) s.heap H locs) (hl : lv_has ls 10 [(0, .ref x0), (1, .int x1), (2, .int x2), (3, .int x3), (4, .int x4), (6, .int x6), (7, .int x7), (8, .int x8)]) : W p l e rm_L_replica s m args below meth c H locs 0 0 (MQ below (cQ E (some (.int v)) M') args s 2 12 (eA E)) (F0 m 238 ls [.int s0]) := by
  obtain ⟨hx, hb, hml, hown, hts⟩ := id hC
  unfold fj_L_replica_238 at h
  refine lv_istore (lv' := [(5, .int s0), (0, .ref x0), (1, .int x1), (2, .int x2), (3, .int x3), (4, .int x4), (6, .int x6), (7, .int x7), (8, .int x8)]) hx hb dL_replica_238 hl (by decide) rfl (fun ls hl => ?_)
  refine lv_iinc (v := x8 + 1) (lv' := [(8, .int (x8 + 1)), (5, .int s0), (0, .ref x0), (1, .int x1), (2, .int x2), (3, .int x3), (4, .int x4), (6, .int x6), (7, .int x7)]) hx hb dL_replica_240 hl (k := 8) rfl rfl (by decide) rfl (fun ls hl => ?_)
  refine lv_goto (tgt := 179) hx hb dL_replica_243 (by decide) ?_
  cases h
  exact hy2.1 _ rfl _ _ _ hM hS (lv_sub hl [2, 3, 4, 5, 6, 7, 1, 8, 0] rfl)
noncomputable def fj_L_replica_237 (x0 : Nat) (x1 : Int32) (x2 : Int32) (x3 : Int32) (x4 : Int32) (x6 : Int32) (x7 : Int32) (x8 : Int32) (M : Mem) : Option ((Int32 × Int32 × Int32 × Mem) ⊕ ((Int32 × Int32 × Int32 × Mem) ⊕ (Int32 × Mem))) :=
  fj_L_replica_238 x0 x1 x2 x3 x4 x6 x7 x8 0 M
set_option maxHeartbeats 4000000 in
set_option maxRecDepth 100000 in
theorem tj_L_replica_237 {p : Program} {l : Launch} {e : Env} {s : State} {m : MethodId} {args : Array Value} {below : List Frame} {meth : Method} {c : Code} {E : KEnv} {H : Heap} {locs : List Loc} {ls : Array Slot} {x0 : Nat} {x1 : Int32} {x2 : Int32} {x3 : Int32} {x4 : Int32} {x6 : Int32} {x7 : Int32} {x8 : Int32} {y1 : ((Int32 × Int32 × Int32 × Mem) ⊕ (Int32 × Mem))} {y2 : ((Int32 × Int32 × Int32 × Mem) ⊕ ((Int32 × Int32 × Int32 × Mem) ⊕ (Int32 × Mem)))} {M : Mem} {v : Int32} {M' : Mem} (hfl : l.stackTraces = false) (hC : CallFix p m c cL_replica 10 s args lw_G RL) (hr : meth.sig.returnType = (some .boolean)) (hlocks : meth.locks = false) (hE : EnvOK E s) (hy1 : (∀ q : (Int32 × Int32 × Int32 × Mem), y1 = .inl q → ∀ (H : Heap) (locs : List Loc) (ls : Array Slot), MOK E (q.2.2.2) H → va_S (eA E) s.heap H locs → lv_has ls 10 [(0, .ref x0), (1, .int x1), (2, .int x2), (4, .int x4), (3, .int q.1), (5, .int q.2.1), (6, .int q.2.2.1)] → W p l e rm_L_replica s m args below meth c H locs 0 0 (MQ below (cQ E (some (.int v)) M') args s 2 12 (eA E)) (F0 m 161 ls [])) ∧ ∀ z, y1 = .inr z → z = (v, M')) (hy2 : (∀ q : (Int32 × Int32 × Int32 × Mem), y2 = .inl q → ∀ (H : Heap) (locs : List Loc) (ls : Array Slot), MOK E (q.2.2.2) H → va_S (eA E) s.heap H locs → lv_has ls 10 [(0, .ref x0), (1, .int x1), (2, .int x2), (3, .int x3), (4, .int x4), (6, .int x6), (5, .int q.1), (7, .int q.2.1), (8, .int q.2.2.1)] → W p l e rm_L_replica s m args below meth c H locs 0 0 (MQ below (cQ E (some (.int v)) M') args s 2 12 (eA E)) (F0 m 179 ls [])) ∧ ∀ z, y2 = .inr z → z = y1) (h : fj_L_replica_237 x0 x1 x2 x3 x4 x6 x7 x8 M = some y2) (hM : MOK E M H) (hS : va_S (eA E) s.heap H locs) (hl : lv_has ls 10 [(0, .ref x0), (1, .int x1), (2, .int x2), (3, .int x3), (4, .int x4), (6, .int x6), (7, .int x7), (8, .int x8)]) : W p l e rm_L_replica s m args below meth c H locs 0 0 (MQ below (cQ E (some (.int v)) M') args s 2 12 (eA E)) (F0 m 237 ls []) := by
  obtain ⟨hx, hb, hml, hown, hts⟩ := id hC
  unfold fj_L_replica_237 at h
  refine lv_iconst (v := 0) hx hb dL_replica_237 (by decide) ?_
  refine W.widen (k := 0) (n := 0) (Nat.le_of_ble_eq_true rfl) (Nat.le_of_ble_eq_true rfl) ?_
  exact tj_L_replica_238 hfl hC hr hlocks hE hy1 hy2  h hM hS (lv_sub hl [0, 1, 2, 3, 4, 5, 6, 7] rfl)
noncomputable def fj_L_replica_208 (x0 : Nat) (x1 : Int32) (x2 : Int32) (x3 : Int32) (x4 : Int32) (x5 : Int32) (x6 : Int32) (x8 : Int32) (x9 : Int32) (s0 : Int32) (s1 : Int32) (M : Mem) : Option ((Int32 × Int32 × Int32 × Mem) ⊕ ((Int32 × Int32 × Int32 × Mem) ⊕ (Int32 × Mem))) :=
  (if x5 = 0 then
  fj_L_replica_237 x0 x1 x2 x3 x4 x6 (s0 + s1) x8 M
  else
  (if x9 < 0 then
  fj_L_replica_237 x0 x1 x2 x3 x4 x6 (s0 + s1) x8 M
  else
  bq (cK 5 x0 M (f_X4_versionEntry x0 x1 x8 M)) fun v34 M35 =>
  (if v34 < x9 then
  fj_L_replica_237 x0 x1 x2 x3 x4 x6 (s0 + s1) x8 M35
  else
  fj_L_replica_238 x0 x1 x2 x3 x4 x6 (s0 + s1) x8 1 M35)))
set_option maxHeartbeats 4000000 in
set_option maxRecDepth 100000 in
theorem tj_L_replica_208 {p : Program} {l : Launch} {e : Env} {s : State} {m : MethodId} {args : Array Value} {below : List Frame} {meth : Method} {c : Code} {E : KEnv} {H : Heap} {locs : List Loc} {ls : Array Slot} {x0 : Nat} {x1 : Int32} {x2 : Int32} {x3 : Int32} {x4 : Int32} {x5 : Int32} {x6 : Int32} {x8 : Int32} {x9 : Int32} {s0 : Int32} {s1 : Int32} {y1 : ((Int32 × Int32 × Int32 × Mem) ⊕ (Int32 × Mem))} {y2 : ((Int32 × Int32 × Int32 × Mem) ⊕ ((Int32 × Int32 × Int32 × Mem) ⊕ (Int32 × Mem)))} {M : Mem} {v : Int32} {M' : Mem} (hfl : l.stackTraces = false) (hC : CallFix p m c cL_replica 10 s args lw_G RL) (hr : meth.sig.returnType = (some .boolean)) (hlocks : meth.locks = false) (hE : EnvOK E s) (hy1 : (∀ q : (Int32 × Int32 × Int32 × Mem), y1 = .inl q → ∀ (H : Heap) (locs : List Loc) (ls : Array Slot), MOK E (q.2.2.2) H → va_S (eA E) s.heap H locs → lv_has ls 10 [(0, .ref x0), (1, .int x1), (2, .int x2), (4, .int x4), (3, .int q.1), (5, .int q.2.1), (6, .int q.2.2.1)] → W p l e rm_L_replica s m args below meth c H locs 0 0 (MQ below (cQ E (some (.int v)) M') args s 2 12 (eA E)) (F0 m 161 ls [])) ∧ ∀ z, y1 = .inr z → z = (v, M')) (hy2 : (∀ q : (Int32 × Int32 × Int32 × Mem), y2 = .inl q → ∀ (H : Heap) (locs : List Loc) (ls : Array Slot), MOK E (q.2.2.2) H → va_S (eA E) s.heap H locs → lv_has ls 10 [(0, .ref x0), (1, .int x1), (2, .int x2), (3, .int x3), (4, .int x4), (6, .int x6), (5, .int q.1), (7, .int q.2.1), (8, .int q.2.2.1)] → W p l e rm_L_replica s m args below meth c H locs 0 0 (MQ below (cQ E (some (.int v)) M') args s 2 12 (eA E)) (F0 m 179 ls [])) ∧ ∀ z, y2 = .inr z → z = y1) (h : fj_L_replica_208 x0 x1 x2 x3 x4 x5 x6 x8 x9 s0 s1 M = some y2) (hM : MOK E M H) (hS : va_S (eA E) s.heap H locs) (hl : lv_has ls 10 [(0, .ref x0), (1, .int x1), (2, .int x2), (3, .int x3), (4, .int x4), (5, .int x5), (6, .int x6), (8, .int x8), (9, .int x9)]) : W p l e rm_L_replica s m args below meth c H locs 0 0 (MQ below (cQ E (some (.int v)) M') args s 2 12 (eA E)) (F0 m 208 ls [.int s1, .int s0]) := by
  obtain ⟨hx, hb, hml, hown, hts⟩ := id hC
  unfold fj_L_replica_208 at h
  refine lv_iadd hx hb dL_replica_208 ?_
  refine lv_istore (lv' := [(7, .int (s0 + s1)), (0, .ref x0), (1, .int x1), (2, .int x2), (3, .int x3), (4, .int x4), (5, .int x5), (6, .int x6), (8, .int x8), (9, .int x9)]) hx hb dL_replica_209 hl (by decide) rfl (fun ls hl => ?_)
  refine lv_iload hx hb dL_replica_211 (lv_at hl 6 rfl) ?_
  refine lv_if_eq (tgt := 237) hx hb dL_replica_213 (by decide) (fun c1 => ?_) (fun c1 => ?_)
  · have h := ifp c1 h
    refine W.widen (k := 0) (n := 0) (Nat.le_of_ble_eq_true rfl) (Nat.le_of_ble_eq_true rfl) ?_
    exact tj_L_replica_237 hfl hC hr hlocks hE hy1 hy2  h hM hS (lv_sub hl [1, 2, 3, 4, 5, 7, 0, 8] rfl)
  · have h := ifn c1 h
    refine lv_iload hx hb dL_replica_216 (lv_at hl 9 rfl) ?_
    refine lv_if_lt (tgt := 237) hx hb dL_replica_218 (by decide) (fun c1 => ?_) (fun c1 => ?_)
    · have h := ifp c1 h
      refine W.widen (k := 0) (n := 0) (Nat.le_of_ble_eq_true rfl) (Nat.le_of_ble_eq_true rfl) ?_
      exact tj_L_replica_237 hfl hC hr hlocks hE hy1 hy2  h hM hS (lv_sub hl [1, 2, 3, 4, 5, 7, 0, 8] rfl)
    · have h := ifn c1 h
      refine lv_iload hx hb dL_replica_221 (lv_at hl 9 rfl) ?_
      refine lv_aload_n hx hb dL_replica_223 rfl (lv_at hl 1 rfl) ?_
      refine lv_iload_n hx hb dL_replica_224 rfl (lv_at hl 2 rfl) ?_
      refine lv_iload hx hb dL_replica_225 (lv_at hl 8 rfl) ?_
      obtain ⟨v34, M35, h1, h⟩ := obq h
      obtain ⟨hk1, h1⟩ := ifg h1
      refine kV1 (ci := 4) (As := [.int x1, .int x8]) (rest := [.int x9]) hC hE hS hM (mq_X4_versionEntry _ E x0 x1 x8 _ _ _ h1) (gwV qw_994 qw_995 qw_996 qw_39 qw_997) ⟨rfl, rfl, (Nat.le_of_ble_eq_true rfl), (Nat.le_of_ble_eq_true rfl)⟩ dd_X4_versionEntry rfl hk1 rfl rfl hl.1 (Nat.le_of_ble_eq_true rfl) dL_replica_227 ⟨(Nat.le_of_ble_eq_true rfl), (Nat.le_of_ble_eq_true rfl)⟩ (fun H locs hM hS => ?_)
      refine lv_icmp_gt (tgt := 237) hx hb dL_replica_230 (by decide) (fun c1 => ?_) (fun c1 => ?_)
      · have h := ifp c1 h
        refine W.widen (k := 0) (n := 0) (Nat.le_of_ble_eq_true rfl) (Nat.le_of_ble_eq_true rfl) ?_
        exact tj_L_replica_237 hfl hC hr hlocks hE hy1 hy2  h hM hS (lv_sub hl [1, 2, 3, 4, 5, 7, 0, 8] rfl)
      · have h := ifn c1 h
        refine lv_iconst (v := 1) hx hb dL_replica_233 (by decide) ?_
        refine lv_goto (tgt := 238) hx hb dL_replica_234 (by decide) ?_
        refine W.widen (k := 0) (n := 0) (Nat.le_of_ble_eq_true rfl) (Nat.le_of_ble_eq_true rfl) ?_
        exact tj_L_replica_238 hfl hC hr hlocks hE hy1 hy2  h hM hS (lv_sub hl [1, 2, 3, 4, 5, 7, 0, 8] rfl)
noncomputable def fc_L_replica_179 (x0 : Nat) (x1 : Int32) (x2 : Int32) (x3 : Int32) (x4 : Int32) (x6 : Int32) (x5 : Int32) (x7 : Int32) (x8 : Int32) (M : Mem) : Option ((Int32 × Int32 × Int32 × Mem) ⊕ ((Int32 × Int32 × Int32 × Mem) ⊕ (Int32 × Mem))) :=
  (if x2 ≤ x8 then
  (fj_L_replica_246 x0 x1 x2 x3 x4 x5 x6 x7 M).map Sum.inr
  else
  bq (cK 5 x0 M (f_X4_tagDot x0 x1 x6 x8 M)) fun v32 M33 =>
  (if v32 ≤ 0 then
  fj_L_replica_208 x0 x1 x2 x3 x4 x5 x6 x8 v32 x7 0 M33
  else
  fj_L_replica_208 x0 x1 x2 x3 x4 x5 x6 x8 v32 x7 1 M33))
noncomputable def fj_L_replica_179 (x0 : Nat) (x1 : Int32) (x2 : Int32) (x3 : Int32) (x4 : Int32) (x6 : Int32) (x5 : Int32) (x7 : Int32) (x8 : Int32) (M : Mem) : Option ((Int32 × Int32 × Int32 × Mem) ⊕ (Int32 × Mem)) := loopM (fun q : (Int32 × Int32 × Int32 × Mem) => fc_L_replica_179 x0 x1 x2 x3 x4 x6 q.1 q.2.1 q.2.2.1 q.2.2.2) FU (x5, x7, x8, M)
set_option maxHeartbeats 4000000 in
set_option maxRecDepth 100000 in
theorem tj_L_replica_179 {p : Program} {l : Launch} {e : Env} {s : State} {m : MethodId} {args : Array Value} {below : List Frame} {meth : Method} {c : Code} {E : KEnv} {H : Heap} {locs : List Loc} {ls : Array Slot} {x0 : Nat} {x1 : Int32} {x2 : Int32} {x3 : Int32} {x4 : Int32} {x6 : Int32} {x5 : Int32} {x7 : Int32} {x8 : Int32} {y1 : ((Int32 × Int32 × Int32 × Mem) ⊕ (Int32 × Mem))} {M : Mem} {v : Int32} {M' : Mem} (hfl : l.stackTraces = false) (hC : CallFix p m c cL_replica 10 s args lw_G RL) (hr : meth.sig.returnType = (some .boolean)) (hlocks : meth.locks = false) (hE : EnvOK E s) (hy1 : (∀ q : (Int32 × Int32 × Int32 × Mem), y1 = .inl q → ∀ (H : Heap) (locs : List Loc) (ls : Array Slot), MOK E (q.2.2.2) H → va_S (eA E) s.heap H locs → lv_has ls 10 [(0, .ref x0), (1, .int x1), (2, .int x2), (4, .int x4), (3, .int q.1), (5, .int q.2.1), (6, .int q.2.2.1)] → W p l e rm_L_replica s m args below meth c H locs 0 0 (MQ below (cQ E (some (.int v)) M') args s 2 12 (eA E)) (F0 m 161 ls [])) ∧ ∀ z, y1 = .inr z → z = (v, M')) (h : fj_L_replica_179 x0 x1 x2 x3 x4 x6 x5 x7 x8 M = some y1) (hM : MOK E M H) (hS : va_S (eA E) s.heap H locs) (hl : lv_has ls 10 [(0, .ref x0), (1, .int x1), (2, .int x2), (3, .int x3), (4, .int x4), (6, .int x6), (5, .int x5), (7, .int x7), (8, .int x8)]) : W p l e rm_L_replica s m args below meth c H locs 0 0 (MQ below (cQ E (some (.int v)) M') args s 2 12 (eA E)) (F0 m 179 ls []) := by
  refine loopM_ind (body := fun q : (Int32 × Int32 × Int32 × Mem) => fc_L_replica_179 x0 x1 x2 x3 x4 x6 q.1 q.2.1 q.2.2.1 q.2.2.2) (x0 := y1) (Wd := fun q : (Int32 × Int32 × Int32 × Mem) => ∀ (H : Heap) (locs : List Loc) (ls : Array Slot), MOK E (q.2.2.2) H → va_S (eA E) s.heap H locs → lv_has ls 10 [(0, .ref x0), (1, .int x1), (2, .int x2), (3, .int x3), (4, .int x4), (6, .int x6), (5, .int q.1), (7, .int q.2.1), (8, .int q.2.2.1)] → W p l e rm_L_replica s m args below meth c H locs 0 0 (MQ below (cQ E (some (.int v)) M') args s 2 12 (eA E)) (F0 m 179 ls [])) ?_ FU (x5, x7, x8, M) h H locs ls hM hS hl
  clear h hM hS hl H locs ls M x5 x7 x8
  obtain ⟨hx, hb, hml, hown, hts⟩ := id hC
  intro q y2 h hy2 H locs ls hM hS hl
  obtain ⟨x5, x7, x8, M⟩ := q
  have h : fc_L_replica_179 x0 x1 x2 x3 x4 x6 x5 x7 x8 M = some y2 := h
  have hM : MOK E M H := hM
  have hl : lv_has ls 10 [(0, .ref x0), (1, .int x1), (2, .int x2), (3, .int x3), (4, .int x4), (6, .int x6), (5, .int x5), (7, .int x7), (8, .int x8)] := hl
  unfold fc_L_replica_179 at h
  show W p l e rm_L_replica s m args below meth c H locs _ _ _ _
  refine lv_iload hx hb dL_replica_179 (lv_at hl 8 rfl) ?_
  refine lv_iload_n hx hb dL_replica_181 rfl (lv_at hl 2 rfl) ?_
  refine lv_icmp_ge (tgt := 246) hx hb dL_replica_182 (by decide) (fun c1 => ?_) (fun c1 => ?_)
  · have h := ifp c1 h
    obtain ⟨z0, h9, rfl⟩ := om h
    have e0 := hy2.2 _ rfl
    subst e0
    have h := h9
    refine W.widen (k := 0) (n := 0) (Nat.le_of_ble_eq_true rfl) (Nat.le_of_ble_eq_true rfl) ?_
    exact tj_L_replica_246 hfl hC hr hlocks hE hy1  h hM hS (lv_sub hl [0, 1, 2, 3, 4, 6, 5, 7] rfl)
  · have h := ifn c1 h
    refine lv_aload_n hx hb dL_replica_185 rfl (lv_at hl 0 rfl) ?_
    refine lv_iload_n hx hb dL_replica_186 rfl (lv_at hl 1 rfl) ?_
    refine lv_iload hx hb dL_replica_187 (lv_at hl 5 rfl) ?_
    refine lv_iload hx hb dL_replica_189 (lv_at hl 8 rfl) ?_
    obtain ⟨v32, M33, h1, h⟩ := obq h
    obtain ⟨hk1, h1⟩ := ifg h1
    refine kV1 (ci := 4) (As := [.int x1, .int x6, .int x8]) (rest := []) hC hE hS hM (mq_X4_tagDot _ E x0 x1 x6 x8 _ _ _ h1) (gwV qw_1015 qw_1016 qw_1017 qw_39 qw_1018) ⟨rfl, rfl, (Nat.le_of_ble_eq_true rfl), (Nat.le_of_ble_eq_true rfl)⟩ dd_X4_tagDot rfl hk1 rfl rfl hl.1 (Nat.le_of_ble_eq_true rfl) dL_replica_191 ⟨(Nat.le_of_ble_eq_true rfl), (Nat.le_of_ble_eq_true rfl)⟩ (fun H locs hM hS => ?_)
    refine lv_istore (lv' := [(9, .int v32), (0, .ref x0), (1, .int x1), (2, .int x2), (3, .int x3), (4, .int x4), (6, .int x6), (5, .int x5), (7, .int x7), (8, .int x8)]) hx hb dL_replica_194 hl (by decide) rfl (fun ls hl => ?_)
    refine lv_iload hx hb dL_replica_196 (lv_at hl 8 rfl) ?_
    refine lv_iload hx hb dL_replica_198 (lv_at hl 0 rfl) ?_
    refine lv_if_le (tgt := 207) hx hb dL_replica_200 (by decide) (fun c1 => ?_) (fun c1 => ?_)
    · have h := ifp c1 h
      refine lv_iconst (v := 0) hx hb dL_replica_207 (by decide) ?_
      refine W.widen (k := 0) (n := 0) (Nat.le_of_ble_eq_true rfl) (Nat.le_of_ble_eq_true rfl) ?_
      exact tj_L_replica_208 hfl hC hr hlocks hE hy1 hy2  h hM hS (lv_sub hl [1, 2, 3, 4, 5, 7, 6, 9, 0] rfl)
    · have h := ifn c1 h
      refine lv_iconst (v := 1) hx hb dL_replica_203 (by decide) ?_
      refine lv_goto (tgt := 208) hx hb dL_replica_204 (by decide) ?_
      refine W.widen (k := 0) (n := 0) (Nat.le_of_ble_eq_true rfl) (Nat.le_of_ble_eq_true rfl) ?_
      exact tj_L_replica_208 hfl hC hr hlocks hE hy1 hy2  h hM hS (lv_sub hl [1, 2, 3, 4, 5, 7, 6, 9, 0] rfl)
noncomputable def fc_L_replica_161 (x0 : Nat) (x1 : Int32) (x2 : Int32) (x4 : Int32) (x3 : Int32) (x5 : Int32) (x6 : Int32) (M : Mem) : Option ((Int32 × Int32 × Int32 × Mem) ⊕ (Int32 × Mem)) :=
  (if (16 : Int32) ≤ x6 then
  (fj_L_replica_325 x0 x1 x2 x3 x4 x5 M).map Sum.inr
  else
  (if x5 = 0 then
  (fj_L_replica_325 x0 x1 x2 x3 x4 x5 M).map Sum.inr
  else
  fj_L_replica_179 x0 x1 x2 x3 x4 x6 x5 0 0 M))
noncomputable def fj_L_replica_161 (x0 : Nat) (x1 : Int32) (x2 : Int32) (x4 : Int32) (x3 : Int32) (x5 : Int32) (x6 : Int32) (M : Mem) : Option (Int32 × Mem) := loopM (fun q : (Int32 × Int32 × Int32 × Mem) => fc_L_replica_161 x0 x1 x2 x4 q.1 q.2.1 q.2.2.1 q.2.2.2) FU (x3, x5, x6, M)
set_option maxHeartbeats 4000000 in
set_option maxRecDepth 100000 in
theorem tj_L_replica_161 {p : Program} {l : Launch} {e : Env} {s : State} {m : MethodId} {args : Array Value} {below : List Frame} {meth : Method} {c : Code} {E : KEnv} {H : Heap} {locs : List Loc} {ls : Array Slot} {x0 : Nat} {x1 : Int32} {x2 : Int32} {x4 : Int32} {x3 : Int32} {x5 : Int32} {x6 : Int32} {M : Mem} {v : Int32} {M' : Mem} (hfl : l.stackTraces = false) (hC : CallFix p m c cL_replica 10 s args lw_G RL) (hr : meth.sig.returnType = (some .boolean)) (hlocks : meth.locks = false) (hE : EnvOK E s) (h : fj_L_replica_161 x0 x1 x2 x4 x3 x5 x6 M = some (v, M')) (hM : MOK E M H) (hS : va_S (eA E) s.heap H locs) (hl : lv_has ls 10 [(0, .ref x0), (1, .int x1), (2, .int x2), (4, .int x4), (3, .int x3), (5, .int x5), (6, .int x6)]) : W p l e rm_L_replica s m args below meth c H locs 0 0 (MQ below (cQ E (some (.int v)) M') args s 2 12 (eA E)) (F0 m 161 ls []) := by
  refine loopM_ind (body := fun q : (Int32 × Int32 × Int32 × Mem) => fc_L_replica_161 x0 x1 x2 x4 q.1 q.2.1 q.2.2.1 q.2.2.2) (x0 := (v, M')) (Wd := fun q : (Int32 × Int32 × Int32 × Mem) => ∀ (H : Heap) (locs : List Loc) (ls : Array Slot), MOK E (q.2.2.2) H → va_S (eA E) s.heap H locs → lv_has ls 10 [(0, .ref x0), (1, .int x1), (2, .int x2), (4, .int x4), (3, .int q.1), (5, .int q.2.1), (6, .int q.2.2.1)] → W p l e rm_L_replica s m args below meth c H locs 0 0 (MQ below (cQ E (some (.int v)) M') args s 2 12 (eA E)) (F0 m 161 ls [])) ?_ FU (x3, x5, x6, M) h H locs ls hM hS hl
  clear h hM hS hl H locs ls M x3 x5 x6
  obtain ⟨hx, hb, hml, hown, hts⟩ := id hC
  intro q y1 h hy1 H locs ls hM hS hl
  obtain ⟨x3, x5, x6, M⟩ := q
  have h : fc_L_replica_161 x0 x1 x2 x4 x3 x5 x6 M = some y1 := h
  have hM : MOK E M H := hM
  have hl : lv_has ls 10 [(0, .ref x0), (1, .int x1), (2, .int x2), (4, .int x4), (3, .int x3), (5, .int x5), (6, .int x6)] := hl
  unfold fc_L_replica_161 at h
  show W p l e rm_L_replica s m args below meth c H locs _ _ _ _
  refine lv_iload hx hb dL_replica_161 (lv_at hl 6 rfl) ?_
  refine lv_bipush (v := 16) hx hb dL_replica_163 (by decide) ?_
  refine lv_icmp_ge (tgt := 325) hx hb dL_replica_165 (by decide) (fun c1 => ?_) (fun c1 => ?_)
  · have h := ifp c1 h
    obtain ⟨z0, h9, rfl⟩ := om h
    have e0 := hy1.2 _ rfl
    subst e0
    have h := h9
    refine W.widen (k := 0) (n := 0) (Nat.le_of_ble_eq_true rfl) (Nat.le_of_ble_eq_true rfl) ?_
    exact tj_L_replica_325 hfl hC hr hlocks hE  h hM hS (lv_sub hl [0, 1, 2, 4, 3, 5] rfl)
  · have h := ifn c1 h
    refine lv_iload hx hb dL_replica_168 (lv_at hl 5 rfl) ?_
    refine lv_if_eq (tgt := 325) hx hb dL_replica_170 (by decide) (fun c1 => ?_) (fun c1 => ?_)
    · have h := ifp c1 h
      obtain ⟨z0, h9, rfl⟩ := om h
      have e0 := hy1.2 _ rfl
      subst e0
      have h := h9
      refine W.widen (k := 0) (n := 0) (Nat.le_of_ble_eq_true rfl) (Nat.le_of_ble_eq_true rfl) ?_
      exact tj_L_replica_325 hfl hC hr hlocks hE  h hM hS (lv_sub hl [0, 1, 2, 4, 3, 5] rfl)
    · have h := ifn c1 h
      refine lv_iconst (v := 0) hx hb dL_replica_173 (by decide) ?_
      refine lv_istore (lv' := [(7, .int 0), (0, .ref x0), (1, .int x1), (2, .int x2), (4, .int x4), (3, .int x3), (5, .int x5), (6, .int x6)]) hx hb dL_replica_174 hl (by decide) rfl (fun ls hl => ?_)
      refine lv_iconst (v := 0) hx hb dL_replica_176 (by decide) ?_
      refine lv_istore (lv' := [(8, .int 0), (7, .int 0), (0, .ref x0), (1, .int x1), (2, .int x2), (4, .int x4), (3, .int x3), (5, .int x5), (6, .int x6)]) hx hb dL_replica_177 hl (by decide) rfl (fun ls hl => ?_)
      refine W.widen (k := 0) (n := 0) (Nat.le_of_ble_eq_true rfl) (Nat.le_of_ble_eq_true rfl) ?_
      exact tj_L_replica_179 hfl hC hr hlocks hE hy1  h hM hS (lv_sub hl [2, 3, 4, 6, 5, 8, 7, 1, 0] rfl)
noncomputable def fj_L_replica_158 (x0 : Nat) (x1 : Int32) (x2 : Int32) (x3 : Int32) (x4 : Int32) (x5 : Int32) (M : Mem) : Option (Int32 × Mem) :=
  fj_L_replica_161 x0 x1 x2 x4 x3 x5 0 M
set_option maxHeartbeats 4000000 in
set_option maxRecDepth 100000 in
theorem tj_L_replica_158 {p : Program} {l : Launch} {e : Env} {s : State} {m : MethodId} {args : Array Value} {below : List Frame} {meth : Method} {c : Code} {E : KEnv} {H : Heap} {locs : List Loc} {ls : Array Slot} {x0 : Nat} {x1 : Int32} {x2 : Int32} {x3 : Int32} {x4 : Int32} {x5 : Int32} {M : Mem} {v : Int32} {M' : Mem} (hfl : l.stackTraces = false) (hC : CallFix p m c cL_replica 10 s args lw_G RL) (hr : meth.sig.returnType = (some .boolean)) (hlocks : meth.locks = false) (hE : EnvOK E s) (h : fj_L_replica_158 x0 x1 x2 x3 x4 x5 M = some (v, M')) (hM : MOK E M H) (hS : va_S (eA E) s.heap H locs) (hl : lv_has ls 10 [(0, .ref x0), (1, .int x1), (2, .int x2), (3, .int x3), (4, .int x4), (5, .int x5)]) : W p l e rm_L_replica s m args below meth c H locs 0 0 (MQ below (cQ E (some (.int v)) M') args s 2 12 (eA E)) (F0 m 158 ls []) := by
  obtain ⟨hx, hb, hml, hown, hts⟩ := id hC
  unfold fj_L_replica_158 at h
  refine lv_iconst (v := 0) hx hb dL_replica_158 (by decide) ?_
  refine lv_istore (lv' := [(6, .int 0), (0, .ref x0), (1, .int x1), (2, .int x2), (3, .int x3), (4, .int x4), (5, .int x5)]) hx hb dL_replica_159 hl (by decide) rfl (fun ls hl => ?_)
  refine W.widen (k := 0) (n := 0) (Nat.le_of_ble_eq_true rfl) (Nat.le_of_ble_eq_true rfl) ?_
  exact tj_L_replica_161 hfl hC hr hlocks hE  h hM hS (lv_sub hl [1, 2, 3, 5, 4, 6, 0] rfl)
noncomputable def fj_L_replica_150 (x0 : Nat) (x1 : Int32) (x2 : Int32) (x3 : Int32) (x4 : Int32) (x6 : Int32) (s0 : Int32) (M : Mem) : Option ((Int32 × Int32 × Mem) ⊕ (Int32 × Mem)) :=
  some (.inl (s0, x6 + 1, M))
set_option maxHeartbeats 4000000 in
set_option maxRecDepth 100000 in
theorem tj_L_replica_150 {p : Program} {l : Launch} {e : Env} {s : State} {m : MethodId} {args : Array Value} {below : List Frame} {meth : Method} {c : Code} {E : KEnv} {H : Heap} {locs : List Loc} {ls : Array Slot} {x0 : Nat} {x1 : Int32} {x2 : Int32} {x3 : Int32} {x4 : Int32} {x6 : Int32} {s0 : Int32} {y1 : ((Int32 × Int32 × Mem) ⊕ (Int32 × Mem))} {M : Mem} {v : Int32} {M' : Mem} (hfl : l.stackTraces = false) (hC : CallFix p m c cL_replica 10 s args lw_G RL) (hr : meth.sig.returnType = (some .boolean)) (hlocks : meth.locks = false) (hE : EnvOK E s) (hy1 : (∀ q : (Int32 × Int32 × Mem), y1 = .inl q → ∀ (H : Heap) (locs : List Loc) (ls : Array Slot), MOK E (q.2.2) H → va_S (eA E) s.heap H locs → lv_has ls 10 [(0, .ref x0), (1, .int x1), (2, .int x2), (3, .int x3), (4, .int x4), (5, .int q.1), (6, .int q.2.1)] → W p l e rm_L_replica s m args below meth c H locs 0 0 (MQ below (cQ E (some (.int v)) M') args s 2 12 (eA E)) (F0 m 16 ls [])) ∧ ∀ z, y1 = .inr z → z = (v, M')) (h : fj_L_replica_150 x0 x1 x2 x3 x4 x6 s0 M = some y1) (hM : MOK E M H) (hS : va_S (eA E) s.heap H locs) (hl : lv_has ls 10 [(0, .ref x0), (1, .int x1), (2, .int x2), (3, .int x3), (4, .int x4), (6, .int x6)]) : W p l e rm_L_replica s m args below meth c H locs 0 0 (MQ below (cQ E (some (.int v)) M') args s 2 12 (eA E)) (F0 m 150 ls [.int s0]) := by
  obtain ⟨hx, hb, hml, hown, hts⟩ := id hC
  unfold fj_L_replica_150 at h
  refine lv_istore (lv' := [(5, .int s0), (0, .ref x0), (1, .int x1), (2, .int x2), (3, .int x3), (4, .int x4), (6, .int x6)]) hx hb dL_replica_150 hl (by decide) rfl (fun ls hl => ?_)
  refine lv_iinc (v := x6 + 1) (lv' := [(6, .int (x6 + 1)), (5, .int s0), (0, .ref x0), (1, .int x1), (2, .int x2), (3, .int x3), (4, .int x4)]) hx hb dL_replica_152 hl (k := 6) rfl rfl (by decide) rfl (fun ls hl => ?_)
  refine lv_goto (tgt := 16) hx hb dL_replica_155 (by decide) ?_
  cases h
  exact hy1.1 _ rfl _ _ _ hM hS (lv_sub hl [2, 3, 4, 5, 6, 1, 0] rfl)
noncomputable def fj_L_replica_149 (x0 : Nat) (x1 : Int32) (x2 : Int32) (x3 : Int32) (x4 : Int32) (x6 : Int32) (M : Mem) : Option ((Int32 × Int32 × Mem) ⊕ (Int32 × Mem)) :=
  fj_L_replica_150 x0 x1 x2 x3 x4 x6 0 M
set_option maxHeartbeats 4000000 in
set_option maxRecDepth 100000 in
theorem tj_L_replica_149 {p : Program} {l : Launch} {e : Env} {s : State} {m : MethodId} {args : Array Value} {below : List Frame} {meth : Method} {c : Code} {E : KEnv} {H : Heap} {locs : List Loc} {ls : Array Slot} {x0 : Nat} {x1 : Int32} {x2 : Int32} {x3 : Int32} {x4 : Int32} {x6 : Int32} {y1 : ((Int32 × Int32 × Mem) ⊕ (Int32 × Mem))} {M : Mem} {v : Int32} {M' : Mem} (hfl : l.stackTraces = false) (hC : CallFix p m c cL_replica 10 s args lw_G RL) (hr : meth.sig.returnType = (some .boolean)) (hlocks : meth.locks = false) (hE : EnvOK E s) (hy1 : (∀ q : (Int32 × Int32 × Mem), y1 = .inl q → ∀ (H : Heap) (locs : List Loc) (ls : Array Slot), MOK E (q.2.2) H → va_S (eA E) s.heap H locs → lv_has ls 10 [(0, .ref x0), (1, .int x1), (2, .int x2), (3, .int x3), (4, .int x4), (5, .int q.1), (6, .int q.2.1)] → W p l e rm_L_replica s m args below meth c H locs 0 0 (MQ below (cQ E (some (.int v)) M') args s 2 12 (eA E)) (F0 m 16 ls [])) ∧ ∀ z, y1 = .inr z → z = (v, M')) (h : fj_L_replica_149 x0 x1 x2 x3 x4 x6 M = some y1) (hM : MOK E M H) (hS : va_S (eA E) s.heap H locs) (hl : lv_has ls 10 [(0, .ref x0), (1, .int x1), (2, .int x2), (3, .int x3), (4, .int x4), (6, .int x6)]) : W p l e rm_L_replica s m args below meth c H locs 0 0 (MQ below (cQ E (some (.int v)) M') args s 2 12 (eA E)) (F0 m 149 ls []) := by
  obtain ⟨hx, hb, hml, hown, hts⟩ := id hC
  unfold fj_L_replica_149 at h
  refine lv_iconst (v := 0) hx hb dL_replica_149 (by decide) ?_
  refine W.widen (k := 0) (n := 0) (Nat.le_of_ble_eq_true rfl) (Nat.le_of_ble_eq_true rfl) ?_
  exact tj_L_replica_150 hfl hC hr hlocks hE hy1  h hM hS (lv_sub hl [0, 1, 2, 3, 4, 5] rfl)
noncomputable def fj_L_replica_128 (x0 : Nat) (x1 : Int32) (x2 : Int32) (x3 : Int32) (x4 : Int32) (x5 : Int32) (x6 : Int32) (x7 : Int32) (M : Mem) : Option ((Int32 × Int32 × Mem) ⊕ (Int32 × Mem)) :=
  (if x5 = 0 then
  fj_L_replica_149 x0 x1 x2 x3 x4 x6 M
  else
  bq (cK 5 x0 M (f_X4_counterValue x0 x1 x6 M)) fun v36 M37 =>
  (if v36 = x7 then
  fj_L_replica_150 x0 x1 x2 x3 x4 x6 1 M37
  else
  fj_L_replica_149 x0 x1 x2 x3 x4 x6 M37))
set_option maxHeartbeats 4000000 in
set_option maxRecDepth 100000 in
theorem tj_L_replica_128 {p : Program} {l : Launch} {e : Env} {s : State} {m : MethodId} {args : Array Value} {below : List Frame} {meth : Method} {c : Code} {E : KEnv} {H : Heap} {locs : List Loc} {ls : Array Slot} {x0 : Nat} {x1 : Int32} {x2 : Int32} {x3 : Int32} {x4 : Int32} {x5 : Int32} {x6 : Int32} {x7 : Int32} {y1 : ((Int32 × Int32 × Mem) ⊕ (Int32 × Mem))} {M : Mem} {v : Int32} {M' : Mem} (hfl : l.stackTraces = false) (hC : CallFix p m c cL_replica 10 s args lw_G RL) (hr : meth.sig.returnType = (some .boolean)) (hlocks : meth.locks = false) (hE : EnvOK E s) (hy1 : (∀ q : (Int32 × Int32 × Mem), y1 = .inl q → ∀ (H : Heap) (locs : List Loc) (ls : Array Slot), MOK E (q.2.2) H → va_S (eA E) s.heap H locs → lv_has ls 10 [(0, .ref x0), (1, .int x1), (2, .int x2), (3, .int x3), (4, .int x4), (5, .int q.1), (6, .int q.2.1)] → W p l e rm_L_replica s m args below meth c H locs 0 0 (MQ below (cQ E (some (.int v)) M') args s 2 12 (eA E)) (F0 m 16 ls [])) ∧ ∀ z, y1 = .inr z → z = (v, M')) (h : fj_L_replica_128 x0 x1 x2 x3 x4 x5 x6 x7 M = some y1) (hM : MOK E M H) (hS : va_S (eA E) s.heap H locs) (hl : lv_has ls 10 [(0, .ref x0), (1, .int x1), (2, .int x2), (3, .int x3), (4, .int x4), (5, .int x5), (6, .int x6), (7, .int x7)]) : W p l e rm_L_replica s m args below meth c H locs 0 0 (MQ below (cQ E (some (.int v)) M') args s 2 12 (eA E)) (F0 m 128 ls []) := by
  obtain ⟨hx, hb, hml, hown, hts⟩ := id hC
  unfold fj_L_replica_128 at h
  refine lv_iload hx hb dL_replica_128 (lv_at hl 5 rfl) ?_
  refine lv_if_eq (tgt := 149) hx hb dL_replica_130 (by decide) (fun c1 => ?_) (fun c1 => ?_)
  · have h := ifp c1 h
    refine W.widen (k := 0) (n := 0) (Nat.le_of_ble_eq_true rfl) (Nat.le_of_ble_eq_true rfl) ?_
    exact tj_L_replica_149 hfl hC hr hlocks hE hy1  h hM hS (lv_sub hl [0, 1, 2, 3, 4, 6] rfl)
  · have h := ifn c1 h
    refine lv_aload_n hx hb dL_replica_133 rfl (lv_at hl 0 rfl) ?_
    refine lv_iload_n hx hb dL_replica_134 rfl (lv_at hl 1 rfl) ?_
    refine lv_iload hx hb dL_replica_135 (lv_at hl 6 rfl) ?_
    obtain ⟨v36, M37, h1, h⟩ := obq h
    obtain ⟨hk1, h1⟩ := ifg h1
    refine kV1 (ci := 4) (As := [.int x1, .int x6]) (rest := []) hC hE hS hM (mq_X4_counterValue _ E x0 x1 x6 _ _ _ h1) (gwV qw_1055 qw_1056 qw_1057 qw_39 qw_1058) ⟨rfl, rfl, (Nat.le_of_ble_eq_true rfl), (Nat.le_of_ble_eq_true rfl)⟩ dd_X4_counterValue rfl hk1 rfl rfl hl.1 (Nat.le_of_ble_eq_true rfl) dL_replica_137 ⟨(Nat.le_of_ble_eq_true rfl), (Nat.le_of_ble_eq_true rfl)⟩ (fun H locs hM hS => ?_)
    refine lv_iload hx hb dL_replica_140 (lv_at hl 7 rfl) ?_
    refine lv_icmp_ne (tgt := 149) hx hb dL_replica_142 (by decide) (fun c1 => ?_) (fun c1 => ?_)
    · have h := ifn c1 h
      refine W.widen (k := 0) (n := 0) (Nat.le_of_ble_eq_true rfl) (Nat.le_of_ble_eq_true rfl) ?_
      exact tj_L_replica_149 hfl hC hr hlocks hE hy1  h hM hS (lv_sub hl [0, 1, 2, 3, 4, 6] rfl)
    · have h := ifp c1 h
      refine lv_iconst (v := 1) hx hb dL_replica_145 (by decide) ?_
      refine lv_goto (tgt := 150) hx hb dL_replica_146 (by decide) ?_
      refine W.widen (k := 0) (n := 0) (Nat.le_of_ble_eq_true rfl) (Nat.le_of_ble_eq_true rfl) ?_
      exact tj_L_replica_150 hfl hC hr hlocks hE hy1  h hM hS (lv_sub hl [0, 1, 2, 3, 4, 6] rfl)
noncomputable def fj_L_replica_120 (x0 : Nat) (x1 : Int32) (x2 : Int32) (x3 : Int32) (x4 : Int32) (x6 : Int32) (x7 : Int32) (x8 : Int32) (s0 : Int32) (M : Mem) : Option ((Int32 × Int32 × Int32 × Mem) ⊕ ((Int32 × Int32 × Mem) ⊕ (Int32 × Mem))) :=
  some (.inl (s0, x7, x8 + 1, M))
set_option maxHeartbeats 4000000 in
set_option maxRecDepth 100000 in
theorem tj_L_replica_120 {p : Program} {l : Launch} {e : Env} {s : State} {m : MethodId} {args : Array Value} {below : List Frame} {meth : Method} {c : Code} {E : KEnv} {H : Heap} {locs : List Loc} {ls : Array Slot} {x0 : Nat} {x1 : Int32} {x2 : Int32} {x3 : Int32} {x4 : Int32} {x6 : Int32} {x7 : Int32} {x8 : Int32} {s0 : Int32} {y1 : ((Int32 × Int32 × Mem) ⊕ (Int32 × Mem))} {y2 : ((Int32 × Int32 × Int32 × Mem) ⊕ ((Int32 × Int32 × Mem) ⊕ (Int32 × Mem)))} {M : Mem} {v : Int32} {M' : Mem} (hfl : l.stackTraces = false) (hC : CallFix p m c cL_replica 10 s args lw_G RL) (hr : meth.sig.returnType = (some .boolean)) (hlocks : meth.locks = false) (hE : EnvOK E s) (hy1 : (∀ q : (Int32 × Int32 × Mem), y1 = .inl q → ∀ (H : Heap) (locs : List Loc) (ls : Array Slot), MOK E (q.2.2) H → va_S (eA E) s.heap H locs → lv_has ls 10 [(0, .ref x0), (1, .int x1), (2, .int x2), (3, .int x3), (4, .int x4), (5, .int q.1), (6, .int q.2.1)] → W p l e rm_L_replica s m args below meth c H locs 0 0 (MQ below (cQ E (some (.int v)) M') args s 2 12 (eA E)) (F0 m 16 ls [])) ∧ ∀ z, y1 = .inr z → z = (v, M')) (hy2 : (∀ q : (Int32 × Int32 × Int32 × Mem), y2 = .inl q → ∀ (H : Heap) (locs : List Loc) (ls : Array Slot), MOK E (q.2.2.2) H → va_S (eA E) s.heap H locs → lv_has ls 10 [(0, .ref x0), (1, .int x1), (2, .int x2), (3, .int x3), (4, .int x4), (6, .int x6), (5, .int q.1), (7, .int q.2.1), (8, .int q.2.2.1)] → W p l e rm_L_replica s m args below meth c H locs 0 0 (MQ below (cQ E (some (.int v)) M') args s 2 12 (eA E)) (F0 m 36 ls [])) ∧ ∀ z, y2 = .inr z → z = y1) (h : fj_L_replica_120 x0 x1 x2 x3 x4 x6 x7 x8 s0 M = some y2) (hM : MOK E M H) (hS : va_S (eA E) s.heap H locs) (hl : lv_has ls 10 [(0, .ref x0), (1, .int x1), (2, .int x2), (3, .int x3), (4, .int x4), (6, .int x6), (7, .int x7), (8, .int x8)]) : W p l e rm_L_replica s m args below meth c H locs 0 0 (MQ below (cQ E (some (.int v)) M') args s 2 12 (eA E)) (F0 m 120 ls [.int s0]) := by
  obtain ⟨hx, hb, hml, hown, hts⟩ := id hC
  unfold fj_L_replica_120 at h
  refine lv_istore (lv' := [(5, .int s0), (0, .ref x0), (1, .int x1), (2, .int x2), (3, .int x3), (4, .int x4), (6, .int x6), (7, .int x7), (8, .int x8)]) hx hb dL_replica_120 hl (by decide) rfl (fun ls hl => ?_)
  refine lv_iinc (v := x8 + 1) (lv' := [(8, .int (x8 + 1)), (5, .int s0), (0, .ref x0), (1, .int x1), (2, .int x2), (3, .int x3), (4, .int x4), (6, .int x6), (7, .int x7)]) hx hb dL_replica_122 hl (k := 8) rfl rfl (by decide) rfl (fun ls hl => ?_)
  refine lv_goto (tgt := 36) hx hb dL_replica_125 (by decide) ?_
  cases h
  exact hy2.1 _ rfl _ _ _ hM hS (lv_sub hl [2, 3, 4, 5, 6, 7, 1, 8, 0] rfl)
noncomputable def fj_L_replica_119 (x0 : Nat) (x1 : Int32) (x2 : Int32) (x3 : Int32) (x4 : Int32) (x6 : Int32) (x7 : Int32) (x8 : Int32) (M : Mem) : Option ((Int32 × Int32 × Int32 × Mem) ⊕ ((Int32 × Int32 × Mem) ⊕ (Int32 × Mem))) :=
  fj_L_replica_120 x0 x1 x2 x3 x4 x6 x7 x8 0 M
set_option maxHeartbeats 4000000 in
set_option maxRecDepth 100000 in
theorem tj_L_replica_119 {p : Program} {l : Launch} {e : Env} {s : State} {m : MethodId} {args : Array Value} {below : List Frame} {meth : Method} {c : Code} {E : KEnv} {H : Heap} {locs : List Loc} {ls : Array Slot} {x0 : Nat} {x1 : Int32} {x2 : Int32} {x3 : Int32} {x4 : Int32} {x6 : Int32} {x7 : Int32} {x8 : Int32} {y1 : ((Int32 × Int32 × Mem) ⊕ (Int32 × Mem))} {y2 : ((Int32 × Int32 × Int32 × Mem) ⊕ ((Int32 × Int32 × Mem) ⊕ (Int32 × Mem)))} {M : Mem} {v : Int32} {M' : Mem} (hfl : l.stackTraces = false) (hC : CallFix p m c cL_replica 10 s args lw_G RL) (hr : meth.sig.returnType = (some .boolean)) (hlocks : meth.locks = false) (hE : EnvOK E s) (hy1 : (∀ q : (Int32 × Int32 × Mem), y1 = .inl q → ∀ (H : Heap) (locs : List Loc) (ls : Array Slot), MOK E (q.2.2) H → va_S (eA E) s.heap H locs → lv_has ls 10 [(0, .ref x0), (1, .int x1), (2, .int x2), (3, .int x3), (4, .int x4), (5, .int q.1), (6, .int q.2.1)] → W p l e rm_L_replica s m args below meth c H locs 0 0 (MQ below (cQ E (some (.int v)) M') args s 2 12 (eA E)) (F0 m 16 ls [])) ∧ ∀ z, y1 = .inr z → z = (v, M')) (hy2 : (∀ q : (Int32 × Int32 × Int32 × Mem), y2 = .inl q → ∀ (H : Heap) (locs : List Loc) (ls : Array Slot), MOK E (q.2.2.2) H → va_S (eA E) s.heap H locs → lv_has ls 10 [(0, .ref x0), (1, .int x1), (2, .int x2), (3, .int x3), (4, .int x4), (6, .int x6), (5, .int q.1), (7, .int q.2.1), (8, .int q.2.2.1)] → W p l e rm_L_replica s m args below meth c H locs 0 0 (MQ below (cQ E (some (.int v)) M') args s 2 12 (eA E)) (F0 m 36 ls [])) ∧ ∀ z, y2 = .inr z → z = y1) (h : fj_L_replica_119 x0 x1 x2 x3 x4 x6 x7 x8 M = some y2) (hM : MOK E M H) (hS : va_S (eA E) s.heap H locs) (hl : lv_has ls 10 [(0, .ref x0), (1, .int x1), (2, .int x2), (3, .int x3), (4, .int x4), (6, .int x6), (7, .int x7), (8, .int x8)]) : W p l e rm_L_replica s m args below meth c H locs 0 0 (MQ below (cQ E (some (.int v)) M') args s 2 12 (eA E)) (F0 m 119 ls []) := by
  obtain ⟨hx, hb, hml, hown, hts⟩ := id hC
  unfold fj_L_replica_119 at h
  refine lv_iconst (v := 0) hx hb dL_replica_119 (by decide) ?_
  refine W.widen (k := 0) (n := 0) (Nat.le_of_ble_eq_true rfl) (Nat.le_of_ble_eq_true rfl) ?_
  exact tj_L_replica_120 hfl hC hr hlocks hE hy1 hy2  h hM hS (lv_sub hl [0, 1, 2, 3, 4, 5, 6, 7] rfl)
noncomputable def fc_L_replica_36 (x0 : Nat) (x1 : Int32) (x2 : Int32) (x3 : Int32) (x4 : Int32) (x6 : Int32) (x5 : Int32) (x7 : Int32) (x8 : Int32) (M : Mem) : Option ((Int32 × Int32 × Int32 × Mem) ⊕ ((Int32 × Int32 × Mem) ⊕ (Int32 × Mem))) :=
  (if x2 ≤ x8 then
  (fj_L_replica_128 x0 x1 x2 x3 x4 x5 x6 x7 M).map Sum.inr
  else
  bq (cK 5 x0 M (f_X4_increments x0 x1 x6 x8 M)) fun v38 M39 =>
  bq (cK 5 x0 M39 (f_X4_decrements x0 x1 x6 x8 M39)) fun v40 M41 =>
  (if x5 = 0 then
  fj_L_replica_119 x0 x1 x2 x3 x4 x6 (x7 + (v38 - v40)) x8 M41
  else
  bq (cK 5 x0 M41 (f_X4_increments x0 x1 x6 x8 M41)) fun v42 M43 =>
  bq (cK 5 x0 M43 (f_X4_increments x0 x8 x6 x8 M43)) fun v44 M45 =>
  (if v44 < v42 then
  fj_L_replica_119 x0 x1 x2 x3 x4 x6 (x7 + (v38 - v40)) x8 M45
  else
  bq (cK 5 x0 M45 (f_X4_decrements x0 x1 x6 x8 M45)) fun v46 M47 =>
  bq (cK 5 x0 M47 (f_X4_decrements x0 x8 x6 x8 M47)) fun v48 M49 =>
  (if v48 < v46 then
  fj_L_replica_119 x0 x1 x2 x3 x4 x6 (x7 + (v38 - v40)) x8 M49
  else
  fj_L_replica_120 x0 x1 x2 x3 x4 x6 (x7 + (v38 - v40)) x8 1 M49))))
noncomputable def fj_L_replica_36 (x0 : Nat) (x1 : Int32) (x2 : Int32) (x3 : Int32) (x4 : Int32) (x6 : Int32) (x5 : Int32) (x7 : Int32) (x8 : Int32) (M : Mem) : Option ((Int32 × Int32 × Mem) ⊕ (Int32 × Mem)) := loopM (fun q : (Int32 × Int32 × Int32 × Mem) => fc_L_replica_36 x0 x1 x2 x3 x4 x6 q.1 q.2.1 q.2.2.1 q.2.2.2) FU (x5, x7, x8, M)
set_option maxHeartbeats 4000000 in
set_option maxRecDepth 100000 in
theorem tj_L_replica_36 {p : Program} {l : Launch} {e : Env} {s : State} {m : MethodId} {args : Array Value} {below : List Frame} {meth : Method} {c : Code} {E : KEnv} {H : Heap} {locs : List Loc} {ls : Array Slot} {x0 : Nat} {x1 : Int32} {x2 : Int32} {x3 : Int32} {x4 : Int32} {x6 : Int32} {x5 : Int32} {x7 : Int32} {x8 : Int32} {y1 : ((Int32 × Int32 × Mem) ⊕ (Int32 × Mem))} {M : Mem} {v : Int32} {M' : Mem} (hfl : l.stackTraces = false) (hC : CallFix p m c cL_replica 10 s args lw_G RL) (hr : meth.sig.returnType = (some .boolean)) (hlocks : meth.locks = false) (hE : EnvOK E s) (hy1 : (∀ q : (Int32 × Int32 × Mem), y1 = .inl q → ∀ (H : Heap) (locs : List Loc) (ls : Array Slot), MOK E (q.2.2) H → va_S (eA E) s.heap H locs → lv_has ls 10 [(0, .ref x0), (1, .int x1), (2, .int x2), (3, .int x3), (4, .int x4), (5, .int q.1), (6, .int q.2.1)] → W p l e rm_L_replica s m args below meth c H locs 0 0 (MQ below (cQ E (some (.int v)) M') args s 2 12 (eA E)) (F0 m 16 ls [])) ∧ ∀ z, y1 = .inr z → z = (v, M')) (h : fj_L_replica_36 x0 x1 x2 x3 x4 x6 x5 x7 x8 M = some y1) (hM : MOK E M H) (hS : va_S (eA E) s.heap H locs) (hl : lv_has ls 10 [(0, .ref x0), (1, .int x1), (2, .int x2), (3, .int x3), (4, .int x4), (6, .int x6), (5, .int x5), (7, .int x7), (8, .int x8)]) : W p l e rm_L_replica s m args below meth c H locs 0 0 (MQ below (cQ E (some (.int v)) M') args s 2 12 (eA E)) (F0 m 36 ls []) := by
  refine loopM_ind (body := fun q : (Int32 × Int32 × Int32 × Mem) => fc_L_replica_36 x0 x1 x2 x3 x4 x6 q.1 q.2.1 q.2.2.1 q.2.2.2) (x0 := y1) (Wd := fun q : (Int32 × Int32 × Int32 × Mem) => ∀ (H : Heap) (locs : List Loc) (ls : Array Slot), MOK E (q.2.2.2) H → va_S (eA E) s.heap H locs → lv_has ls 10 [(0, .ref x0), (1, .int x1), (2, .int x2), (3, .int x3), (4, .int x4), (6, .int x6), (5, .int q.1), (7, .int q.2.1), (8, .int q.2.2.1)] → W p l e rm_L_replica s m args below meth c H locs 0 0 (MQ below (cQ E (some (.int v)) M') args s 2 12 (eA E)) (F0 m 36 ls [])) ?_ FU (x5, x7, x8, M) h H locs ls hM hS hl
  clear h hM hS hl H locs ls M x5 x7 x8
  obtain ⟨hx, hb, hml, hown, hts⟩ := id hC
  intro q y2 h hy2 H locs ls hM hS hl
  obtain ⟨x5, x7, x8, M⟩ := q
  have h : fc_L_replica_36 x0 x1 x2 x3 x4 x6 x5 x7 x8 M = some y2 := h
  have hM : MOK E M H := hM
  have hl : lv_has ls 10 [(0, .ref x0), (1, .int x1), (2, .int x2), (3, .int x3), (4, .int x4), (6, .int x6), (5, .int x5), (7, .int x7), (8, .int x8)] := hl
  unfold fc_L_replica_36 at h
  show W p l e rm_L_replica s m args below meth c H locs _ _ _ _
  refine lv_iload hx hb dL_replica_36 (lv_at hl 8 rfl) ?_
  refine lv_iload_n hx hb dL_replica_38 rfl (lv_at hl 2 rfl) ?_
  refine lv_icmp_ge (tgt := 128) hx hb dL_replica_39 (by decide) (fun c1 => ?_) (fun c1 => ?_)
  · have h := ifp c1 h
    obtain ⟨z0, h9, rfl⟩ := om h
    have e0 := hy2.2 _ rfl
    subst e0
    have h := h9
    refine W.widen (k := 0) (n := 0) (Nat.le_of_ble_eq_true rfl) (Nat.le_of_ble_eq_true rfl) ?_
    exact tj_L_replica_128 hfl hC hr hlocks hE hy1  h hM hS (lv_sub hl [0, 1, 2, 3, 4, 6, 5, 7] rfl)
  · have h := ifn c1 h
    refine lv_iload hx hb dL_replica_42 (lv_at hl 7 rfl) ?_
    refine lv_aload_n hx hb dL_replica_44 rfl (lv_at hl 0 rfl) ?_
    refine lv_iload_n hx hb dL_replica_45 rfl (lv_at hl 1 rfl) ?_
    refine lv_iload hx hb dL_replica_46 (lv_at hl 5 rfl) ?_
    refine lv_iload hx hb dL_replica_48 (lv_at hl 8 rfl) ?_
    obtain ⟨v38, M39, h1, h⟩ := obq h
    obtain ⟨hk1, h1⟩ := ifg h1
    refine kV1 (ci := 4) (As := [.int x1, .int x6, .int x8]) (rest := [.int x7]) hC hE hS hM (mq_X4_increments _ E x0 x1 x6 x8 _ _ _ h1) (gwV qw_1002 qw_1003 qw_1004 qw_39 qw_1005) ⟨rfl, rfl, (Nat.le_of_ble_eq_true rfl), (Nat.le_of_ble_eq_true rfl)⟩ dd_X4_increments rfl hk1 rfl rfl hl.1 (Nat.le_of_ble_eq_true rfl) dL_replica_50 ⟨(Nat.le_of_ble_eq_true rfl), (Nat.le_of_ble_eq_true rfl)⟩ (fun H locs hM hS => ?_)
    refine lv_aload_n hx hb dL_replica_53 rfl (lv_at hl 0 rfl) ?_
    refine lv_iload_n hx hb dL_replica_54 rfl (lv_at hl 1 rfl) ?_
    refine lv_iload hx hb dL_replica_55 (lv_at hl 5 rfl) ?_
    refine lv_iload hx hb dL_replica_57 (lv_at hl 8 rfl) ?_
    obtain ⟨v40, M41, h1, h⟩ := obq h
    obtain ⟨hk1, h1⟩ := ifg h1
    refine kV1 (ci := 4) (As := [.int x1, .int x6, .int x8]) (rest := [.int v38, .int x7]) hC hE hS hM (mq_X4_decrements _ E x0 x1 x6 x8 _ _ _ h1) (gwV qw_1011 qw_1012 qw_1013 qw_39 qw_1014) ⟨rfl, rfl, (Nat.le_of_ble_eq_true rfl), (Nat.le_of_ble_eq_true rfl)⟩ dd_X4_decrements rfl hk1 rfl rfl hl.1 (Nat.le_of_ble_eq_true rfl) dL_replica_59 ⟨(Nat.le_of_ble_eq_true rfl), (Nat.le_of_ble_eq_true rfl)⟩ (fun H locs hM hS => ?_)
    refine lv_isub hx hb dL_replica_62 ?_
    refine lv_iadd hx hb dL_replica_63 ?_
    refine lv_istore (lv' := [(7, .int (x7 + (v38 - v40))), (0, .ref x0), (1, .int x1), (2, .int x2), (3, .int x3), (4, .int x4), (6, .int x6), (5, .int x5), (8, .int x8)]) hx hb dL_replica_64 hl (by decide) rfl (fun ls hl => ?_)
    refine lv_iload hx hb dL_replica_66 (lv_at hl 7 rfl) ?_
    refine lv_if_eq (tgt := 119) hx hb dL_replica_68 (by decide) (fun c1 => ?_) (fun c1 => ?_)
    · have h := ifp c1 h
      refine W.widen (k := 0) (n := 0) (Nat.le_of_ble_eq_true rfl) (Nat.le_of_ble_eq_true rfl) ?_
      exact tj_L_replica_119 hfl hC hr hlocks hE hy1 hy2  h hM hS (lv_sub hl [1, 2, 3, 4, 5, 6, 0, 8] rfl)
    · have h := ifn c1 h
      refine lv_aload_n hx hb dL_replica_71 rfl (lv_at hl 1 rfl) ?_
      refine lv_iload_n hx hb dL_replica_72 rfl (lv_at hl 2 rfl) ?_
      refine lv_iload hx hb dL_replica_73 (lv_at hl 6 rfl) ?_
      refine lv_iload hx hb dL_replica_75 (lv_at hl 8 rfl) ?_
      obtain ⟨v42, M43, h1, h⟩ := obq h
      obtain ⟨hk1, h1⟩ := ifg h1
      refine kV1 (ci := 4) (As := [.int x1, .int x6, .int x8]) (rest := []) hC hE hS hM (mq_X4_increments _ E x0 x1 x6 x8 _ _ _ h1) (gwV qw_1002 qw_1003 qw_1004 qw_39 qw_1005) ⟨rfl, rfl, (Nat.le_of_ble_eq_true rfl), (Nat.le_of_ble_eq_true rfl)⟩ dd_X4_increments rfl hk1 rfl rfl hl.1 (Nat.le_of_ble_eq_true rfl) dL_replica_77 ⟨(Nat.le_of_ble_eq_true rfl), (Nat.le_of_ble_eq_true rfl)⟩ (fun H locs hM hS => ?_)
      refine lv_aload_n hx hb dL_replica_80 rfl (lv_at hl 1 rfl) ?_
      refine lv_iload hx hb dL_replica_81 (lv_at hl 8 rfl) ?_
      refine lv_iload hx hb dL_replica_83 (lv_at hl 6 rfl) ?_
      refine lv_iload hx hb dL_replica_85 (lv_at hl 8 rfl) ?_
      obtain ⟨v44, M45, h1, h⟩ := obq h
      obtain ⟨hk1, h1⟩ := ifg h1
      refine kV1 (ci := 4) (As := [.int x8, .int x6, .int x8]) (rest := [.int v42]) hC hE hS hM (mq_X4_increments _ E x0 x8 x6 x8 _ _ _ h1) (gwV qw_1002 qw_1003 qw_1004 qw_39 qw_1005) ⟨rfl, rfl, (Nat.le_of_ble_eq_true rfl), (Nat.le_of_ble_eq_true rfl)⟩ dd_X4_increments rfl hk1 rfl rfl hl.1 (Nat.le_of_ble_eq_true rfl) dL_replica_87 ⟨(Nat.le_of_ble_eq_true rfl), (Nat.le_of_ble_eq_true rfl)⟩ (fun H locs hM hS => ?_)
      refine lv_icmp_gt (tgt := 119) hx hb dL_replica_90 (by decide) (fun c1 => ?_) (fun c1 => ?_)
      · have h := ifp c1 h
        refine W.widen (k := 0) (n := 0) (Nat.le_of_ble_eq_true rfl) (Nat.le_of_ble_eq_true rfl) ?_
        exact tj_L_replica_119 hfl hC hr hlocks hE hy1 hy2  h hM hS (lv_sub hl [1, 2, 3, 4, 5, 6, 0, 8] rfl)
      · have h := ifn c1 h
        refine lv_aload_n hx hb dL_replica_93 rfl (lv_at hl 1 rfl) ?_
        refine lv_iload_n hx hb dL_replica_94 rfl (lv_at hl 2 rfl) ?_
        refine lv_iload hx hb dL_replica_95 (lv_at hl 6 rfl) ?_
        refine lv_iload hx hb dL_replica_97 (lv_at hl 8 rfl) ?_
        obtain ⟨v46, M47, h1, h⟩ := obq h
        obtain ⟨hk1, h1⟩ := ifg h1
        refine kV1 (ci := 4) (As := [.int x1, .int x6, .int x8]) (rest := []) hC hE hS hM (mq_X4_decrements _ E x0 x1 x6 x8 _ _ _ h1) (gwV qw_1011 qw_1012 qw_1013 qw_39 qw_1014) ⟨rfl, rfl, (Nat.le_of_ble_eq_true rfl), (Nat.le_of_ble_eq_true rfl)⟩ dd_X4_decrements rfl hk1 rfl rfl hl.1 (Nat.le_of_ble_eq_true rfl) dL_replica_99 ⟨(Nat.le_of_ble_eq_true rfl), (Nat.le_of_ble_eq_true rfl)⟩ (fun H locs hM hS => ?_)
        refine lv_aload_n hx hb dL_replica_102 rfl (lv_at hl 1 rfl) ?_
        refine lv_iload hx hb dL_replica_103 (lv_at hl 8 rfl) ?_
        refine lv_iload hx hb dL_replica_105 (lv_at hl 6 rfl) ?_
        refine lv_iload hx hb dL_replica_107 (lv_at hl 8 rfl) ?_
        obtain ⟨v48, M49, h1, h⟩ := obq h
        obtain ⟨hk1, h1⟩ := ifg h1
        refine kV1 (ci := 4) (As := [.int x8, .int x6, .int x8]) (rest := [.int v46]) hC hE hS hM (mq_X4_decrements _ E x0 x8 x6 x8 _ _ _ h1) (gwV qw_1011 qw_1012 qw_1013 qw_39 qw_1014) ⟨rfl, rfl, (Nat.le_of_ble_eq_true rfl), (Nat.le_of_ble_eq_true rfl)⟩ dd_X4_decrements rfl hk1 rfl rfl hl.1 (Nat.le_of_ble_eq_true rfl) dL_replica_109 ⟨(Nat.le_of_ble_eq_true rfl), (Nat.le_of_ble_eq_true rfl)⟩ (fun H locs hM hS => ?_)
        refine lv_icmp_gt (tgt := 119) hx hb dL_replica_112 (by decide) (fun c1 => ?_) (fun c1 => ?_)
        · have h := ifp c1 h
          refine W.widen (k := 0) (n := 0) (Nat.le_of_ble_eq_true rfl) (Nat.le_of_ble_eq_true rfl) ?_
          exact tj_L_replica_119 hfl hC hr hlocks hE hy1 hy2  h hM hS (lv_sub hl [1, 2, 3, 4, 5, 6, 0, 8] rfl)
        · have h := ifn c1 h
          refine lv_iconst (v := 1) hx hb dL_replica_115 (by decide) ?_
          refine lv_goto (tgt := 120) hx hb dL_replica_116 (by decide) ?_
          refine W.widen (k := 0) (n := 0) (Nat.le_of_ble_eq_true rfl) (Nat.le_of_ble_eq_true rfl) ?_
          exact tj_L_replica_120 hfl hC hr hlocks hE hy1 hy2  h hM hS (lv_sub hl [1, 2, 3, 4, 5, 6, 0, 8] rfl)
noncomputable def fc_L_replica_16 (x0 : Nat) (x1 : Int32) (x2 : Int32) (x3 : Int32) (x4 : Int32) (x5 : Int32) (x6 : Int32) (M : Mem) : Option ((Int32 × Int32 × Mem) ⊕ (Int32 × Mem)) :=
  bn (cK 5 x0 M (f_X4_counterCount x0 M)) fun v3 M4 =>
  (if v3 ≤ x6 then
  (fj_L_replica_158 x0 x1 x2 x3 x4 x5 M4).map Sum.inr
  else
  (if x5 = 0 then
  (fj_L_replica_158 x0 x1 x2 x3 x4 x5 M4).map Sum.inr
  else
  fj_L_replica_36 x0 x1 x2 x3 x4 x6 x5 0 0 M4))
noncomputable def fj_L_replica_16 (x0 : Nat) (x1 : Int32) (x2 : Int32) (x3 : Int32) (x4 : Int32) (x5 : Int32) (x6 : Int32) (M : Mem) : Option (Int32 × Mem) := loopM (fun q : (Int32 × Int32 × Mem) => fc_L_replica_16 x0 x1 x2 x3 x4 q.1 q.2.1 q.2.2) FU (x5, x6, M)
set_option maxHeartbeats 4000000 in
set_option maxRecDepth 100000 in
theorem tj_L_replica_16 {p : Program} {l : Launch} {e : Env} {s : State} {m : MethodId} {args : Array Value} {below : List Frame} {meth : Method} {c : Code} {E : KEnv} {H : Heap} {locs : List Loc} {ls : Array Slot} {x0 : Nat} {x1 : Int32} {x2 : Int32} {x3 : Int32} {x4 : Int32} {x5 : Int32} {x6 : Int32} {M : Mem} {v : Int32} {M' : Mem} (hfl : l.stackTraces = false) (hC : CallFix p m c cL_replica 10 s args lw_G RL) (hr : meth.sig.returnType = (some .boolean)) (hlocks : meth.locks = false) (hE : EnvOK E s) (h : fj_L_replica_16 x0 x1 x2 x3 x4 x5 x6 M = some (v, M')) (hM : MOK E M H) (hS : va_S (eA E) s.heap H locs) (hl : lv_has ls 10 [(0, .ref x0), (1, .int x1), (2, .int x2), (3, .int x3), (4, .int x4), (5, .int x5), (6, .int x6)]) : W p l e rm_L_replica s m args below meth c H locs 0 0 (MQ below (cQ E (some (.int v)) M') args s 2 12 (eA E)) (F0 m 16 ls []) := by
  refine loopM_ind (body := fun q : (Int32 × Int32 × Mem) => fc_L_replica_16 x0 x1 x2 x3 x4 q.1 q.2.1 q.2.2) (x0 := (v, M')) (Wd := fun q : (Int32 × Int32 × Mem) => ∀ (H : Heap) (locs : List Loc) (ls : Array Slot), MOK E (q.2.2) H → va_S (eA E) s.heap H locs → lv_has ls 10 [(0, .ref x0), (1, .int x1), (2, .int x2), (3, .int x3), (4, .int x4), (5, .int q.1), (6, .int q.2.1)] → W p l e rm_L_replica s m args below meth c H locs 0 0 (MQ below (cQ E (some (.int v)) M') args s 2 12 (eA E)) (F0 m 16 ls [])) ?_ FU (x5, x6, M) h H locs ls hM hS hl
  clear h hM hS hl H locs ls M x5 x6
  obtain ⟨hx, hb, hml, hown, hts⟩ := id hC
  intro q y1 h hy1 H locs ls hM hS hl
  obtain ⟨x5, x6, M⟩ := q
  have h : fc_L_replica_16 x0 x1 x2 x3 x4 x5 x6 M = some y1 := h
  have hM : MOK E M H := hM
  have hl : lv_has ls 10 [(0, .ref x0), (1, .int x1), (2, .int x2), (3, .int x3), (4, .int x4), (5, .int x5), (6, .int x6)] := hl
  unfold fc_L_replica_16 at h
  show W p l e rm_L_replica s m args below meth c H locs _ _ _ _
  refine lv_iload hx hb dL_replica_16 (lv_at hl 6 rfl) ?_
  refine lv_aload_n hx hb dL_replica_18 rfl (lv_at hl 0 rfl) ?_
  obtain ⟨v3, M4, h1, h⟩ := ob2 h
  obtain ⟨hk1, h1⟩ := ifg h1
  refine kV1 (ci := 4) (As := []) (rest := [.int x6]) hC hE hS hM (mt_X4_counterCount _ E x0 _ _ _ h1) (gwV qw_998 qw_999 qw_1000 qw_39 qw_1001) ⟨rfl, rfl, (Nat.le_of_ble_eq_true rfl), (Nat.le_of_ble_eq_true rfl)⟩ dd_X4_counterCount rfl hk1 rfl rfl hl.1 (Nat.le_of_ble_eq_true rfl) dL_replica_19 ⟨(Nat.le_of_ble_eq_true rfl), (Nat.le_of_ble_eq_true rfl)⟩ (fun H locs hM hS => ?_)
  refine lv_icmp_ge (tgt := 158) hx hb dL_replica_22 (by decide) (fun c1 => ?_) (fun c1 => ?_)
  · have h := ifp c1 h
    obtain ⟨z0, h9, rfl⟩ := om h
    have e0 := hy1.2 _ rfl
    subst e0
    have h := h9
    refine W.widen (k := 0) (n := 0) (Nat.le_of_ble_eq_true rfl) (Nat.le_of_ble_eq_true rfl) ?_
    exact tj_L_replica_158 hfl hC hr hlocks hE  h hM hS (lv_sub hl [0, 1, 2, 3, 4, 5] rfl)
  · have h := ifn c1 h
    refine lv_iload hx hb dL_replica_25 (lv_at hl 5 rfl) ?_
    refine lv_if_eq (tgt := 158) hx hb dL_replica_27 (by decide) (fun c1 => ?_) (fun c1 => ?_)
    · have h := ifp c1 h
      obtain ⟨z0, h9, rfl⟩ := om h
      have e0 := hy1.2 _ rfl
      subst e0
      have h := h9
      refine W.widen (k := 0) (n := 0) (Nat.le_of_ble_eq_true rfl) (Nat.le_of_ble_eq_true rfl) ?_
      exact tj_L_replica_158 hfl hC hr hlocks hE  h hM hS (lv_sub hl [0, 1, 2, 3, 4, 5] rfl)
    · have h := ifn c1 h
      refine lv_iconst (v := 0) hx hb dL_replica_30 (by decide) ?_
      refine lv_istore (lv' := [(7, .int 0), (0, .ref x0), (1, .int x1), (2, .int x2), (3, .int x3), (4, .int x4), (5, .int x5), (6, .int x6)]) hx hb dL_replica_31 hl (by decide) rfl (fun ls hl => ?_)
      refine lv_iconst (v := 0) hx hb dL_replica_33 (by decide) ?_
      refine lv_istore (lv' := [(8, .int 0), (7, .int 0), (0, .ref x0), (1, .int x1), (2, .int x2), (3, .int x3), (4, .int x4), (5, .int x5), (6, .int x6)]) hx hb dL_replica_34 hl (by decide) rfl (fun ls hl => ?_)
      refine W.widen (k := 0) (n := 0) (Nat.le_of_ble_eq_true rfl) (Nat.le_of_ble_eq_true rfl) ?_
      exact tj_L_replica_36 hfl hC hr hlocks hE hy1  h hM hS (lv_sub hl [2, 3, 4, 5, 6, 8, 7, 1, 0] rfl)
noncomputable def f_L_replica (a1 : Nat) (a2 : Int32) (M : Mem) : Option (Int32 × Mem) :=
  bn (cK 5 a1 M (f_X4_replicaCount a1 M)) fun v1 M2 =>
  fj_L_replica_16 a1 a2 v1 0 0 1 0 M2
set_option maxHeartbeats 4000000 in
set_option maxRecDepth 100000 in
theorem mt_L_replica (l : Launch) (hfl : l.stackTraces = false) (E : KEnv) (a1 : Nat) (a2 : Int32) (M M' : Mem) (v : Int32) (h : f_L_replica a1 a2 M = some (v, M')) : Met l yL_replica (Cond.code yL_replica cL_replica 10 (some .boolean) :: lw_G) rm_L_replica (cPc E [.ref a1, .int a2] M) (cQ E (some (.int v)) M') 2 12 (eA E) := by
  refine Met.ofW (cc := cL_replica) (maxL := 10) (ret := (some .boolean)) (by decide) rfl ?_
  intro p e s m args below meth c s₁ B hml hv
  obtain ⟨rfl, hE, hM⟩ := hv
  have hx := B.exec
  have hb := B.bytes
  have hr := B.returns
  have hts0 := atoms_spec (ws := Cond.code yL_replica cL_replica 10 (some .boolean) :: lw_G) B.pre
  have hts : ∀ w ∈ lw_G, w.before _ s = true := fun w hw => hts0 w (List.mem_cons_of_mem _ hw)
  have hown : s.vm.findClass RL = some m.cls := findClass_of_methodNamed B.named
  have hlocks := B.notSynchronized
  have hC : CallFix p m c cL_replica 10 s _ lw_G RL := ⟨hx, hb, hml, hown, hts⟩
  have hS : va_S (eA E) s.heap s.heap [] := va_S.rf
  have hl := lv_entry ([.ref a1, .int a2]) (n := 10) (Nat.le_of_ble_eq_true rfl)
  rw [lg_entry_eq]
  generalize (lg_sl ([.ref a1, .int a2]) ++ List.replicate (10 - (lg_sl ([.ref a1, .int a2])).length) Slot.unset).toArray = ls at hl ⊢
  have hl : lv_has ls 10 [(0, .ref a1), (1, .int a2)] := hl
  unfold f_L_replica at h
  show W p l e rm_L_replica s m _ below meth c s.heap [] 0 0 _ _
  refine lv_aload_n hx hb dL_replica_0 rfl (lv_at hl 0 rfl) ?_
  obtain ⟨v1, M2, h1, h⟩ := ob2 h
  obtain ⟨hk1, h1⟩ := ifg h1
  refine kV1 (ci := 4) (As := []) (rest := []) hC hE hS hM (mt_X4_replicaCount _ E a1 _ _ _ h1) (gwV qw_985 qw_986 qw_987 qw_39 qw_988) ⟨rfl, rfl, (Nat.le_of_ble_eq_true rfl), (Nat.le_of_ble_eq_true rfl)⟩ dd_X4_replicaCount rfl hk1 rfl rfl hl.1 (Nat.le_of_ble_eq_true rfl) dL_replica_1 ⟨(Nat.le_of_ble_eq_true rfl), (Nat.le_of_ble_eq_true rfl)⟩ (fun H locs hM hS => ?_)
  refine lv_istore_n (lv' := [(2, .int v1), (0, .ref a1), (1, .int a2)]) hx hb dL_replica_4 rfl hl (by decide) rfl (fun ls hl => ?_)
  refine lv_iconst (v := 0) hx hb dL_replica_5 (by decide) ?_
  refine lv_istore_n (lv' := [(3, .int 0), (2, .int v1), (0, .ref a1), (1, .int a2)]) hx hb dL_replica_6 rfl hl (by decide) rfl (fun ls hl => ?_)
  refine lv_iconst (v := 0) hx hb dL_replica_7 (by decide) ?_
  refine lv_istore (lv' := [(4, .int 0), (3, .int 0), (2, .int v1), (0, .ref a1), (1, .int a2)]) hx hb dL_replica_8 hl (by decide) rfl (fun ls hl => ?_)
  refine lv_iconst (v := 1) hx hb dL_replica_10 (by decide) ?_
  refine lv_istore (lv' := [(5, .int 1), (4, .int 0), (3, .int 0), (2, .int v1), (0, .ref a1), (1, .int a2)]) hx hb dL_replica_11 hl (by decide) rfl (fun ls hl => ?_)
  refine lv_iconst (v := 0) hx hb dL_replica_13 (by decide) ?_
  refine lv_istore (lv' := [(6, .int 0), (5, .int 1), (4, .int 0), (3, .int 0), (2, .int v1), (0, .ref a1), (1, .int a2)]) hx hb dL_replica_14 hl (by decide) rfl (fun ls hl => ?_)
  refine W.widen (k := 0) (n := 0) (Nat.le_of_ble_eq_true rfl) (Nat.le_of_ble_eq_true rfl) ?_
  exact tj_L_replica_16 hfl hC hr hlocks hE  h hM hS (lv_sub hl [5, 6, 4, 3, 2, 1, 0] rfl)
