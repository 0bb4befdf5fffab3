/-! printed by wip/p56/gen2.py: methods as functions over the memory, and that the code does what they say -/
theorem dd_L_act : yL_act.cls ≠ "java/lang/invoke/MethodHandle" ∧ yL_act.cls ≠ "java/lang/invoke/VarHandle" ∧ (parseMethodDescriptor yL_act.desc).map (fun d => d.parameters.length) = some 2 := by decide +kernel
abbrev rm_L_act : Room := ({ frames := 11, cells := 52, slots := 2730, locals := 221 } : Room)
noncomputable def fj_L_act_155 (s0 : Int32) (M : Mem) : Option (Int32 × Mem) :=
  (if s0 = 0 ∨ s0 = 1 then some (s0, M) else none)
set_option maxHeartbeats 4000000 in
set_option maxRecDepth 100000 in
theorem tj_L_act_155 {p : Program} {l : Launch} {e : Env} {s : State} {m : MethodId} {args : Array Value} {below : List Frame} {meth : Method} {c : Code} {E : KEnv} {H : Heap} {locs : List Loc} {ls : Array Slot} {s0 : Int32} {M : Mem} {v : Int32} {M' : Mem} (hfl : l.stackTraces = false) (hC : CallFix p m c cL_act 23 s args lw_G RL) (hr : meth.sig.returnType = (some .boolean)) (hlocks : meth.locks = false) (hE : EnvOK E s) (h : fj_L_act_155 s0 M = some (v, M')) (hM : MOK E M H) (hS : va_S (eA E) s.heap H locs) (hl : lv_has ls 23 []) : W p l e rm_L_act s m args below meth c H locs 26 1365 (MQ below (cQ E (some (.int v)) M') args s 52 2730 (eA E)) (F0 m 155 ls [.int s0]) := by
  obtain ⟨hx, hb, hml, hown, hts⟩ := id hC
  unfold fj_L_act_155 at h
  obtain ⟨h01, h⟩ := ifg h
  cases h
  exact eZ hx hb hr hlocks hM hS dL_act_155 (Nat.le_of_ble_eq_true rfl) (Nat.le_of_ble_eq_true rfl) h01
noncomputable def fj_L_act_154  (M : Mem) : Option (Int32 × Mem) :=
  fj_L_act_155 0 M
set_option maxHeartbeats 4000000 in
set_option maxRecDepth 100000 in
theorem tj_L_act_154 {p : Program} {l : Launch} {e : Env} {s : State} {m : MethodId} {args : Array Value} {below : List Frame} {meth : Method} {c : Code} {E : KEnv} {H : Heap} {locs : List Loc} {ls : Array Slot}  {M : Mem} {v : Int32} {M' : Mem} (hfl : l.stackTraces = false) (hC : CallFix p m c cL_act 23 s args lw_G RL) (hr : meth.sig.returnType = (some .boolean)) (hlocks : meth.locks = false) (hE : EnvOK E s) (h : fj_L_act_154  M = some (v, M')) (hM : MOK E M H) (hS : va_S (eA E) s.heap H locs) (hl : lv_has ls 23 []) : W p l e rm_L_act s m args below meth c H locs 26 1365 (MQ below (cQ E (some (.int v)) M') args s 52 2730 (eA E)) (F0 m 154 ls []) := by
  obtain ⟨hx, hb, hml, hown, hts⟩ := id hC
  unfold fj_L_act_154 at h
  refine lv_iconst (v := 0) hx hb dL_act_154 (by decide) ?_
  refine W.widen (k := 26) (n := 1365) (Nat.le_of_ble_eq_true rfl) (Nat.le_of_ble_eq_true rfl) ?_
  exact tj_L_act_155 hfl hC hr hlocks hE  h hM hS (lv_sub hl [] rfl)
noncomputable def fj_L_act_234 (s0 : Int32) (M : Mem) : Option (Int32 × Mem) :=
  (if s0 = 0 ∨ s0 = 1 then some (s0, M) else none)
set_option maxHeartbeats 4000000 in
set_option maxRecDepth 100000 in
theorem tj_L_act_234 {p : Program} {l : Launch} {e : Env} {s : State} {m : MethodId} {args : Array Value} {below : List Frame} {meth : Method} {c : Code} {E : KEnv} {H : Heap} {locs : List Loc} {ls : Array Slot} {s0 : Int32} {M : Mem} {v : Int32} {M' : Mem} (hfl : l.stackTraces = false) (hC : CallFix p m c cL_act 23 s args lw_G RL) (hr : meth.sig.returnType = (some .boolean)) (hlocks : meth.locks = false) (hE : EnvOK E s) (h : fj_L_act_234 s0 M = some (v, M')) (hM : MOK E M H) (hS : va_S (eA E) s.heap H locs) (hl : lv_has ls 23 []) : W p l e rm_L_act s m args below meth c H locs 52 2730 (MQ below (cQ E (some (.int v)) M') args s 52 2730 (eA E)) (F0 m 234 ls [.int s0]) := by
  obtain ⟨hx, hb, hml, hown, hts⟩ := id hC
  unfold fj_L_act_234 at h
  obtain ⟨h01, h⟩ := ifg h
  cases h
  exact eZ hx hb hr hlocks hM hS dL_act_234 (Nat.le_of_ble_eq_true rfl) (Nat.le_of_ble_eq_true rfl) h01
noncomputable def fj_L_act_233  (M : Mem) : Option (Int32 × Mem) :=
  fj_L_act_234 0 M
set_option maxHeartbeats 4000000 in
set_option maxRecDepth 100000 in
theorem tj_L_act_233 {p : Program} {l : Launch} {e : Env} {s : State} {m : MethodId} {args : Array Value} {below : List Frame} {meth : Method} {c : Code} {E : KEnv} {H : Heap} {locs : List Loc} {ls : Array Slot}  {M : Mem} {v : Int32} {M' : Mem} (hfl : l.stackTraces = false) (hC : CallFix p m c cL_act 23 s args lw_G RL) (hr : meth.sig.returnType = (some .boolean)) (hlocks : meth.locks = false) (hE : EnvOK E s) (h : fj_L_act_233  M = some (v, M')) (hM : MOK E M H) (hS : va_S (eA E) s.heap H locs) (hl : lv_has ls 23 []) : W p l e rm_L_act s m args below meth c H locs 52 2730 (MQ below (cQ E (some (.int v)) M') args s 52 2730 (eA E)) (F0 m 233 ls []) := by
  obtain ⟨hx, hb, hml, hown, hts⟩ := id hC
  unfold fj_L_act_233 at h
  refine lv_iconst (v := 0) hx hb dL_act_233 (by decide) ?_
  refine W.widen (k := 52) (n := 2730) (Nat.le_of_ble_eq_true rfl) (Nat.le_of_ble_eq_true rfl) ?_
  exact tj_L_act_234 hfl hC hr hlocks hE  h hM hS (lv_sub hl [] rfl)
noncomputable def fj_L_act_208  (M : Mem) : Option (Int32 × Mem) :=
  fj_L_act_234 0 M
set_option maxHeartbeats 4000000 in
set_option maxRecDepth 100000 in
theorem tj_L_act_208 {p : Program} {l : Launch} {e : Env} {s : State} {m : MethodId} {args : Array Value} {below : List Frame} {meth : Method} {c : Code} {E : KEnv} {H : Heap} {locs : List Loc} {ls : Array Slot}  {M : Mem} {v : Int32} {M' : Mem} (hfl : l.stackTraces = false) (hC : CallFix p m c cL_act 23 s args lw_G RL) (hr : meth.sig.returnType = (some .boolean)) (hlocks : meth.locks = false) (hE : EnvOK E s) (h : fj_L_act_208  M = some (v, M')) (hM : MOK E M H) (hS : va_S (eA E) s.heap H locs) (hl : lv_has ls 23 []) : W p l e rm_L_act s m args below meth c H locs 26 1365 (MQ below (cQ E (some (.int v)) M') args s 52 2730 (eA E)) (F0 m 208 ls []) := by
  obtain ⟨hx, hb, hml, hown, hts⟩ := id hC
  unfold fj_L_act_208 at h
  refine lv_iconst (v := 0) hx hb dL_act_208 (by decide) ?_
  refine lv_goto (tgt := 234) hx hb dL_act_209 (by decide) ?_
  refine W.widen (k := 52) (n := 2730) (Nat.le_of_ble_eq_true rfl) (Nat.le_of_ble_eq_true rfl) ?_
  exact tj_L_act_234 hfl hC hr hlocks hE  h hM hS (lv_sub hl [] rfl)
noncomputable def fj_L_act_327 (s0 : Int32) (M : Mem) : Option (Int32 × Mem) :=
  (if s0 = 0 ∨ s0 = 1 then some (s0, M) else none)
set_option maxHeartbeats 4000000 in
set_option maxRecDepth 100000 in
theorem tj_L_act_327 {p : Program} {l : Launch} {e : Env} {s : State} {m : MethodId} {args : Array Value} {below : List Frame} {meth : Method} {c : Code} {E : KEnv} {H : Heap} {locs : List Loc} {ls : Array Slot} {s0 : Int32} {M : Mem} {v : Int32} {M' : Mem} (hfl : l.stackTraces = false) (hC : CallFix p m c cL_act 23 s args lw_G RL) (hr : meth.sig.returnType = (some .boolean)) (hlocks : meth.locks = false) (hE : EnvOK E s) (h : fj_L_act_327 s0 M = some (v, M')) (hM : MOK E M H) (hS : va_S (eA E) s.heap H locs) (hl : lv_has ls 23 []) : W p l e rm_L_act s m args below meth c H locs 52 2730 (MQ below (cQ E (some (.int v)) M') args s 52 2730 (eA E)) (F0 m 327 ls [.int s0]) := by
  obtain ⟨hx, hb, hml, hown, hts⟩ := id hC
  unfold fj_L_act_327 at h
  obtain ⟨h01, h⟩ := ifg h
  cases h
  exact eZ hx hb hr hlocks hM hS dL_act_327 (Nat.le_of_ble_eq_true rfl) (Nat.le_of_ble_eq_true rfl) h01
noncomputable def fj_L_act_326  (M : Mem) : Option (Int32 × Mem) :=
  fj_L_act_327 0 M
set_option maxHeartbeats 4000000 in
set_option maxRecDepth 100000 in
theorem tj_L_act_326 {p : Program} {l : Launch} {e : Env} {s : State} {m : MethodId} {args : Array Value} {below : List Frame} {meth : Method} {c : Code} {E : KEnv} {H : Heap} {locs : List Loc} {ls : Array Slot}  {M : Mem} {v : Int32} {M' : Mem} (hfl : l.stackTraces = false) (hC : CallFix p m c cL_act 23 s args lw_G RL) (hr : meth.sig.returnType = (some .boolean)) (hlocks : meth.locks = false) (hE : EnvOK E s) (h : fj_L_act_326  M = some (v, M')) (hM : MOK E M H) (hS : va_S (eA E) s.heap H locs) (hl : lv_has ls 23 []) : W p l e rm_L_act s m args below meth c H locs 52 2730 (MQ below (cQ E (some (.int v)) M') args s 52 2730 (eA E)) (F0 m 326 ls []) := by
  obtain ⟨hx, hb, hml, hown, hts⟩ := id hC
  unfold fj_L_act_326 at h
  refine lv_iconst (v := 0) hx hb dL_act_326 (by decide) ?_
  refine W.widen (k := 52) (n := 2730) (Nat.le_of_ble_eq_true rfl) (Nat.le_of_ble_eq_true rfl) ?_
  exact tj_L_act_327 hfl hC hr hlocks hE  h hM hS (lv_sub hl [] rfl)
noncomputable def fj_L_act_269 (s0 : Int32) (M : Mem) : Option (Int32 × Mem) :=
  (if s0 = 0 ∨ s0 = 1 then some (s0, M) else none)
set_option maxHeartbeats 4000000 in
set_option maxRecDepth 100000 in
theorem tj_L_act_269 {p : Program} {l : Launch} {e : Env} {s : State} {m : MethodId} {args : Array Value} {below : List Frame} {meth : Method} {c : Code} {E : KEnv} {H : Heap} {locs : List Loc} {ls : Array Slot} {s0 : Int32} {M : Mem} {v : Int32} {M' : Mem} (hfl : l.stackTraces = false) (hC : CallFix p m c cL_act 23 s args lw_G RL) (hr : meth.sig.returnType = (some .boolean)) (hlocks : meth.locks = false) (hE : EnvOK E s) (h : fj_L_act_269 s0 M = some (v, M')) (hM : MOK E M H) (hS : va_S (eA E) s.heap H locs) (hl : lv_has ls 23 []) : W p l e rm_L_act s m args below meth c H locs 52 2730 (MQ below (cQ E (some (.int v)) M') args s 52 2730 (eA E)) (F0 m 269 ls [.int s0]) := by
  obtain ⟨hx, hb, hml, hown, hts⟩ := id hC
  unfold fj_L_act_269 at h
  obtain ⟨h01, h⟩ := ifg h
  cases h
  exact eZ hx hb hr hlocks hM hS dL_act_269 (Nat.le_of_ble_eq_true rfl) (Nat.le_of_ble_eq_true rfl) h01
noncomputable def fj_L_act_268  (M : Mem) : Option (Int32 × Mem) :=
  fj_L_act_269 0 M
set_option maxHeartbeats 4000000 in
set_option maxRecDepth 100000 in
theorem tj_L_act_268 {p : Program} {l : Launch} {e : Env} {s : State} {m : MethodId} {args : Array Value} {below : List Frame} {meth : Method} {c : Code} {E : KEnv} {H : Heap} {locs : List Loc} {ls : Array Slot}  {M : Mem} {v : Int32} {M' : Mem} (hfl : l.stackTraces = false) (hC : CallFix p m c cL_act 23 s args lw_G RL) (hr : meth.sig.returnType = (some .boolean)) (hlocks : meth.locks = false) (hE : EnvOK E s) (h : fj_L_act_268  M = some (v, M')) (hM : MOK E M H) (hS : va_S (eA E) s.heap H locs) (hl : lv_has ls 23 []) : W p l e rm_L_act s m args below meth c H locs 52 2730 (MQ below (cQ E (some (.int v)) M') args s 52 2730 (eA E)) (F0 m 268 ls []) := by
  obtain ⟨hx, hb, hml, hown, hts⟩ := id hC
  unfold fj_L_act_268 at h
  refine lv_iconst (v := 0) hx hb dL_act_268 (by decide) ?_
  refine W.widen (k := 52) (n := 2730) (Nat.le_of_ble_eq_true rfl) (Nat.le_of_ble_eq_true rfl) ?_
  exact tj_L_act_269 hfl hC hr hlocks hE  h hM hS (lv_sub hl [] rfl)
noncomputable def fj_L_act_419 (s0 : Int32) (M : Mem) : Option (Int32 × Mem) :=
  (if s0 = 0 ∨ s0 = 1 then some (s0, M) else none)
set_option maxHeartbeats 4000000 in
set_option maxRecDepth 100000 in
theorem tj_L_act_419 {p : Program} {l : Launch} {e : Env} {s : State} {m : MethodId} {args : Array Value} {below : List Frame} {meth : Method} {c : Code} {E : KEnv} {H : Heap} {locs : List Loc} {ls : Array Slot} {s0 : Int32} {M : Mem} {v : Int32} {M' : Mem} (hfl : l.stackTraces = false) (hC : CallFix p m c cL_act 23 s args lw_G RL) (hr : meth.sig.returnType = (some .boolean)) (hlocks : meth.locks = false) (hE : EnvOK E s) (h : fj_L_act_419 s0 M = some (v, M')) (hM : MOK E M H) (hS : va_S (eA E) s.heap H locs) (hl : lv_has ls 23 []) : W p l e rm_L_act s m args below meth c H locs 26 1365 (MQ below (cQ E (some (.int v)) M') args s 52 2730 (eA E)) (F0 m 419 ls [.int s0]) := by
  obtain ⟨hx, hb, hml, hown, hts⟩ := id hC
  unfold fj_L_act_419 at h
  obtain ⟨h01, h⟩ := ifg h
  cases h
  exact eZ hx hb hr hlocks hM hS dL_act_419 (Nat.le_of_ble_eq_true rfl) (Nat.le_of_ble_eq_true rfl) h01
noncomputable def fj_L_act_418  (M : Mem) : Option (Int32 × Mem) :=
  fj_L_act_419 0 M
set_option maxHeartbeats 4000000 in
set_option maxRecDepth 100000 in
theorem tj_L_act_418 {p : Program} {l : Launch} {e : Env} {s : State} {m : MethodId} {args : Array Value} {below : List Frame} {meth : Method} {c : Code} {E : KEnv} {H : Heap} {locs : List Loc} {ls : Array Slot}  {M : Mem} {v : Int32} {M' : Mem} (hfl : l.stackTraces = false) (hC : CallFix p m c cL_act 23 s args lw_G RL) (hr : meth.sig.returnType = (some .boolean)) (hlocks : meth.locks = false) (hE : EnvOK E s) (h : fj_L_act_418  M = some (v, M')) (hM : MOK E M H) (hS : va_S (eA E) s.heap H locs) (hl : lv_has ls 23 []) : W p l e rm_L_act s m args below meth c H locs 26 1365 (MQ below (cQ E (some (.int v)) M') args s 52 2730 (eA E)) (F0 m 418 ls []) := by
  obtain ⟨hx, hb, hml, hown, hts⟩ := id hC
  unfold fj_L_act_418 at h
  refine lv_iconst (v := 0) hx hb dL_act_418 (by decide) ?_
  refine W.widen (k := 26) (n := 1365) (Nat.le_of_ble_eq_true rfl) (Nat.le_of_ble_eq_true rfl) ?_
  exact tj_L_act_419 hfl hC hr hlocks hE  h hM hS (lv_sub hl [] rfl)
noncomputable def fj_L_act_362 (s0 : Int32) (M : Mem) : Option (Int32 × Mem) :=
  (if s0 = 0 ∨ s0 = 1 then some (s0, M) else none)
set_option maxHeartbeats 4000000 in
set_option maxRecDepth 100000 in
theorem tj_L_act_362 {p : Program} {l : Launch} {e : Env} {s : State} {m : MethodId} {args : Array Value} {below : List Frame} {meth : Method} {c : Code} {E : KEnv} {H : Heap} {locs : List Loc} {ls : Array Slot} {s0 : Int32} {M : Mem} {v : Int32} {M' : Mem} (hfl : l.stackTraces = false) (hC : CallFix p m c cL_act 23 s args lw_G RL) (hr : meth.sig.returnType = (some .boolean)) (hlocks : meth.locks = false) (hE : EnvOK E s) (h : fj_L_act_362 s0 M = some (v, M')) (hM : MOK E M H) (hS : va_S (eA E) s.heap H locs) (hl : lv_has ls 23 []) : W p l e rm_L_act s m args below meth c H locs 52 2730 (MQ below (cQ E (some (.int v)) M') args s 52 2730 (eA E)) (F0 m 362 ls [.int s0]) := by
  obtain ⟨hx, hb, hml, hown, hts⟩ := id hC
  unfold fj_L_act_362 at h
  obtain ⟨h01, h⟩ := ifg h
  cases h
  exact eZ hx hb hr hlocks hM hS dL_act_362 (Nat.le_of_ble_eq_true rfl) (Nat.le_of_ble_eq_true rfl) h01
noncomputable def fj_L_act_361  (M : Mem) : Option (Int32 × Mem) :=
  fj_L_act_362 0 M
set_option maxHeartbeats 4000000 in
set_option maxRecDepth 100000 in
theorem tj_L_act_361 {p : Program} {l : Launch} {e : Env} {s : State} {m : MethodId} {args : Array Value} {below : List Frame} {meth : Method} {c : Code} {E : KEnv} {H : Heap} {locs : List Loc} {ls : Array Slot}  {M : Mem} {v : Int32} {M' : Mem} (hfl : l.stackTraces = false) (hC : CallFix p m c cL_act 23 s args lw_G RL) (hr : meth.sig.returnType = (some .boolean)) (hlocks : meth.locks = false) (hE : EnvOK E s) (h : fj_L_act_361  M = some (v, M')) (hM : MOK E M H) (hS : va_S (eA E) s.heap H locs) (hl : lv_has ls 23 []) : W p l e rm_L_act s m args below meth c H locs 52 2730 (MQ below (cQ E (some (.int v)) M') args s 52 2730 (eA E)) (F0 m 361 ls []) := by
  obtain ⟨hx, hb, hml, hown, hts⟩ := id hC
  unfold fj_L_act_361 at h
  refine lv_iconst (v := 0) hx hb dL_act_361 (by decide) ?_
  refine W.widen (k := 52) (n := 2730) (Nat.le_of_ble_eq_true rfl) (Nat.le_of_ble_eq_true rfl) ?_
  exact tj_L_act_362 hfl hC hr hlocks hE  h hM hS (lv_sub hl [] rfl)
noncomputable def fj_L_act_491 (s0 : Int32) (M : Mem) : Option (Int32 × Mem) :=
  (if s0 = 0 ∨ s0 = 1 then some (s0, M) else none)
set_option maxHeartbeats 4000000 in
set_option maxRecDepth 100000 in
theorem tj_L_act_491 {p : Program} {l : Launch} {e : Env} {s : State} {m : MethodId} {args : Array Value} {below : List Frame} {meth : Method} {c : Code} {E : KEnv} {H : Heap} {locs : List Loc} {ls : Array Slot} {s0 : Int32} {M : Mem} {v : Int32} {M' : Mem} (hfl : l.stackTraces = false) (hC : CallFix p m c cL_act 23 s args lw_G RL) (hr : meth.sig.returnType = (some .boolean)) (hlocks : meth.locks = false) (hE : EnvOK E s) (h : fj_L_act_491 s0 M = some (v, M')) (hM : MOK E M H) (hS : va_S (eA E) s.heap H locs) (hl : lv_has ls 23 []) : W p l e rm_L_act s m args below meth c H locs 51 2724 (MQ below (cQ E (some (.int v)) M') args s 52 2730 (eA E)) (F0 m 491 ls [.int s0]) := by
  obtain ⟨hx, hb, hml, hown, hts⟩ := id hC
  unfold fj_L_act_491 at h
  obtain ⟨h01, h⟩ := ifg h
  cases h
  exact eZ hx hb hr hlocks hM hS dL_act_491 (Nat.le_of_ble_eq_true rfl) (Nat.le_of_ble_eq_true rfl) h01
noncomputable def fj_L_act_490  (M : Mem) : Option (Int32 × Mem) :=
  fj_L_act_491 0 M
set_option maxHeartbeats 4000000 in
set_option maxRecDepth 100000 in
theorem tj_L_act_490 {p : Program} {l : Launch} {e : Env} {s : State} {m : MethodId} {args : Array Value} {below : List Frame} {meth : Method} {c : Code} {E : KEnv} {H : Heap} {locs : List Loc} {ls : Array Slot}  {M : Mem} {v : Int32} {M' : Mem} (hfl : l.stackTraces = false) (hC : CallFix p m c cL_act 23 s args lw_G RL) (hr : meth.sig.returnType = (some .boolean)) (hlocks : meth.locks = false) (hE : EnvOK E s) (h : fj_L_act_490  M = some (v, M')) (hM : MOK E M H) (hS : va_S (eA E) s.heap H locs) (hl : lv_has ls 23 []) : W p l e rm_L_act s m args below meth c H locs 25 1359 (MQ below (cQ E (some (.int v)) M') args s 52 2730 (eA E)) (F0 m 490 ls []) := by
  obtain ⟨hx, hb, hml, hown, hts⟩ := id hC
  unfold fj_L_act_490 at h
  refine lv_iconst (v := 0) hx hb dL_act_490 (by decide) ?_
  refine W.widen (k := 51) (n := 2724) (Nat.le_of_ble_eq_true rfl) (Nat.le_of_ble_eq_true rfl) ?_
  exact tj_L_act_491 hfl hC hr hlocks hE  h hM hS (lv_sub hl [] rfl)
noncomputable def fj_L_act_455  (M : Mem) : Option (Int32 × Mem) :=
  fj_L_act_491 0 M
set_option maxHeartbeats 4000000 in
set_option maxRecDepth 100000 in
theorem tj_L_act_455 {p : Program} {l : Launch} {e : Env} {s : State} {m : MethodId} {args : Array Value} {below : List Frame} {meth : Method} {c : Code} {E : KEnv} {H : Heap} {locs : List Loc} {ls : Array Slot}  {M : Mem} {v : Int32} {M' : Mem} (hfl : l.stackTraces = false) (hC : CallFix p m c cL_act 23 s args lw_G RL) (hr : meth.sig.returnType = (some .boolean)) (hlocks : meth.locks = false) (hE : EnvOK E s) (h : fj_L_act_455  M = some (v, M')) (hM : MOK E M H) (hS : va_S (eA E) s.heap H locs) (hl : lv_has ls 23 []) : W p l e rm_L_act s m args below meth c H locs 51 2724 (MQ below (cQ E (some (.int v)) M') args s 52 2730 (eA E)) (F0 m 455 ls []) := by
  obtain ⟨hx, hb, hml, hown, hts⟩ := id hC
  unfold fj_L_act_455 at h
  refine lv_iconst (v := 0) hx hb dL_act_455 (by decide) ?_
  refine lv_goto (tgt := 491) hx hb dL_act_456 (by decide) ?_
  refine W.widen (k := 51) (n := 2724) (Nat.le_of_ble_eq_true rfl) (Nat.le_of_ble_eq_true rfl) ?_
  exact tj_L_act_491 hfl hC hr hlocks hE  h hM hS (lv_sub hl [] rfl)
noncomputable def fj_L_act_596 (s0 : Int32) (M : Mem) : Option (Int32 × Mem) :=
  (if s0 = 0 ∨ s0 = 1 then some (s0, M) else none)
set_option maxHeartbeats 4000000 in
set_option maxRecDepth 100000 in
theorem tj_L_act_596 {p : Program} {l : Launch} {e : Env} {s : State} {m : MethodId} {args : Array Value} {below : List Frame} {meth : Method} {c : Code} {E : KEnv} {H : Heap} {locs : List Loc} {ls : Array Slot} {s0 : Int32} {M : Mem} {v : Int32} {M' : Mem} (hfl : l.stackTraces = false) (hC : CallFix p m c cL_act 23 s args lw_G RL) (hr : meth.sig.returnType = (some .boolean)) (hlocks : meth.locks = false) (hE : EnvOK E s) (h : fj_L_act_596 s0 M = some (v, M')) (hM : MOK E M H) (hS : va_S (eA E) s.heap H locs) (hl : lv_has ls 23 []) : W p l e rm_L_act s m args below meth c H locs 52 2730 (MQ below (cQ E (some (.int v)) M') args s 52 2730 (eA E)) (F0 m 596 ls [.int s0]) := by
  obtain ⟨hx, hb, hml, hown, hts⟩ := id hC
  unfold fj_L_act_596 at h
  obtain ⟨h01, h⟩ := ifg h
  cases h
  exact eZ hx hb hr hlocks hM hS dL_act_596 (Nat.le_of_ble_eq_true rfl) (Nat.le_of_ble_eq_true rfl) h01
noncomputable def fj_L_act_595  (M : Mem) : Option (Int32 × Mem) :=
  fj_L_act_596 0 M
set_option maxHeartbeats 4000000 in
set_option maxRecDepth 100000 in
theorem tj_L_act_595 {p : Program} {l : Launch} {e : Env} {s : State} {m : MethodId} {args : Array Value} {below : List Frame} {meth : Method} {c : Code} {E : KEnv} {H : Heap} {locs : List Loc} {ls : Array Slot}  {M : Mem} {v : Int32} {M' : Mem} (hfl : l.stackTraces = false) (hC : CallFix p m c cL_act 23 s args lw_G RL) (hr : meth.sig.returnType = (some .boolean)) (hlocks : meth.locks = false) (hE : EnvOK E s) (h : fj_L_act_595  M = some (v, M')) (hM : MOK E M H) (hS : va_S (eA E) s.heap H locs) (hl : lv_has ls 23 []) : W p l e rm_L_act s m args below meth c H locs 26 1365 (MQ below (cQ E (some (.int v)) M') args s 52 2730 (eA E)) (F0 m 595 ls []) := by
  obtain ⟨hx, hb, hml, hown, hts⟩ := id hC
  unfold fj_L_act_595 at h
  refine lv_iconst (v := 0) hx hb dL_act_595 (by decide) ?_
  refine W.widen (k := 52) (n := 2730) (Nat.le_of_ble_eq_true rfl) (Nat.le_of_ble_eq_true rfl) ?_
  exact tj_L_act_596 hfl hC hr hlocks hE  h hM hS (lv_sub hl [] rfl)
noncomputable def fj_L_act_578 (x0 : Nat) (x3 : Int32) (x16 : Int32) (s0 : Int32) (s1 : Int32) (M : Mem) : Option (Int32 × Mem) :=
  (if s0 = s1 then
  bq (cK 5 x0 M (f_X4_isNews x0 x16 x3 M)) fun v75 M76 =>
  (if v75 = 0 then
  fj_L_act_596 1 M76
  else
  fj_L_act_595 M76)
  else
  fj_L_act_595 M)
set_option maxHeartbeats 4000000 in
set_option maxRecDepth 100000 in
theorem tj_L_act_578 {p : Program} {l : Launch} {e : Env} {s : State} {m : MethodId} {args : Array Value} {below : List Frame} {meth : Method} {c : Code} {E : KEnv} {H : Heap} {locs : List Loc} {ls : Array Slot} {x0 : Nat} {x3 : Int32} {x16 : Int32} {s0 : Int32} {s1 : Int32} {M : Mem} {v : Int32} {M' : Mem} (hfl : l.stackTraces = false) (hC : CallFix p m c cL_act 23 s args lw_G RL) (hr : meth.sig.returnType = (some .boolean)) (hlocks : meth.locks = false) (hE : EnvOK E s) (h : fj_L_act_578 x0 x3 x16 s0 s1 M = some (v, M')) (hM : MOK E M H) (hS : va_S (eA E) s.heap H locs) (hl : lv_has ls 23 [(0, .ref x0), (3, .int x3), (16, .int x16)]) : W p l e rm_L_act s m args below meth c H locs 26 1365 (MQ below (cQ E (some (.int v)) M') args s 52 2730 (eA E)) (F0 m 578 ls [.int s1, .int s0]) := by
  obtain ⟨hx, hb, hml, hown, hts⟩ := id hC
  unfold fj_L_act_578 at h
  refine lv_icmp_ne (tgt := 595) hx hb dL_act_578 (by decide) (fun c1 => ?_) (fun c1 => ?_)
  · have h := ifn c1 h
    refine W.widen (k := 26) (n := 1365) (Nat.le_of_ble_eq_true rfl) (Nat.le_of_ble_eq_true rfl) ?_
    exact tj_L_act_595 hfl hC hr hlocks hE  h hM hS (lv_sub hl [] rfl)
  · have h := ifp c1 h
    refine lv_aload_n hx hb dL_act_581 rfl (lv_at hl 0 rfl) ?_
    refine lv_iload hx hb dL_act_582 (lv_at hl 2 rfl) ?_
    refine lv_iload_n hx hb dL_act_584 rfl (lv_at hl 1 rfl) ?_
    obtain ⟨v75, M76, h1, h⟩ := obq h
    obtain ⟨hk1, h1⟩ := ifg h1
    refine kV1 (ci := 4) (As := [.int x16, .int x3]) (rest := []) hC hE hS hM (mq_X4_isNews _ E x0 x16 x3 _ _ _ h1) (gwV qw_1040 qw_1041 qw_1042 qw_39 qw_1043) ⟨rfl, rfl, (Nat.le_of_ble_eq_true rfl), (Nat.le_of_ble_eq_true rfl)⟩ dd_X4_isNews rfl hk1 rfl rfl hl.1 (Nat.le_of_ble_eq_true rfl) dL_act_585 ⟨(Nat.le_of_ble_eq_true rfl), (Nat.le_of_ble_eq_true rfl)⟩ (fun H locs hM hS => ?_)
    refine lv_if_ne (tgt := 595) hx hb dL_act_588 (by decide) (fun c1 => ?_) (fun c1 => ?_)
    · have h := ifn c1 h
      refine W.widen (k := 26) (n := 1365) (Nat.le_of_ble_eq_true rfl) (Nat.le_of_ble_eq_true rfl) ?_
      exact tj_L_act_595 hfl hC hr hlocks hE  h hM hS (lv_sub hl [] rfl)
    · have h := ifp c1 h
      refine lv_iconst (v := 1) hx hb dL_act_591 (by decide) ?_
      refine lv_goto (tgt := 596) hx hb dL_act_592 (by decide) ?_
      refine W.widen (k := 52) (n := 2730) (Nat.le_of_ble_eq_true rfl) (Nat.le_of_ble_eq_true rfl) ?_
      exact tj_L_act_596 hfl hC hr hlocks hE  h hM hS (lv_sub hl [] rfl)
noncomputable def fj_L_act_562  (M : Mem) : Option (Int32 × Mem) :=
  fj_L_act_596 0 M
set_option maxHeartbeats 4000000 in
set_option maxRecDepth 100000 in
theorem tj_L_act_562 {p : Program} {l : Launch} {e : Env} {s : State} {m : MethodId} {args : Array Value} {below : List Frame} {meth : Method} {c : Code} {E : KEnv} {H : Heap} {locs : List Loc} {ls : Array Slot}  {M : Mem} {v : Int32} {M' : Mem} (hfl : l.stackTraces = false) (hC : CallFix p m c cL_act 23 s args lw_G RL) (hr : meth.sig.returnType = (some .boolean)) (hlocks : meth.locks = false) (hE : EnvOK E s) (h : fj_L_act_562  M = some (v, M')) (hM : MOK E M H) (hS : va_S (eA E) s.heap H locs) (hl : lv_has ls 23 []) : W p l e rm_L_act s m args below meth c H locs 52 2730 (MQ below (cQ E (some (.int v)) M') args s 52 2730 (eA E)) (F0 m 562 ls []) := by
  obtain ⟨hx, hb, hml, hown, hts⟩ := id hC
  unfold fj_L_act_562 at h
  refine lv_iconst (v := 0) hx hb dL_act_562 (by decide) ?_
  refine lv_goto (tgt := 596) hx hb dL_act_563 (by decide) ?_
  refine W.widen (k := 52) (n := 2730) (Nat.le_of_ble_eq_true rfl) (Nat.le_of_ble_eq_true rfl) ?_
  exact tj_L_act_596 hfl hC hr hlocks hE  h hM hS (lv_sub hl [] rfl)
noncomputable def fj_L_act_523 (x0 : Nat) (x3 : Int32) (x5 : Int32) (x16 : Int32) (s0 : Int32) (M : Mem) : Option (Int32 × Mem) :=
  bn (f_L_delivered x0 x16 x3 M) fun v73 M74 =>
  (if x16 < x5 then
  (if s0 = 0 then
  fj_L_act_578 x0 x3 x16 v73 0 M74
  else
  fj_L_act_578 x0 x3 x16 v73 1 M74)
  else
  (if v73 = (-5) then
  bn (f_L_added x0 x3 11 M74) fun v77 M78 =>
  (if v77 ≤ 0 then
  fj_L_act_562 M78
  else
  fj_L_act_596 1 M78)
  else
  fj_L_act_562 M74))
set_option maxHeartbeats 4000000 in
set_option maxRecDepth 100000 in
theorem tj_L_act_523 {p : Program} {l : Launch} {e : Env} {s : State} {m : MethodId} {args : Array Value} {below : List Frame} {meth : Method} {c : Code} {E : KEnv} {H : Heap} {locs : List Loc} {ls : Array Slot} {x0 : Nat} {x3 : Int32} {x5 : Int32} {x16 : Int32} {s0 : Int32} {M : Mem} {v : Int32} {M' : Mem} (hfl : l.stackTraces = false) (hC : CallFix p m c cL_act 23 s args lw_G RL) (hr : meth.sig.returnType = (some .boolean)) (hlocks : meth.locks = false) (hE : EnvOK E s) (h : fj_L_act_523 x0 x3 x5 x16 s0 M = some (v, M')) (hM : MOK E M H) (hS : va_S (eA E) s.heap H locs) (hl : lv_has ls 23 [(0, .ref x0), (3, .int x3), (5, .int x5), (16, .int x16)]) : W p l e rm_L_act s m args below meth c H locs 0 0 (MQ below (cQ E (some (.int v)) M') args s 52 2730 (eA E)) (F0 m 523 ls [.int s0]) := by
  obtain ⟨hx, hb, hml, hown, hts⟩ := id hC
  unfold fj_L_act_523 at h
  refine lv_istore (lv' := [(17, .int s0), (0, .ref x0), (3, .int x3), (5, .int x5), (16, .int x16)]) hx hb dL_act_523 hl (by decide) rfl (fun ls hl => ?_)
  refine lv_aload_n hx hb dL_act_525 rfl (lv_at hl 1 rfl) ?_
  refine lv_iload hx hb dL_act_526 (lv_at hl 4 rfl) ?_
  refine lv_iload_n hx hb dL_act_528 rfl (lv_at hl 2 rfl) ?_
  obtain ⟨v73, M74, h1, h⟩ := ob2 h
  refine kSW (As := [.ref x0, .int x16, .int x3]) (rest := []) hC hE hS hM (mt_L_delivered _ hfl E x0 x16 x3 _ _ _ h1) (gwSW qw_716 qw_717 qw_38 qz_L_delivered) ⟨rfl, rfl, (Nat.le_of_ble_eq_true rfl), (Nat.le_of_ble_eq_true rfl)⟩ dd_L_delivered rfl rfl hl.1 (Nat.le_of_ble_eq_true rfl) dL_act_529 ⟨(Nat.le_of_ble_eq_true rfl), (Nat.le_of_ble_eq_true rfl)⟩ (fun H locs hM hS => ?_)
  refine lv_istore (lv' := [(18, .int v73), (17, .int s0), (0, .ref x0), (3, .int x3), (5, .int x5), (16, .int x16)]) hx hb dL_act_532 hl (by decide) rfl (fun ls hl => ?_)
  refine lv_iload hx hb dL_act_534 (lv_at hl 5 rfl) ?_
  refine lv_iload hx hb dL_act_536 (lv_at hl 4 rfl) ?_
  refine lv_icmp_lt (tgt := 566) hx hb dL_act_538 (by decide) (fun c1 => ?_) (fun c1 => ?_)
  · have h := ifp c1 h
    refine lv_iload hx hb dL_act_566 (lv_at hl 0 rfl) ?_
    refine lv_iload hx hb dL_act_568 (lv_at hl 1 rfl) ?_
    refine lv_if_eq (tgt := 577) hx hb dL_act_570 (by decide) (fun c1 => ?_) (fun c1 => ?_)
    · have h := ifp c1 h
      refine lv_iconst (v := 0) hx hb dL_act_577 (by decide) ?_
      refine W.widen (k := 26) (n := 1365) (Nat.le_of_ble_eq_true rfl) (Nat.le_of_ble_eq_true rfl) ?_
      exact tj_L_act_578 hfl hC hr hlocks hE  h hM hS (lv_sub hl [2, 3, 5] rfl)
    · have h := ifn c1 h
      refine lv_iconst (v := 1) hx hb dL_act_573 (by decide) ?_
      refine lv_goto (tgt := 578) hx hb dL_act_574 (by decide) ?_
      refine W.widen (k := 26) (n := 1365) (Nat.le_of_ble_eq_true rfl) (Nat.le_of_ble_eq_true rfl) ?_
      exact tj_L_act_578 hfl hC hr hlocks hE  h hM hS (lv_sub hl [2, 3, 5] rfl)
  · have h := ifn c1 h
    refine lv_iload hx hb dL_act_541 (lv_at hl 0 rfl) ?_
    refine lv_bipush (v := (-5)) hx hb dL_act_543 (by decide) ?_
    refine lv_icmp_ne (tgt := 562) hx hb dL_act_545 (by decide) (fun c1 => ?_) (fun c1 => ?_)
    · have h := ifn c1 h
      refine W.widen (k := 52) (n := 2730) (Nat.le_of_ble_eq_true rfl) (Nat.le_of_ble_eq_true rfl) ?_
      exact tj_L_act_562 hfl hC hr hlocks hE  h hM hS (lv_sub hl [] rfl)
    · have h := ifp c1 h
      refine lv_aload_n hx hb dL_act_548 rfl (lv_at hl 2 rfl) ?_
      refine lv_iload_n hx hb dL_act_549 rfl (lv_at hl 3 rfl) ?_
      refine lv_bipush (v := 11) hx hb dL_act_550 (by decide) ?_
      obtain ⟨v77, M78, h1, h⟩ := ob2 h
      refine kSW (As := [.ref x0, .int x3, .int 11]) (rest := []) hC hE hS hM (mt_L_added _ hfl E x0 x3 11 _ _ _ h1) (gwSW qw_645 qw_646 qw_38 qz_L_added) ⟨rfl, rfl, (Nat.le_of_ble_eq_true rfl), (Nat.le_of_ble_eq_true rfl)⟩ dd_L_added rfl rfl hl.1 (Nat.le_of_ble_eq_true rfl) dL_act_552 ⟨(Nat.le_of_ble_eq_true rfl), (Nat.le_of_ble_eq_true rfl)⟩ (fun H locs hM hS => ?_)
      refine lv_if_le (tgt := 562) hx hb dL_act_555 (by decide) (fun c1 => ?_) (fun c1 => ?_)
      · have h := ifp c1 h
        refine W.widen (k := 52) (n := 2730) (Nat.le_of_ble_eq_true rfl) (Nat.le_of_ble_eq_true rfl) ?_
        exact tj_L_act_562 hfl hC hr hlocks hE  h hM hS (lv_sub hl [] rfl)
      · have h := ifn c1 h
        refine lv_iconst (v := 1) hx hb dL_act_558 (by decide) ?_
        refine lv_goto (tgt := 596) hx hb dL_act_559 (by decide) ?_
        refine W.widen (k := 52) (n := 2730) (Nat.le_of_ble_eq_true rfl) (Nat.le_of_ble_eq_true rfl) ?_
        exact tj_L_act_596 hfl hC hr hlocks hE  h hM hS (lv_sub hl [] rfl)
noncomputable def fj_L_act_522 (x0 : Nat) (x3 : Int32) (x5 : Int32) (x16 : Int32) (M : Mem) : Option (Int32 × Mem) :=
  fj_L_act_523 x0 x3 x5 x16 0 M
set_option maxHeartbeats 4000000 in
set_option maxRecDepth 100000 in
theorem tj_L_act_522 {p : Program} {l : Launch} {e : Env} {s : State} {m : MethodId} {args : Array Value} {below : List Frame} {meth : Method} {c : Code} {E : KEnv} {H : Heap} {locs : List Loc} {ls : Array Slot} {x0 : Nat} {x3 : Int32} {x5 : Int32} {x16 : Int32} {M : Mem} {v : Int32} {M' : Mem} (hfl : l.stackTraces = false) (hC : CallFix p m c cL_act 23 s args lw_G RL) (hr : meth.sig.returnType = (some .boolean)) (hlocks : meth.locks = false) (hE : EnvOK E s) (h : fj_L_act_522 x0 x3 x5 x16 M = some (v, M')) (hM : MOK E M H) (hS : va_S (eA E) s.heap H locs) (hl : lv_has ls 23 [(0, .ref x0), (3, .int x3), (5, .int x5), (16, .int x16)]) : W p l e rm_L_act s m args below meth c H locs 0 0 (MQ below (cQ E (some (.int v)) M') args s 52 2730 (eA E)) (F0 m 522 ls []) := by
  obtain ⟨hx, hb, hml, hown, hts⟩ := id hC
  unfold fj_L_act_522 at h
  refine lv_iconst (v := 0) hx hb dL_act_522 (by decide) ?_
  refine W.widen (k := 0) (n := 0) (Nat.le_of_ble_eq_true rfl) (Nat.le_of_ble_eq_true rfl) ?_
  exact tj_L_act_523 hfl hC hr hlocks hE  h hM hS (lv_sub hl [0, 1, 2, 3] rfl)
noncomputable def fj_L_act_647 (s0 : Int32) (M : Mem) : Option (Int32 × Mem) :=
  (if s0 = 0 ∨ s0 = 1 then some (s0, M) else none)
set_option maxHeartbeats 4000000 in
set_option maxRecDepth 100000 in
theorem tj_L_act_647 {p : Program} {l : Launch} {e : Env} {s : State} {m : MethodId} {args : Array Value} {below : List Frame} {meth : Method} {c : Code} {E : KEnv} {H : Heap} {locs : List Loc} {ls : Array Slot} {s0 : Int32} {M : Mem} {v : Int32} {M' : Mem} (hfl : l.stackTraces = false) (hC : CallFix p m c cL_act 23 s args lw_G RL) (hr : meth.sig.returnType = (some .boolean)) (hlocks : meth.locks = false) (hE : EnvOK E s) (h : fj_L_act_647 s0 M = some (v, M')) (hM : MOK E M H) (hS : va_S (eA E) s.heap H locs) (hl : lv_has ls 23 []) : W p l e rm_L_act s m args below meth c H locs 51 2724 (MQ below (cQ E (some (.int v)) M') args s 52 2730 (eA E)) (F0 m 647 ls [.int s0]) := by
  obtain ⟨hx, hb, hml, hown, hts⟩ := id hC
  unfold fj_L_act_647 at h
  obtain ⟨h01, h⟩ := ifg h
  cases h
  exact eZ hx hb hr hlocks hM hS dL_act_647 (Nat.le_of_ble_eq_true rfl) (Nat.le_of_ble_eq_true rfl) h01
noncomputable def fj_L_act_713 (s0 : Int32) (M : Mem) : Option (Int32 × Mem) :=
  (if s0 = 0 ∨ s0 = 1 then some (s0, M) else none)
set_option maxHeartbeats 4000000 in
set_option maxRecDepth 100000 in
theorem tj_L_act_713 {p : Program} {l : Launch} {e : Env} {s : State} {m : MethodId} {args : Array Value} {below : List Frame} {meth : Method} {c : Code} {E : KEnv} {H : Heap} {locs : List Loc} {ls : Array Slot} {s0 : Int32} {M : Mem} {v : Int32} {M' : Mem} (hfl : l.stackTraces = false) (hC : CallFix p m c cL_act 23 s args lw_G RL) (hr : meth.sig.returnType = (some .boolean)) (hlocks : meth.locks = false) (hE : EnvOK E s) (h : fj_L_act_713 s0 M = some (v, M')) (hM : MOK E M H) (hS : va_S (eA E) s.heap H locs) (hl : lv_has ls 23 []) : W p l e rm_L_act s m args below meth c H locs 24 1353 (MQ below (cQ E (some (.int v)) M') args s 52 2730 (eA E)) (F0 m 713 ls [.int s0]) := by
  obtain ⟨hx, hb, hml, hown, hts⟩ := id hC
  unfold fj_L_act_713 at h
  obtain ⟨h01, h⟩ := ifg h
  cases h
  exact eZ hx hb hr hlocks hM hS dL_act_713 (Nat.le_of_ble_eq_true rfl) (Nat.le_of_ble_eq_true rfl) h01
noncomputable def fj_L_act_712  (M : Mem) : Option (Int32 × Mem) :=
  fj_L_act_713 0 M
set_option maxHeartbeats 4000000 in
set_option maxRecDepth 100000 in
theorem tj_L_act_712 {p : Program} {l : Launch} {e : Env} {s : State} {m : MethodId} {args : Array Value} {below : List Frame} {meth : Method} {c : Code} {E : KEnv} {H : Heap} {locs : List Loc} {ls : Array Slot}  {M : Mem} {v : Int32} {M' : Mem} (hfl : l.stackTraces = false) (hC : CallFix p m c cL_act 23 s args lw_G RL) (hr : meth.sig.returnType = (some .boolean)) (hlocks : meth.locks = false) (hE : EnvOK E s) (h : fj_L_act_712  M = some (v, M')) (hM : MOK E M H) (hS : va_S (eA E) s.heap H locs) (hl : lv_has ls 23 []) : W p l e rm_L_act s m args below meth c H locs 24 1353 (MQ below (cQ E (some (.int v)) M') args s 52 2730 (eA E)) (F0 m 712 ls []) := by
  obtain ⟨hx, hb, hml, hown, hts⟩ := id hC
  unfold fj_L_act_712 at h
  refine lv_iconst (v := 0) hx hb dL_act_712 (by decide) ?_
  refine W.widen (k := 24) (n := 1353) (Nat.le_of_ble_eq_true rfl) (Nat.le_of_ble_eq_true rfl) ?_
  exact tj_L_act_713 hfl hC hr hlocks hE  h hM hS (lv_sub hl [] rfl)
noncomputable def f_L_act (a1 : Nat) (a2 : Nat) (M : Mem) : Option (Int32 × Mem) :=
  bn (cK 5 a1 M (f_X4_replicaCount a1 M)) fun v1 M2 =>
  bn (f_L_next a2 M2) fun v3 M4 =>
  (gz v1).bind fun _ =>
  bn (f_L_next a2 M4) fun v5 M6 =>
  (gz v1).bind fun _ =>
  bn (cK 5 a1 M6 (f_X4_messageCount a1 M6)) fun v7 M8 =>
  bn (f_L_next a2 M8) fun v9 M10 =>
  (if (v9 - v9 / 9 * 9) = 0 then
  bn (f_L_next a2 M10) fun v11 M12 =>
  bq (cK 5 a1 M12 (f_X4_versionEntry a1 (v3 - v3 / v1 * v1) (v3 - v3 / v1 * v1) M12)) fun v13 M14 =>
  bn (f_L_added a1 (v3 - v3 / v1 * v1) (v11 - v11 / 16 * 16) M14) fun v15 M16 =>
  (if v15 = (v13 + 1) then
  bq (cK 5 a1 M16 (f_X4_liveDots a1 (v3 - v3 / v1 * v1) (v11 - v11 / 16 * 16) M16)) fun v17 M18 =>
  (if v17 = 1 then
  bq (cK 5 a1 M18 (f_X4_tagDot a1 (v3 - v3 / v1 * v1) (v11 - v11 / 16 * 16) (v3 - v3 / v1 * v1) M18)) fun v19 M20 =>
  (if v19 = (v13 + 1) then
  bq (cK 5 a1 M20 (f_X4_versionEntry a1 (v3 - v3 / v1 * v1) (v3 - v3 / v1 * v1) M20)) fun v21 M22 =>
  (if v21 = (v13 + 1) then
  fj_L_act_155 1 M22
  else
  fj_L_act_154 M22)
  else
  fj_L_act_154 M20)
  else
  fj_L_act_154 M18)
  else
  fj_L_act_154 M16)
  else
  (if (v9 - v9 / 9 * 9) = 1 then
  bn (f_L_next a2 M10) fun v23 M24 =>
  bq (cK 5 a1 M24 (f_X4_liveDots a1 (v3 - v3 / v1 * v1) (v23 - v23 / 5 * 5) M24)) fun v25 M26 =>
  bn (f_L_removed a1 (v3 - v3 / v1 * v1) (v23 - v23 / 5 * 5) M26) fun v27 M28 =>
  (if v25 ≤ 0 then
  (if v27 = (-3) then
  bn (f_L_added a1 (v3 - v3 / v1 * v1) 15 M28) fun v29 M30 =>
  (if v29 ≤ 0 then
  fj_L_act_233 M30
  else
  fj_L_act_234 1 M30)
  else
  fj_L_act_233 M28)
  else
  (if v27 = v25 then
  bq (cK 5 a1 M28 (f_X4_hasTag a1 (v3 - v3 / v1 * v1) (v23 - v23 / 5 * 5) M28)) fun v31 M32 =>
  (if v31 = 0 then
  fj_L_act_234 1 M32
  else
  fj_L_act_208 M32)
  else
  fj_L_act_208 M28))
  else
  (if (v9 - v9 / 9 * 9) = 2 then
  bn (cK 5 a1 M10 (f_X4_counterCount a1 M10)) fun v33 M34 =>
  (if v33 = 0 then
  bn (f_L_counted a1 (v3 - v3 / v1 * v1) 0 1 M34) fun v43 M44 =>
  (if v43 = (-99995) then
  bn (f_L_added a1 (v3 - v3 / v1 * v1) 14 M44) fun v45 M46 =>
  (if v45 ≤ 0 then
  fj_L_act_268 M46
  else
  fj_L_act_269 1 M46)
  else
  fj_L_act_268 M44)
  else
  bq (cK 5 a1 M34 (f_X4_counterValue a1 (v3 - v3 / v1 * v1) 0 M34)) fun v35 M36 =>
  bn (f_L_next a2 M36) fun v37 M38 =>
  bn (f_L_counted a1 (v3 - v3 / v1 * v1) 0 (1 + (v37 - v37 / 99 * 99)) M38) fun v39 M40 =>
  (if v39 = (v35 + (1 + (v37 - v37 / 99 * 99))) then
  bn (f_L_discounted a1 (v3 - v3 / v1 * v1) 0 2 M40) fun v41 M42 =>
  (if v41 = ((v35 + (1 + (v37 - v37 / 99 * 99))) - 2) then
  fj_L_act_327 1 M42
  else
  fj_L_act_326 M42)
  else
  fj_L_act_326 M40))
  else
  (if (v9 - v9 / 9 * 9) = 3 then
  bn (cK 5 a1 M10 (f_X4_registerCount a1 M10)) fun v47 M48 =>
  (if v47 = 0 then
  bn (f_L_written a1 (v3 - v3 / v1 * v1) 0 1 M48) fun v59 M60 =>
  (if v59 = (-5) then
  bn (f_L_added a1 (v3 - v3 / v1 * v1) 13 M60) fun v61 M62 =>
  (if v61 ≤ 0 then
  fj_L_act_361 M62
  else
  fj_L_act_362 1 M62)
  else
  fj_L_act_361 M60)
  else
  bq (cK 5 a1 M48 (f_X4_entryCount a1 (v3 - v3 / v1 * v1) 0 M48)) fun v49 M50 =>
  bn (f_L_next a2 M50) fun v51 M52 =>
  bn (f_L_written a1 (v3 - v3 / v1 * v1) 0 (v51 - v51 / 100 * 100) M52) fun v53 M54 =>
  (if v53 = v49 then
  bq (cK 5 a1 M54 (f_X4_entryCount a1 (v3 - v3 / v1 * v1) 0 M54)) fun v55 M56 =>
  (if v55 = 1 then
  bq (cK 5 a1 M56 (f_X4_greatestValue a1 (v3 - v3 / v1 * v1) 0 M56)) fun v57 M58 =>
  (if v57 = (v51 - v51 / 100 * 100) then
  fj_L_act_419 1 M58
  else
  fj_L_act_418 M58)
  else
  fj_L_act_418 M56)
  else
  fj_L_act_418 M54))
  else
  (if (v9 - v9 / 9 * 9) = 4 then
  bn (f_L_sent a1 (v3 - v3 / v1 * v1) M10) fun v63 M64 =>
  (if v7 = 6 then
  (if v63 = (-3) then
  bn (f_L_added a1 (v3 - v3 / v1 * v1) 12 M64) fun v69 M70 =>
  (if v69 ≤ 0 then
  fj_L_act_455 M70
  else
  fj_L_act_491 1 M70)
  else
  fj_L_act_455 M64)
  else
  (if v63 = v7 then
  bq (cK 5 a1 M64 (f_X4_senderOf a1 v63 M64)) fun v65 M66 =>
  (if v65 = (v3 - v3 / v1 * v1) then
  bq (cK 5 a1 M66 (f_X4_isNews a1 v63 (v3 - v3 / v1 * v1) M66)) fun v67 M68 =>
  (if v67 = 0 then
  fj_L_act_491 1 M68
  else
  fj_L_act_490 M68)
  else
  fj_L_act_490 M66)
  else
  fj_L_act_490 M64))
  else
  (if (v9 - v9 / 9 * 9) = 5 then
  bn (f_L_next a2 M10) fun v71 M72 =>
  (if v7 ≤ (v71 - v71 / 6 * 6) then
  fj_L_act_522 a1 (v3 - v3 / v1 * v1) v7 (v71 - v71 / 6 * 6) M72
  else
  bq (cK 5 a1 M72 (f_X4_isNews a1 (v71 - v71 / 6 * 6) (v3 - v3 / v1 * v1) M72)) fun v79 M80 =>
  (if v79 = 0 then
  fj_L_act_522 a1 (v3 - v3 / v1 * v1) v7 (v71 - v71 / 6 * 6) M80
  else
  fj_L_act_523 a1 (v3 - v3 / v1 * v1) v7 (v71 - v71 / 6 * 6) 1 M80))
  else
  (if (v9 - v9 / 9 * 9) = 6 then
  bn (f_L_next a2 M10) fun v81 M82 =>
  bn (f_L_dropped a1 (v81 - v81 / 6 * 6) M82) fun v83 M84 =>
  (if (0 : Int32) ≤ v83 then
  (if v83 = (v7 - 1) then
  fj_L_act_647 1 M84
  else
  fj_L_act_647 0 M84)
  else
  bn (f_L_added a1 (v3 - v3 / v1 * v1) 10 M84) fun v85 M86 =>
  (if v85 ≤ 0 then
  fj_L_act_647 0 M86
  else
  fj_L_act_647 1 M86))
  else
  (if (v9 - v9 / 9 * 9) = 7 then
  bn (cK 5 a1 M10 (f_X4_differentStates a1 M10)) fun v87 M88 =>
  bn (cK 5 a1 M88 (f_X4_mergedTags a1 M88)) fun v89 M90 =>
  bn (cK 5 a1 M90 (f_X4_mergeAll a1 M90)) fun v91 M92 =>
  (if v91 < (v87 - 1) then
  fj_L_act_712 M92
  else
  (if v1 < v91 then
  fj_L_act_712 M92
  else
  bn (cK 5 a1 M92 (f_X4_differentStates a1 M92)) fun v93 M94 =>
  (if v93 = 1 then
  bq (cK 5 a1 M94 (f_X4_tagCount a1 (v3 - v3 / v1 * v1) M94)) fun v95 M96 =>
  (if v95 = v89 then
  bn (cK 5 a1 M96 (f_X4_completeShare a1 M96)) fun v97 M98 =>
  (if (Op.cmpValue (FP.fcmp v97 FP.fconst1) CmpOp.l) = 0 then
  fj_L_act_713 1 M98
  else
  fj_L_act_712 M98)
  else
  fj_L_act_712 M96)
  else
  fj_L_act_712 M94)))
  else
  bn (f_L_merging a1 (v3 - v3 / v1 * v1) (v5 - v5 / v1 * v1) M10) fun v99 M100 =>
  (if v99 = 0 ∨ v99 = 1 then some (v99, M100) else none)))))))))
set_option maxHeartbeats 4000000 in
set_option maxRecDepth 100000 in
theorem mt_L_act (l : Launch) (hfl : l.stackTraces = false) (E : KEnv) (a1 : Nat) (a2 : Nat) (M M' : Mem) (v : Int32) (h : f_L_act a1 a2 M = some (v, M')) : Met l yL_act (Cond.code yL_act cL_act 23 (some .boolean) :: lw_G) rm_L_act (cPc E [.ref a1, .ref a2] M) (cQ E (some (.int v)) M') 52 2730 (eA E) := by
  refine Met.ofW (cc := cL_act) (maxL := 23) (ret := (some .boolean)) (by decide) rfl ?_
  intro p e s m args below meth c s₁ B hml hv
  obtain ⟨rfl, hE, hM⟩ := hv
  have hx := B.exec
  have hb := B.bytes
  have hr := B.returns
  have hts0 := atoms_spec (ws := Cond.code yL_act cL_act 23 (some .boolean) :: lw_G) B.pre
  have hts : ∀ w ∈ lw_G, w.before _ s = true := fun w hw => hts0 w (List.mem_cons_of_mem _ hw)
  have hown : s.vm.findClass RL = some m.cls := findClass_of_methodNamed B.named
  have hlocks := B.notSynchronized
  have hC : CallFix p m c cL_act 23 s _ lw_G RL := ⟨hx, hb, hml, hown, hts⟩
  have hS : va_S (eA E) s.heap s.heap [] := va_S.rf
  have hl := lv_entry ([.ref a1, .ref a2]) (n := 23) (Nat.le_of_ble_eq_true rfl)
  rw [lg_entry_eq]
  generalize (lg_sl ([.ref a1, .ref a2]) ++ List.replicate (23 - (lg_sl ([.ref a1, .ref a2])).length) Slot.unset).toArray = ls at hl ⊢
  have hl : lv_has ls 23 [(0, .ref a1), (1, .ref a2)] := hl
  unfold f_L_act at h
  show W p l e rm_L_act s m _ below meth c s.heap [] 0 0 _ _
  refine lv_aload_n hx hb dL_act_0 rfl (lv_at hl 0 rfl) ?_
  obtain ⟨v1, M2, h1, h⟩ := ob2 h
  obtain ⟨hk1, h1⟩ := ifg h1
  refine kV1 (ci := 4) (As := []) (rest := []) hC hE hS hM (mt_X4_replicaCount _ E a1 _ _ _ h1) (gwV qw_985 qw_986 qw_987 qw_39 qw_988) ⟨rfl, rfl, (Nat.le_of_ble_eq_true rfl), (Nat.le_of_ble_eq_true rfl)⟩ dd_X4_replicaCount rfl hk1 rfl rfl hl.1 (Nat.le_of_ble_eq_true rfl) dL_act_1 ⟨(Nat.le_of_ble_eq_true rfl), (Nat.le_of_ble_eq_true rfl)⟩ (fun H locs hM hS => ?_)
  refine lv_istore_n (lv' := [(2, .int v1), (0, .ref a1), (1, .ref a2)]) hx hb dL_act_4 rfl hl (by decide) rfl (fun ls hl => ?_)
  refine lv_aload_n hx hb dL_act_5 rfl (lv_at hl 2 rfl) ?_
  obtain ⟨v3, M4, h1, h⟩ := ob2 h
  refine kS1 (As := [.ref a2]) (rest := []) hC hE hS hM (mt_L_next _ E a2 _ _ _ h1) (gwS qw_547 qw_548 qw_38 qw_549) ⟨rfl, rfl, (Nat.le_of_ble_eq_true rfl), (Nat.le_of_ble_eq_true rfl)⟩ dd_L_next rfl rfl hl.1 (Nat.le_of_ble_eq_true rfl) dL_act_6 ⟨(Nat.le_of_ble_eq_true rfl), (Nat.le_of_ble_eq_true rfl)⟩ (fun H locs hM hS => ?_)
  refine lv_iload_n hx hb dL_act_9 rfl (lv_at hl 0 rfl) ?_
  obtain ⟨_, h1, h⟩ := ob h
  have hne := (ifs h1).1
  refine lv_irem hx hb dL_act_10 hne ?_
  refine lv_istore_n (lv' := [(3, .int (v3 - v3 / v1 * v1)), (2, .int v1), (0, .ref a1), (1, .ref a2)]) hx hb dL_act_11 rfl hl (by decide) rfl (fun ls hl => ?_)
  refine lv_aload_n hx hb dL_act_12 rfl (lv_at hl 3 rfl) ?_
  obtain ⟨v5, M6, h1, h⟩ := ob2 h
  refine kS1 (As := [.ref a2]) (rest := []) hC hE hS hM (mt_L_next _ E a2 _ _ _ h1) (gwS qw_547 qw_548 qw_38 qw_549) ⟨rfl, rfl, (Nat.le_of_ble_eq_true rfl), (Nat.le_of_ble_eq_true rfl)⟩ dd_L_next rfl rfl hl.1 (Nat.le_of_ble_eq_true rfl) dL_act_13 ⟨(Nat.le_of_ble_eq_true rfl), (Nat.le_of_ble_eq_true rfl)⟩ (fun H locs hM hS => ?_)
  refine lv_iload_n hx hb dL_act_16 rfl (lv_at hl 1 rfl) ?_
  obtain ⟨_, h1, h⟩ := ob h
  have hne := (ifs h1).1
  refine lv_irem hx hb dL_act_17 hne ?_
  refine lv_istore (lv' := [(4, .int (v5 - v5 / v1 * v1)), (3, .int (v3 - v3 / v1 * v1)), (2, .int v1), (0, .ref a1), (1, .ref a2)]) hx hb dL_act_18 hl (by decide) rfl (fun ls hl => ?_)
  refine lv_aload_n hx hb dL_act_20 rfl (lv_at hl 3 rfl) ?_
  obtain ⟨v7, M8, h1, h⟩ := ob2 h
  obtain ⟨hk1, h1⟩ := ifg h1
  refine kV1 (ci := 4) (As := []) (rest := []) hC hE hS hM (mt_X4_messageCount _ E a1 _ _ _ h1) (gwV qw_989 qw_990 qw_991 qw_39 qw_992) ⟨rfl, rfl, (Nat.le_of_ble_eq_true rfl), (Nat.le_of_ble_eq_true rfl)⟩ dd_X4_messageCount rfl hk1 rfl rfl hl.1 (Nat.le_of_ble_eq_true rfl) dL_act_21 ⟨(Nat.le_of_ble_eq_true rfl), (Nat.le_of_ble_eq_true rfl)⟩ (fun H locs hM hS => ?_)
  refine lv_istore (lv' := [(5, .int v7), (4, .int (v5 - v5 / v1 * v1)), (3, .int (v3 - v3 / v1 * v1)), (2, .int v1), (0, .ref a1), (1, .ref a2)]) hx hb dL_act_24 hl (by decide) rfl (fun ls hl => ?_)
  refine lv_aload_n hx hb dL_act_26 rfl (lv_at hl 5 rfl) ?_
  obtain ⟨v9, M10, h1, h⟩ := ob2 h
  refine kS1 (As := [.ref a2]) (rest := []) hC hE hS hM (mt_L_next _ E a2 _ _ _ h1) (gwS qw_547 qw_548 qw_38 qw_549) ⟨rfl, rfl, (Nat.le_of_ble_eq_true rfl), (Nat.le_of_ble_eq_true rfl)⟩ dd_L_next rfl rfl hl.1 (Nat.le_of_ble_eq_true rfl) dL_act_27 ⟨(Nat.le_of_ble_eq_true rfl), (Nat.le_of_ble_eq_true rfl)⟩ (fun H locs hM hS => ?_)
  refine lv_bipush (v := 9) hx hb dL_act_30 (by decide) ?_
  refine lv_irem hx hb dL_act_32 (by decide) ?_
  by_cases c0 : (v9 - v9 / 9 * 9) = 0
  · have h := ifp c0 h
    refine lv_tableIn (off := 47) (tgt := 80) hx hb dL_act_33 (by rw [c0]; decide) (by rw [c0]; decide) (by rw [c0]; rfl) (by decide) ?_
    refine lv_aload_n hx hb dL_act_80 rfl (lv_at hl 5 rfl) ?_
    obtain ⟨v11, M12, h1, h⟩ := ob2 h
    refine kS1 (As := [.ref a2]) (rest := []) hC hE hS hM (mt_L_next _ E a2 _ _ _ h1) (gwS qw_547 qw_548 qw_38 qw_549) ⟨rfl, rfl, (Nat.le_of_ble_eq_true rfl), (Nat.le_of_ble_eq_true rfl)⟩ dd_L_next rfl rfl hl.1 (Nat.le_of_ble_eq_true rfl) dL_act_81 ⟨(Nat.le_of_ble_eq_true rfl), (Nat.le_of_ble_eq_true rfl)⟩ (fun H locs hM hS => ?_)
    refine lv_bipush (v := 16) hx hb dL_act_84 (by decide) ?_
    refine lv_irem hx hb dL_act_86 (by decide) ?_
    refine lv_istore (lv' := [(6, .int (v11 - v11 / 16 * 16)), (5, .int v7), (4, .int (v5 - v5 / v1 * v1)), (3, .int (v3 - v3 / v1 * v1)), (2, .int v1), (0, .ref a1), (1, .ref a2)]) hx hb dL_act_87 hl (by decide) rfl (fun ls hl => ?_)
    refine lv_aload_n hx hb dL_act_89 rfl (lv_at hl 5 rfl) ?_
    refine lv_iload_n hx hb dL_act_90 rfl (lv_at hl 3 rfl) ?_
    refine lv_iload_n hx hb dL_act_91 rfl (lv_at hl 3 rfl) ?_
    obtain ⟨v13, M14, h1, h⟩ := obq h
    obtain ⟨hk1, h1⟩ := ifg h1
    refine kV1 (ci := 4) (As := [.int (v3 - v3 / v1 * v1), .int (v3 - v3 / v1 * v1)]) (rest := []) hC hE hS hM (mq_X4_versionEntry _ E a1 (v3 - v3 / v1 * v1) (v3 - v3 / v1 * v1) _ _ _ h1) (gwV qw_994 qw_995 qw_996 qw_39 qw_997) ⟨rfl, rfl, (Nat.le_of_ble_eq_true rfl), (Nat.le_of_ble_eq_true rfl)⟩ dd_X4_versionEntry rfl hk1 rfl rfl hl.1 (Nat.le_of_ble_eq_true rfl) dL_act_92 ⟨(Nat.le_of_ble_eq_true rfl), (Nat.le_of_ble_eq_true rfl)⟩ (fun H locs hM hS => ?_)
    refine lv_istore (lv' := [(7, .int v13), (6, .int (v11 - v11 / 16 * 16)), (5, .int v7), (4, .int (v5 - v5 / v1 * v1)), (3, .int (v3 - v3 / v1 * v1)), (2, .int v1), (0, .ref a1), (1, .ref a2)]) hx hb dL_act_95 hl (by decide) rfl (fun ls hl => ?_)
    refine lv_aload_n hx hb dL_act_97 rfl (lv_at hl 6 rfl) ?_
    refine lv_iload_n hx hb dL_act_98 rfl (lv_at hl 4 rfl) ?_
    refine lv_iload hx hb dL_act_99 (lv_at hl 1 rfl) ?_
    obtain ⟨v15, M16, h1, h⟩ := ob2 h
    refine kSW (As := [.ref a1, .int (v3 - v3 / v1 * v1), .int (v11 - v11 / 16 * 16)]) (rest := []) hC hE hS hM (mt_L_added _ hfl E a1 (v3 - v3 / v1 * v1) (v11 - v11 / 16 * 16) _ _ _ h1) (gwSW qw_645 qw_646 qw_38 qz_L_added) ⟨rfl, rfl, (Nat.le_of_ble_eq_true rfl), (Nat.le_of_ble_eq_true rfl)⟩ dd_L_added rfl rfl hl.1 (Nat.le_of_ble_eq_true rfl) dL_act_101 ⟨(Nat.le_of_ble_eq_true rfl), (Nat.le_of_ble_eq_true rfl)⟩ (fun H locs hM hS => ?_)
    refine lv_iload hx hb dL_act_104 (lv_at hl 0 rfl) ?_
    refine lv_iconst (v := 1) hx hb dL_act_106 (by decide) ?_
    refine lv_iadd hx hb dL_act_107 ?_
    refine lv_icmp_ne (tgt := 154) hx hb dL_act_108 (by decide) (fun c1 => ?_) (fun c1 => ?_)
    · have h := ifn c1 h
      refine W.widen (k := 26) (n := 1365) (Nat.le_of_ble_eq_true rfl) (Nat.le_of_ble_eq_true rfl) ?_
      exact tj_L_act_154 hfl hC hr hlocks hE  h hM hS (lv_sub hl [] rfl)
    · have h := ifp c1 h
      refine lv_aload_n hx hb dL_act_111 rfl (lv_at hl 6 rfl) ?_
      refine lv_iload_n hx hb dL_act_112 rfl (lv_at hl 4 rfl) ?_
      refine lv_iload hx hb dL_act_113 (lv_at hl 1 rfl) ?_
      obtain ⟨v17, M18, h1, h⟩ := obq h
      obtain ⟨hk1, h1⟩ := ifg h1
      refine kV1 (ci := 4) (As := [.int (v3 - v3 / v1 * v1), .int (v11 - v11 / 16 * 16)]) (rest := []) hC hE hS hM (mq_X4_liveDots _ E a1 (v3 - v3 / v1 * v1) (v11 - v11 / 16 * 16) _ _ _ h1) (gwV qw_1059 qw_1060 qw_1061 qw_39 qw_1062) ⟨rfl, rfl, (Nat.le_of_ble_eq_true rfl), (Nat.le_of_ble_eq_true rfl)⟩ dd_X4_liveDots rfl hk1 rfl rfl hl.1 (Nat.le_of_ble_eq_true rfl) dL_act_115 ⟨(Nat.le_of_ble_eq_true rfl), (Nat.le_of_ble_eq_true rfl)⟩ (fun H locs hM hS => ?_)
      refine lv_iconst (v := 1) hx hb dL_act_118 (by decide) ?_
      refine lv_icmp_ne (tgt := 154) hx hb dL_act_119 (by decide) (fun c1 => ?_) (fun c1 => ?_)
      · have h := ifn c1 h
        refine W.widen (k := 26) (n := 1365) (Nat.le_of_ble_eq_true rfl) (Nat.le_of_ble_eq_true rfl) ?_
        exact tj_L_act_154 hfl hC hr hlocks hE  h hM hS (lv_sub hl [] rfl)
      · have h := ifp c1 h
        refine lv_aload_n hx hb dL_act_122 rfl (lv_at hl 6 rfl) ?_
        refine lv_iload_n hx hb dL_act_123 rfl (lv_at hl 4 rfl) ?_
        refine lv_iload hx hb dL_act_124 (lv_at hl 1 rfl) ?_
        refine lv_iload_n hx hb dL_act_126 rfl (lv_at hl 4 rfl) ?_
        obtain ⟨v19, M20, h1, h⟩ := obq h
        obtain ⟨hk1, h1⟩ := ifg h1
        refine kV1 (ci := 4) (As := [.int (v3 - v3 / v1 * v1), .int (v11 - v11 / 16 * 16), .int (v3 - v3 / v1 * v1)]) (rest := []) hC hE hS hM (mq_X4_tagDot _ E a1 (v3 - v3 / v1 * v1) (v11 - v11 / 16 * 16) (v3 - v3 / v1 * v1) _ _ _ h1) (gwV qw_1015 qw_1016 qw_1017 qw_39 qw_1018) ⟨rfl, rfl, (Nat.le_of_ble_eq_true rfl), (Nat.le_of_ble_eq_true rfl)⟩ dd_X4_tagDot rfl hk1 rfl rfl hl.1 (Nat.le_of_ble_eq_true rfl) dL_act_127 ⟨(Nat.le_of_ble_eq_true rfl), (Nat.le_of_ble_eq_true rfl)⟩ (fun H locs hM hS => ?_)
        refine lv_iload hx hb dL_act_130 (lv_at hl 0 rfl) ?_
        refine lv_iconst (v := 1) hx hb dL_act_132 (by decide) ?_
        refine lv_iadd hx hb dL_act_133 ?_
        refine lv_icmp_ne (tgt := 154) hx hb dL_act_134 (by decide) (fun c1 => ?_) (fun c1 => ?_)
        · have h := ifn c1 h
          refine W.widen (k := 26) (n := 1365) (Nat.le_of_ble_eq_true rfl) (Nat.le_of_ble_eq_true rfl) ?_
          exact tj_L_act_154 hfl hC hr hlocks hE  h hM hS (lv_sub hl [] rfl)
        · have h := ifp c1 h
          refine lv_aload_n hx hb dL_act_137 rfl (lv_at hl 6 rfl) ?_
          refine lv_iload_n hx hb dL_act_138 rfl (lv_at hl 4 rfl) ?_
          refine lv_iload_n hx hb dL_act_139 rfl (lv_at hl 4 rfl) ?_
          obtain ⟨v21, M22, h1, h⟩ := obq h
          obtain ⟨hk1, h1⟩ := ifg h1
          refine kV1 (ci := 4) (As := [.int (v3 - v3 / v1 * v1), .int (v3 - v3 / v1 * v1)]) (rest := []) hC hE hS hM (mq_X4_versionEntry _ E a1 (v3 - v3 / v1 * v1) (v3 - v3 / v1 * v1) _ _ _ h1) (gwV qw_994 qw_995 qw_996 qw_39 qw_997) ⟨rfl, rfl, (Nat.le_of_ble_eq_true rfl), (Nat.le_of_ble_eq_true rfl)⟩ dd_X4_versionEntry rfl hk1 rfl rfl hl.1 (Nat.le_of_ble_eq_true rfl) dL_act_140 ⟨(Nat.le_of_ble_eq_true rfl), (Nat.le_of_ble_eq_true rfl)⟩ (fun H locs hM hS => ?_)
          refine lv_iload hx hb dL_act_143 (lv_at hl 0 rfl) ?_
          refine lv_iconst (v := 1) hx hb dL_act_145 (by decide) ?_
          refine lv_iadd hx hb dL_act_146 ?_
          refine lv_icmp_ne (tgt := 154) hx hb dL_act_147 (by decide) (fun c1 => ?_) (fun c1 => ?_)
          · have h := ifn c1 h
            refine W.widen (k := 26) (n := 1365) (Nat.le_of_ble_eq_true rfl) (Nat.le_of_ble_eq_true rfl) ?_
            exact tj_L_act_154 hfl hC hr hlocks hE  h hM hS (lv_sub hl [] rfl)
          · have h := ifp c1 h
            refine lv_iconst (v := 1) hx hb dL_act_150 (by decide) ?_
            refine lv_goto (tgt := 155) hx hb dL_act_151 (by decide) ?_
            refine W.widen (k := 26) (n := 1365) (Nat.le_of_ble_eq_true rfl) (Nat.le_of_ble_eq_true rfl) ?_
            exact tj_L_act_155 hfl hC hr hlocks hE  h hM hS (lv_sub hl [] rfl)
  · have h := ifn c0 h
    by_cases c1 : (v9 - v9 / 9 * 9) = 1
    · have h := ifp c1 h
      refine lv_tableIn (off := 123) (tgt := 156) hx hb dL_act_33 (by rw [c1]; decide) (by rw [c1]; decide) (by rw [c1]; rfl) (by decide) ?_
      refine lv_aload_n hx hb dL_act_156 rfl (lv_at hl 5 rfl) ?_
      obtain ⟨v23, M24, h1, h⟩ := ob2 h
      refine kS1 (As := [.ref a2]) (rest := []) hC hE hS hM (mt_L_next _ E a2 _ _ _ h1) (gwS qw_547 qw_548 qw_38 qw_549) ⟨rfl, rfl, (Nat.le_of_ble_eq_true rfl), (Nat.le_of_ble_eq_true rfl)⟩ dd_L_next rfl rfl hl.1 (Nat.le_of_ble_eq_true rfl) dL_act_157 ⟨(Nat.le_of_ble_eq_true rfl), (Nat.le_of_ble_eq_true rfl)⟩ (fun H locs hM hS => ?_)
      refine lv_iconst (v := 5) hx hb dL_act_160 (by decide) ?_
      refine lv_irem hx hb dL_act_161 (by decide) ?_
      refine lv_istore (lv' := [(8, .int (v23 - v23 / 5 * 5)), (5, .int v7), (4, .int (v5 - v5 / v1 * v1)), (3, .int (v3 - v3 / v1 * v1)), (2, .int v1), (0, .ref a1), (1, .ref a2)]) hx hb dL_act_162 hl (by decide) rfl (fun ls hl => ?_)
      refine lv_aload_n hx hb dL_act_164 rfl (lv_at hl 5 rfl) ?_
      refine lv_iload_n hx hb dL_act_165 rfl (lv_at hl 3 rfl) ?_
      refine lv_iload hx hb dL_act_166 (lv_at hl 0 rfl) ?_
      obtain ⟨v25, M26, h1, h⟩ := obq h
      obtain ⟨hk1, h1⟩ := ifg h1
      refine kV1 (ci := 4) (As := [.int (v3 - v3 / v1 * v1), .int (v23 - v23 / 5 * 5)]) (rest := []) hC hE hS hM (mq_X4_liveDots _ E a1 (v3 - v3 / v1 * v1) (v23 - v23 / 5 * 5) _ _ _ h1) (gwV qw_1059 qw_1060 qw_1061 qw_39 qw_1062) ⟨rfl, rfl, (Nat.le_of_ble_eq_true rfl), (Nat.le_of_ble_eq_true rfl)⟩ dd_X4_liveDots rfl hk1 rfl rfl hl.1 (Nat.le_of_ble_eq_true rfl) dL_act_168 ⟨(Nat.le_of_ble_eq_true rfl), (Nat.le_of_ble_eq_true rfl)⟩ (fun H locs hM hS => ?_)
      refine lv_istore (lv' := [(9, .int v25), (8, .int (v23 - v23 / 5 * 5)), (5, .int v7), (4, .int (v5 - v5 / v1 * v1)), (3, .int (v3 - v3 / v1 * v1)), (2, .int v1), (0, .ref a1), (1, .ref a2)]) hx hb dL_act_171 hl (by decide) rfl (fun ls hl => ?_)
      refine lv_aload_n hx hb dL_act_173 rfl (lv_at hl 6 rfl) ?_
      refine lv_iload_n hx hb dL_act_174 rfl (lv_at hl 4 rfl) ?_
      refine lv_iload hx hb dL_act_175 (lv_at hl 1 rfl) ?_
      obtain ⟨v27, M28, h1, h⟩ := ob2 h
      refine kSW (As := [.ref a1, .int (v3 - v3 / v1 * v1), .int (v23 - v23 / 5 * 5)]) (rest := []) hC hE hS hM (mt_L_removed _ hfl E a1 (v3 - v3 / v1 * v1) (v23 - v23 / 5 * 5) _ _ _ h1) (gwSW qw_662 qw_663 qw_38 qz_L_removed) ⟨rfl, rfl, (Nat.le_of_ble_eq_true rfl), (Nat.le_of_ble_eq_true rfl)⟩ dd_L_removed rfl rfl hl.1 (Nat.le_of_ble_eq_true rfl) dL_act_177 ⟨(Nat.le_of_ble_eq_true rfl), (Nat.le_of_ble_eq_true rfl)⟩ (fun H locs hM hS => ?_)
      refine lv_istore (lv' := [(10, .int v27), (9, .int v25), (8, .int (v23 - v23 / 5 * 5)), (5, .int v7), (4, .int (v5 - v5 / v1 * v1)), (3, .int (v3 - v3 / v1 * v1)), (2, .int v1), (0, .ref a1), (1, .ref a2)]) hx hb dL_act_180 hl (by decide) rfl (fun ls hl => ?_)
      refine lv_iload hx hb dL_act_182 (lv_at hl 1 rfl) ?_
      refine lv_if_le (tgt := 212) hx hb dL_act_184 (by decide) (fun c1 => ?_) (fun c1 => ?_)
      · have h := ifp c1 h
        refine lv_iload hx hb dL_act_212 (lv_at hl 0 rfl) ?_
        refine lv_bipush (v := (-3)) hx hb dL_act_214 (by decide) ?_
        refine lv_icmp_ne (tgt := 233) hx hb dL_act_216 (by decide) (fun c1 => ?_) (fun c1 => ?_)
        · have h := ifn c1 h
          refine W.widen (k := 52) (n := 2730) (Nat.le_of_ble_eq_true rfl) (Nat.le_of_ble_eq_true rfl) ?_
          exact tj_L_act_233 hfl hC hr hlocks hE  h hM hS (lv_sub hl [] rfl)
        · have h := ifp c1 h
          refine lv_aload_n hx hb dL_act_219 rfl (lv_at hl 7 rfl) ?_
          refine lv_iload_n hx hb dL_act_220 rfl (lv_at hl 5 rfl) ?_
          refine lv_bipush (v := 15) hx hb dL_act_221 (by decide) ?_
          obtain ⟨v29, M30, h1, h⟩ := ob2 h
          refine kSW (As := [.ref a1, .int (v3 - v3 / v1 * v1), .int 15]) (rest := []) hC hE hS hM (mt_L_added _ hfl E a1 (v3 - v3 / v1 * v1) 15 _ _ _ h1) (gwSW qw_645 qw_646 qw_38 qz_L_added) ⟨rfl, rfl, (Nat.le_of_ble_eq_true rfl), (Nat.le_of_ble_eq_true rfl)⟩ dd_L_added rfl rfl hl.1 (Nat.le_of_ble_eq_true rfl) dL_act_223 ⟨(Nat.le_of_ble_eq_true rfl), (Nat.le_of_ble_eq_true rfl)⟩ (fun H locs hM hS => ?_)
          refine lv_if_le (tgt := 233) hx hb dL_act_226 (by decide) (fun c1 => ?_) (fun c1 => ?_)
          · have h := ifp c1 h
            refine W.widen (k := 52) (n := 2730) (Nat.le_of_ble_eq_true rfl) (Nat.le_of_ble_eq_true rfl) ?_
            exact tj_L_act_233 hfl hC hr hlocks hE  h hM hS (lv_sub hl [] rfl)
          · have h := ifn c1 h
            refine lv_iconst (v := 1) hx hb dL_act_229 (by decide) ?_
            refine lv_goto (tgt := 234) hx hb dL_act_230 (by decide) ?_
            refine W.widen (k := 52) (n := 2730) (Nat.le_of_ble_eq_true rfl) (Nat.le_of_ble_eq_true rfl) ?_
            exact tj_L_act_234 hfl hC hr hlocks hE  h hM hS (lv_sub hl [] rfl)
      · have h := ifn c1 h
        refine lv_iload hx hb dL_act_187 (lv_at hl 0 rfl) ?_
        refine lv_iload hx hb dL_act_189 (lv_at hl 1 rfl) ?_
        refine lv_icmp_ne (tgt := 208) hx hb dL_act_191 (by decide) (fun c1 => ?_) (fun c1 => ?_)
        · have h := ifn c1 h
          refine W.widen (k := 26) (n := 1365) (Nat.le_of_ble_eq_true rfl) (Nat.le_of_ble_eq_true rfl) ?_
          exact tj_L_act_208 hfl hC hr hlocks hE  h hM hS (lv_sub hl [] rfl)
        · have h := ifp c1 h
          refine lv_aload_n hx hb dL_act_194 rfl (lv_at hl 7 rfl) ?_
          refine lv_iload_n hx hb dL_act_195 rfl (lv_at hl 5 rfl) ?_
          refine lv_iload hx hb dL_act_196 (lv_at hl 2 rfl) ?_
          obtain ⟨v31, M32, h1, h⟩ := obq h
          obtain ⟨hk1, h1⟩ := ifg h1
          refine kV1 (ci := 4) (As := [.int (v3 - v3 / v1 * v1), .int (v23 - v23 / 5 * 5)]) (rest := []) hC hE hS hM (mq_X4_hasTag _ E a1 (v3 - v3 / v1 * v1) (v23 - v23 / 5 * 5) _ _ _ h1) (gwV qw_1063 qw_1064 qw_1065 qw_39 qw_1066) ⟨rfl, rfl, (Nat.le_of_ble_eq_true rfl), (Nat.le_of_ble_eq_true rfl)⟩ dd_X4_hasTag rfl hk1 rfl rfl hl.1 (Nat.le_of_ble_eq_true rfl) dL_act_198 ⟨(Nat.le_of_ble_eq_true rfl), (Nat.le_of_ble_eq_true rfl)⟩ (fun H locs hM hS => ?_)
          refine lv_if_ne (tgt := 208) hx hb dL_act_201 (by decide) (fun c1 => ?_) (fun c1 => ?_)
          · have h := ifn c1 h
            refine W.widen (k := 26) (n := 1365) (Nat.le_of_ble_eq_true rfl) (Nat.le_of_ble_eq_true rfl) ?_
            exact tj_L_act_208 hfl hC hr hlocks hE  h hM hS (lv_sub hl [] rfl)
          · have h := ifp c1 h
            refine lv_iconst (v := 1) hx hb dL_act_204 (by decide) ?_
            refine lv_goto (tgt := 234) hx hb dL_act_205 (by decide) ?_
            refine W.widen (k := 52) (n := 2730) (Nat.le_of_ble_eq_true rfl) (Nat.le_of_ble_eq_true rfl) ?_
            exact tj_L_act_234 hfl hC hr hlocks hE  h hM hS (lv_sub hl [] rfl)
    · have h := ifn c1 h
      by_cases c2 : (v9 - v9 / 9 * 9) = 2
      · have h := ifp c2 h
        refine lv_tableIn (off := 202) (tgt := 235) hx hb dL_act_33 (by rw [c2]; decide) (by rw [c2]; decide) (by rw [c2]; rfl) (by decide) ?_
        refine lv_aload_n hx hb dL_act_235 rfl (lv_at hl 4 rfl) ?_
        obtain ⟨v33, M34, h1, h⟩ := ob2 h
        obtain ⟨hk1, h1⟩ := ifg h1
        refine kV1 (ci := 4) (As := []) (rest := []) hC hE hS hM (mt_X4_counterCount _ E a1 _ _ _ h1) (gwV qw_998 qw_999 qw_1000 qw_39 qw_1001) ⟨rfl, rfl, (Nat.le_of_ble_eq_true rfl), (Nat.le_of_ble_eq_true rfl)⟩ dd_X4_counterCount rfl hk1 rfl rfl hl.1 (Nat.le_of_ble_eq_true rfl) dL_act_236 ⟨(Nat.le_of_ble_eq_true rfl), (Nat.le_of_ble_eq_true rfl)⟩ (fun H locs hM hS => ?_)
        refine lv_if_ne (tgt := 270) hx hb dL_act_239 (by decide) (fun c1 => ?_) (fun c1 => ?_)
        · have h := ifn c1 h
          refine lv_aload_n hx hb dL_act_270 rfl (lv_at hl 4 rfl) ?_
          refine lv_iload_n hx hb dL_act_271 rfl (lv_at hl 2 rfl) ?_
          refine lv_iconst (v := 0) hx hb dL_act_272 (by decide) ?_
          obtain ⟨v35, M36, h1, h⟩ := obq h
          obtain ⟨hk1, h1⟩ := ifg h1
          refine kV1 (ci := 4) (As := [.int (v3 - v3 / v1 * v1), .int 0]) (rest := []) hC hE hS hM (mq_X4_counterValue _ E a1 (v3 - v3 / v1 * v1) 0 _ _ _ h1) (gwV qw_1055 qw_1056 qw_1057 qw_39 qw_1058) ⟨rfl, rfl, (Nat.le_of_ble_eq_true rfl), (Nat.le_of_ble_eq_true rfl)⟩ dd_X4_counterValue rfl hk1 rfl rfl hl.1 (Nat.le_of_ble_eq_true rfl) dL_act_273 ⟨(Nat.le_of_ble_eq_true rfl), (Nat.le_of_ble_eq_true rfl)⟩ (fun H locs hM hS => ?_)
          refine lv_istore (lv' := [(11, .int v35), (5, .int v7), (4, .int (v5 - v5 / v1 * v1)), (3, .int (v3 - v3 / v1 * v1)), (2, .int v1), (0, .ref a1), (1, .ref a2)]) hx hb dL_act_276 hl (by decide) rfl (fun ls hl => ?_)
          refine lv_iconst (v := 1) hx hb dL_act_278 (by decide) ?_
          refine lv_aload_n hx hb dL_act_279 rfl (lv_at hl 6 rfl) ?_
          obtain ⟨v37, M38, h1, h⟩ := ob2 h
          refine kS1 (As := [.ref a2]) (rest := [.int 1]) hC hE hS hM (mt_L_next _ E a2 _ _ _ h1) (gwS qw_547 qw_548 qw_38 qw_549) ⟨rfl, rfl, (Nat.le_of_ble_eq_true rfl), (Nat.le_of_ble_eq_true rfl)⟩ dd_L_next rfl rfl hl.1 (Nat.le_of_ble_eq_true rfl) dL_act_280 ⟨(Nat.le_of_ble_eq_true rfl), (Nat.le_of_ble_eq_true rfl)⟩ (fun H locs hM hS => ?_)
          refine lv_bipush (v := 99) hx hb dL_act_283 (by decide) ?_
          refine lv_irem hx hb dL_act_285 (by decide) ?_
          refine lv_iadd hx hb dL_act_286 ?_
          refine lv_istore (lv' := [(12, .int (1 + (v37 - v37 / 99 * 99))), (11, .int v35), (5, .int v7), (4, .int (v5 - v5 / v1 * v1)), (3, .int (v3 - v3 / v1 * v1)), (2, .int v1), (0, .ref a1), (1, .ref a2)]) hx hb dL_act_287 hl (by decide) rfl (fun ls hl => ?_)
          refine lv_aload_n hx hb dL_act_289 rfl (lv_at hl 6 rfl) ?_
          refine lv_iload_n hx hb dL_act_290 rfl (lv_at hl 4 rfl) ?_
          refine lv_iconst (v := 0) hx hb dL_act_291 (by decide) ?_
          refine lv_iload hx hb dL_act_292 (lv_at hl 0 rfl) ?_
          obtain ⟨v39, M40, h1, h⟩ := ob2 h
          refine kSW (As := [.ref a1, .int (v3 - v3 / v1 * v1), .int 0, .int (1 + (v37 - v37 / 99 * 99))]) (rest := []) hC hE hS hM (mt_L_counted _ hfl E a1 (v3 - v3 / v1 * v1) 0 (1 + (v37 - v37 / 99 * 99)) _ _ _ h1) (gwSW qw_608 qw_609 qw_38 qz_L_counted) ⟨rfl, rfl, (Nat.le_of_ble_eq_true rfl), (Nat.le_of_ble_eq_true rfl)⟩ dd_L_counted rfl rfl hl.1 (Nat.le_of_ble_eq_true rfl) dL_act_294 ⟨(Nat.le_of_ble_eq_true rfl), (Nat.le_of_ble_eq_true rfl)⟩ (fun H locs hM hS => ?_)
          refine lv_iload hx hb dL_act_297 (lv_at hl 1 rfl) ?_
          refine lv_iload hx hb dL_act_299 (lv_at hl 0 rfl) ?_
          refine lv_iadd hx hb dL_act_301 ?_
          refine lv_icmp_ne (tgt := 326) hx hb dL_act_302 (by decide) (fun c1 => ?_) (fun c1 => ?_)
          · have h := ifn c1 h
            refine W.widen (k := 52) (n := 2730) (Nat.le_of_ble_eq_true rfl) (Nat.le_of_ble_eq_true rfl) ?_
            exact tj_L_act_326 hfl hC hr hlocks hE  h hM hS (lv_sub hl [] rfl)
          · have h := ifp c1 h
            refine lv_aload_n hx hb dL_act_305 rfl (lv_at hl 6 rfl) ?_
            refine lv_iload_n hx hb dL_act_306 rfl (lv_at hl 4 rfl) ?_
            refine lv_iconst (v := 0) hx hb dL_act_307 (by decide) ?_
            refine lv_iconst (v := 2) hx hb dL_act_308 (by decide) ?_
            obtain ⟨v41, M42, h1, h⟩ := ob2 h
            refine kSW (As := [.ref a1, .int (v3 - v3 / v1 * v1), .int 0, .int 2]) (rest := []) hC hE hS hM (mt_L_discounted _ hfl E a1 (v3 - v3 / v1 * v1) 0 2 _ _ _ h1) (gwSW qw_1178 qw_1179 qw_38 qz_L_discounted) ⟨rfl, rfl, (Nat.le_of_ble_eq_true rfl), (Nat.le_of_ble_eq_true rfl)⟩ dd_L_discounted rfl rfl hl.1 (Nat.le_of_ble_eq_true rfl) dL_act_309 ⟨(Nat.le_of_ble_eq_true rfl), (Nat.le_of_ble_eq_true rfl)⟩ (fun H locs hM hS => ?_)
            refine lv_iload hx hb dL_act_312 (lv_at hl 1 rfl) ?_
            refine lv_iload hx hb dL_act_314 (lv_at hl 0 rfl) ?_
            refine lv_iadd hx hb dL_act_316 ?_
            refine lv_iconst (v := 2) hx hb dL_act_317 (by decide) ?_
            refine lv_isub hx hb dL_act_318 ?_
            refine lv_icmp_ne (tgt := 326) hx hb dL_act_319 (by decide) (fun c1 => ?_) (fun c1 => ?_)
            · have h := ifn c1 h
              refine W.widen (k := 52) (n := 2730) (Nat.le_of_ble_eq_true rfl) (Nat.le_of_ble_eq_true rfl) ?_
              exact tj_L_act_326 hfl hC hr hlocks hE  h hM hS (lv_sub hl [] rfl)
            · have h := ifp c1 h
              refine lv_iconst (v := 1) hx hb dL_act_322 (by decide) ?_
              refine lv_goto (tgt := 327) hx hb dL_act_323 (by decide) ?_
              refine W.widen (k := 52) (n := 2730) (Nat.le_of_ble_eq_true rfl) (Nat.le_of_ble_eq_true rfl) ?_
              exact tj_L_act_327 hfl hC hr hlocks hE  h hM hS (lv_sub hl [] rfl)
        · have h := ifp c1 h
          refine lv_aload_n hx hb dL_act_242 rfl (lv_at hl 4 rfl) ?_
          refine lv_iload_n hx hb dL_act_243 rfl (lv_at hl 2 rfl) ?_
          refine lv_iconst (v := 0) hx hb dL_act_244 (by decide) ?_
          refine lv_iconst (v := 1) hx hb dL_act_245 (by decide) ?_
          obtain ⟨v43, M44, h1, h⟩ := ob2 h
          refine kSW (As := [.ref a1, .int (v3 - v3 / v1 * v1), .int 0, .int 1]) (rest := []) hC hE hS hM (mt_L_counted _ hfl E a1 (v3 - v3 / v1 * v1) 0 1 _ _ _ h1) (gwSW qw_608 qw_609 qw_38 qz_L_counted) ⟨rfl, rfl, (Nat.le_of_ble_eq_true rfl), (Nat.le_of_ble_eq_true rfl)⟩ dd_L_counted rfl rfl hl.1 (Nat.le_of_ble_eq_true rfl) dL_act_246 ⟨(Nat.le_of_ble_eq_true rfl), (Nat.le_of_ble_eq_true rfl)⟩ (fun H locs hM hS => ?_)
          refine lv_ldc (v := (-99995)) hx hb hown (hts _ qw_643) dL_act_249 ?_
          refine lv_icmp_ne (tgt := 268) hx hb dL_act_251 (by decide) (fun c1 => ?_) (fun c1 => ?_)
          · have h := ifn c1 h
            refine W.widen (k := 52) (n := 2730) (Nat.le_of_ble_eq_true rfl) (Nat.le_of_ble_eq_true rfl) ?_
            exact tj_L_act_268 hfl hC hr hlocks hE  h hM hS (lv_sub hl [] rfl)
          · have h := ifp c1 h
            refine lv_aload_n hx hb dL_act_254 rfl (lv_at hl 4 rfl) ?_
            refine lv_iload_n hx hb dL_act_255 rfl (lv_at hl 2 rfl) ?_
            refine lv_bipush (v := 14) hx hb dL_act_256 (by decide) ?_
            obtain ⟨v45, M46, h1, h⟩ := ob2 h
            refine kSW (As := [.ref a1, .int (v3 - v3 / v1 * v1), .int 14]) (rest := []) hC hE hS hM (mt_L_added _ hfl E a1 (v3 - v3 / v1 * v1) 14 _ _ _ h1) (gwSW qw_645 qw_646 qw_38 qz_L_added) ⟨rfl, rfl, (Nat.le_of_ble_eq_true rfl), (Nat.le_of_ble_eq_true rfl)⟩ dd_L_added rfl rfl hl.1 (Nat.le_of_ble_eq_true rfl) dL_act_258 ⟨(Nat.le_of_ble_eq_true rfl), (Nat.le_of_ble_eq_true rfl)⟩ (fun H locs hM hS => ?_)
            refine lv_if_le (tgt := 268) hx hb dL_act_261 (by decide) (fun c1 => ?_) (fun c1 => ?_)
            · have h := ifp c1 h
              refine W.widen (k := 52) (n := 2730) (Nat.le_of_ble_eq_true rfl) (Nat.le_of_ble_eq_true rfl) ?_
              exact tj_L_act_268 hfl hC hr hlocks hE  h hM hS (lv_sub hl [] rfl)
            · have h := ifn c1 h
              refine lv_iconst (v := 1) hx hb dL_act_264 (by decide) ?_
              refine lv_goto (tgt := 269) hx hb dL_act_265 (by decide) ?_
              refine W.widen (k := 52) (n := 2730) (Nat.le_of_ble_eq_true rfl) (Nat.le_of_ble_eq_true rfl) ?_
              exact tj_L_act_269 hfl hC hr hlocks hE  h hM hS (lv_sub hl [] rfl)
      · have h := ifn c2 h
        by_cases c3 : (v9 - v9 / 9 * 9) = 3
        · have h := ifp c3 h
          refine lv_tableIn (off := 295) (tgt := 328) hx hb dL_act_33 (by rw [c3]; decide) (by rw [c3]; decide) (by rw [c3]; rfl) (by decide) ?_
          refine lv_aload_n hx hb dL_act_328 rfl (lv_at hl 4 rfl) ?_
          obtain ⟨v47, M48, h1, h⟩ := ob2 h
          obtain ⟨hk1, h1⟩ := ifg h1
          refine kV1 (ci := 4) (As := []) (rest := []) hC hE hS hM (mt_X4_registerCount _ E a1 _ _ _ h1) (gwV qw_1023 qw_1024 qw_1025 qw_39 qw_1026) ⟨rfl, rfl, (Nat.le_of_ble_eq_true rfl), (Nat.le_of_ble_eq_true rfl)⟩ dd_X4_registerCount rfl hk1 rfl rfl hl.1 (Nat.le_of_ble_eq_true rfl) dL_act_329 ⟨(Nat.le_of_ble_eq_true rfl), (Nat.le_of_ble_eq_true rfl)⟩ (fun H locs hM hS => ?_)
          refine lv_if_ne (tgt := 363) hx hb dL_act_332 (by decide) (fun c1 => ?_) (fun c1 => ?_)
          · have h := ifn c1 h
            refine lv_aload_n hx hb dL_act_363 rfl (lv_at hl 4 rfl) ?_
            refine lv_iload_n hx hb dL_act_364 rfl (lv_at hl 2 rfl) ?_
            refine lv_iconst (v := 0) hx hb dL_act_365 (by decide) ?_
            obtain ⟨v49, M50, h1, h⟩ := obq h
            obtain ⟨hk1, h1⟩ := ifg h1
            refine kV1 (ci := 4) (As := [.int (v3 - v3 / v1 * v1), .int 0]) (rest := []) hC hE hS hM (mq_X4_entryCount _ E a1 (v3 - v3 / v1 * v1) 0 _ _ _ h1) (gwV qw_1081 qw_1082 qw_1083 qw_39 qw_1084) ⟨rfl, rfl, (Nat.le_of_ble_eq_true rfl), (Nat.le_of_ble_eq_true rfl)⟩ dd_X4_entryCount rfl hk1 rfl rfl hl.1 (Nat.le_of_ble_eq_true rfl) dL_act_366 ⟨(Nat.le_of_ble_eq_true rfl), (Nat.le_of_ble_eq_true rfl)⟩ (fun H locs hM hS => ?_)
            refine lv_istore (lv' := [(13, .int v49), (5, .int v7), (4, .int (v5 - v5 / v1 * v1)), (3, .int (v3 - v3 / v1 * v1)), (2, .int v1), (0, .ref a1), (1, .ref a2)]) hx hb dL_act_369 hl (by decide) rfl (fun ls hl => ?_)
            refine lv_aload_n hx hb dL_act_371 rfl (lv_at hl 6 rfl) ?_
            obtain ⟨v51, M52, h1, h⟩ := ob2 h
            refine kS1 (As := [.ref a2]) (rest := []) hC hE hS hM (mt_L_next _ E a2 _ _ _ h1) (gwS qw_547 qw_548 qw_38 qw_549) ⟨rfl, rfl, (Nat.le_of_ble_eq_true rfl), (Nat.le_of_ble_eq_true rfl)⟩ dd_L_next rfl rfl hl.1 (Nat.le_of_ble_eq_true rfl) dL_act_372 ⟨(Nat.le_of_ble_eq_true rfl), (Nat.le_of_ble_eq_true rfl)⟩ (fun H locs hM hS => ?_)
            refine lv_bipush (v := 100) hx hb dL_act_375 (by decide) ?_
            refine lv_irem hx hb dL_act_377 (by decide) ?_
            refine lv_istore (lv' := [(14, .int (v51 - v51 / 100 * 100)), (13, .int v49), (5, .int v7), (4, .int (v5 - v5 / v1 * v1)), (3, .int (v3 - v3 / v1 * v1)), (2, .int v1), (0, .ref a1), (1, .ref a2)]) hx hb dL_act_378 hl (by decide) rfl (fun ls hl => ?_)
            refine lv_aload_n hx hb dL_act_380 rfl (lv_at hl 6 rfl) ?_
            refine lv_iload_n hx hb dL_act_381 rfl (lv_at hl 4 rfl) ?_
            refine lv_iconst (v := 0) hx hb dL_act_382 (by decide) ?_
            refine lv_iload hx hb dL_act_383 (lv_at hl 0 rfl) ?_
            obtain ⟨v53, M54, h1, h⟩ := ob2 h
            refine kSW (As := [.ref a1, .int (v3 - v3 / v1 * v1), .int 0, .int (v51 - v51 / 100 * 100)]) (rest := []) hC hE hS hM (mt_L_written _ hfl E a1 (v3 - v3 / v1 * v1) 0 (v51 - v51 / 100 * 100) _ _ _ h1) (gwSW qw_672 qw_673 qw_38 qz_L_written) ⟨rfl, rfl, (Nat.le_of_ble_eq_true rfl), (Nat.le_of_ble_eq_true rfl)⟩ dd_L_written rfl rfl hl.1 (Nat.le_of_ble_eq_true rfl) dL_act_385 ⟨(Nat.le_of_ble_eq_true rfl), (Nat.le_of_ble_eq_true rfl)⟩ (fun H locs hM hS => ?_)
            refine lv_iload hx hb dL_act_388 (lv_at hl 1 rfl) ?_
            refine lv_icmp_ne (tgt := 418) hx hb dL_act_390 (by decide) (fun c1 => ?_) (fun c1 => ?_)
            · have h := ifn c1 h
              refine W.widen (k := 26) (n := 1365) (Nat.le_of_ble_eq_true rfl) (Nat.le_of_ble_eq_true rfl) ?_
              exact tj_L_act_418 hfl hC hr hlocks hE  h hM hS (lv_sub hl [] rfl)
            · have h := ifp c1 h
              refine lv_aload_n hx hb dL_act_393 rfl (lv_at hl 6 rfl) ?_
              refine lv_iload_n hx hb dL_act_394 rfl (lv_at hl 4 rfl) ?_
              refine lv_iconst (v := 0) hx hb dL_act_395 (by decide) ?_
              obtain ⟨v55, M56, h1, h⟩ := obq h
              obtain ⟨hk1, h1⟩ := ifg h1
              refine kV1 (ci := 4) (As := [.int (v3 - v3 / v1 * v1), .int 0]) (rest := []) hC hE hS hM (mq_X4_entryCount _ E a1 (v3 - v3 / v1 * v1) 0 _ _ _ h1) (gwV qw_1081 qw_1082 qw_1083 qw_39 qw_1084) ⟨rfl, rfl, (Nat.le_of_ble_eq_true rfl), (Nat.le_of_ble_eq_true rfl)⟩ dd_X4_entryCount rfl hk1 rfl rfl hl.1 (Nat.le_of_ble_eq_true rfl) dL_act_396 ⟨(Nat.le_of_ble_eq_true rfl), (Nat.le_of_ble_eq_true rfl)⟩ (fun H locs hM hS => ?_)
              refine lv_iconst (v := 1) hx hb dL_act_399 (by decide) ?_
              refine lv_icmp_ne (tgt := 418) hx hb dL_act_400 (by decide) (fun c1 => ?_) (fun c1 => ?_)
              · have h := ifn c1 h
                refine W.widen (k := 26) (n := 1365) (Nat.le_of_ble_eq_true rfl) (Nat.le_of_ble_eq_true rfl) ?_
                exact tj_L_act_418 hfl hC hr hlocks hE  h hM hS (lv_sub hl [] rfl)
              · have h := ifp c1 h
                refine lv_aload_n hx hb dL_act_403 rfl (lv_at hl 6 rfl) ?_
                refine lv_iload_n hx hb dL_act_404 rfl (lv_at hl 4 rfl) ?_
                refine lv_iconst (v := 0) hx hb dL_act_405 (by decide) ?_
                obtain ⟨v57, M58, h1, h⟩ := obq h
                obtain ⟨hk1, h1⟩ := ifg h1
                refine kV1 (ci := 4) (As := [.int (v3 - v3 / v1 * v1), .int 0]) (rest := []) hC hE hS hM (mq_X4_greatestValue _ E a1 (v3 - v3 / v1 * v1) 0 _ _ _ h1) (gwV qw_1085 qw_1086 qw_1087 qw_39 qw_1088) ⟨rfl, rfl, (Nat.le_of_ble_eq_true rfl), (Nat.le_of_ble_eq_true rfl)⟩ dd_X4_greatestValue rfl hk1 rfl rfl hl.1 (Nat.le_of_ble_eq_true rfl) dL_act_406 ⟨(Nat.le_of_ble_eq_true rfl), (Nat.le_of_ble_eq_true rfl)⟩ (fun H locs hM hS => ?_)
                refine lv_iload hx hb dL_act_409 (lv_at hl 0 rfl) ?_
                refine lv_icmp_ne (tgt := 418) hx hb dL_act_411 (by decide) (fun c1 => ?_) (fun c1 => ?_)
                · have h := ifn c1 h
                  refine W.widen (k := 26) (n := 1365) (Nat.le_of_ble_eq_true rfl) (Nat.le_of_ble_eq_true rfl) ?_
                  exact tj_L_act_418 hfl hC hr hlocks hE  h hM hS (lv_sub hl [] rfl)
                · have h := ifp c1 h
                  refine lv_iconst (v := 1) hx hb dL_act_414 (by decide) ?_
                  refine lv_goto (tgt := 419) hx hb dL_act_415 (by decide) ?_
                  refine W.widen (k := 26) (n := 1365) (Nat.le_of_ble_eq_true rfl) (Nat.le_of_ble_eq_true rfl) ?_
                  exact tj_L_act_419 hfl hC hr hlocks hE  h hM hS (lv_sub hl [] rfl)
          · have h := ifp c1 h
            refine lv_aload_n hx hb dL_act_335 rfl (lv_at hl 4 rfl) ?_
            refine lv_iload_n hx hb dL_act_336 rfl (lv_at hl 2 rfl) ?_
            refine lv_iconst (v := 0) hx hb dL_act_337 (by decide) ?_
            refine lv_iconst (v := 1) hx hb dL_act_338 (by decide) ?_
            obtain ⟨v59, M60, h1, h⟩ := ob2 h
            refine kSW (As := [.ref a1, .int (v3 - v3 / v1 * v1), .int 0, .int 1]) (rest := []) hC hE hS hM (mt_L_written _ hfl E a1 (v3 - v3 / v1 * v1) 0 1 _ _ _ h1) (gwSW qw_672 qw_673 qw_38 qz_L_written) ⟨rfl, rfl, (Nat.le_of_ble_eq_true rfl), (Nat.le_of_ble_eq_true rfl)⟩ dd_L_written rfl rfl hl.1 (Nat.le_of_ble_eq_true rfl) dL_act_339 ⟨(Nat.le_of_ble_eq_true rfl), (Nat.le_of_ble_eq_true rfl)⟩ (fun H locs hM hS => ?_)
            refine lv_bipush (v := (-5)) hx hb dL_act_342 (by decide) ?_
            refine lv_icmp_ne (tgt := 361) hx hb dL_act_344 (by decide) (fun c1 => ?_) (fun c1 => ?_)
            · have h := ifn c1 h
              refine W.widen (k := 52) (n := 2730) (Nat.le_of_ble_eq_true rfl) (Nat.le_of_ble_eq_true rfl) ?_
              exact tj_L_act_361 hfl hC hr hlocks hE  h hM hS (lv_sub hl [] rfl)
            · have h := ifp c1 h
              refine lv_aload_n hx hb dL_act_347 rfl (lv_at hl 4 rfl) ?_
              refine lv_iload_n hx hb dL_act_348 rfl (lv_at hl 2 rfl) ?_
              refine lv_bipush (v := 13) hx hb dL_act_349 (by decide) ?_
              obtain ⟨v61, M62, h1, h⟩ := ob2 h
              refine kSW (As := [.ref a1, .int (v3 - v3 / v1 * v1), .int 13]) (rest := []) hC hE hS hM (mt_L_added _ hfl E a1 (v3 - v3 / v1 * v1) 13 _ _ _ h1) (gwSW qw_645 qw_646 qw_38 qz_L_added) ⟨rfl, rfl, (Nat.le_of_ble_eq_true rfl), (Nat.le_of_ble_eq_true rfl)⟩ dd_L_added rfl rfl hl.1 (Nat.le_of_ble_eq_true rfl) dL_act_351 ⟨(Nat.le_of_ble_eq_true rfl), (Nat.le_of_ble_eq_true rfl)⟩ (fun H locs hM hS => ?_)
              refine lv_if_le (tgt := 361) hx hb dL_act_354 (by decide) (fun c1 => ?_) (fun c1 => ?_)
              · have h := ifp c1 h
                refine W.widen (k := 52) (n := 2730) (Nat.le_of_ble_eq_true rfl) (Nat.le_of_ble_eq_true rfl) ?_
                exact tj_L_act_361 hfl hC hr hlocks hE  h hM hS (lv_sub hl [] rfl)
              · have h := ifn c1 h
                refine lv_iconst (v := 1) hx hb dL_act_357 (by decide) ?_
                refine lv_goto (tgt := 362) hx hb dL_act_358 (by decide) ?_
                refine W.widen (k := 52) (n := 2730) (Nat.le_of_ble_eq_true rfl) (Nat.le_of_ble_eq_true rfl) ?_
                exact tj_L_act_362 hfl hC hr hlocks hE  h hM hS (lv_sub hl [] rfl)
        · have h := ifn c3 h
          by_cases c4 : (v9 - v9 / 9 * 9) = 4
          · have h := ifp c4 h
            refine lv_tableIn (off := 387) (tgt := 420) hx hb dL_act_33 (by rw [c4]; decide) (by rw [c4]; decide) (by rw [c4]; rfl) (by decide) ?_
            refine lv_aload_n hx hb dL_act_420 rfl (lv_at hl 4 rfl) ?_
            refine lv_iload_n hx hb dL_act_421 rfl (lv_at hl 2 rfl) ?_
            obtain ⟨v63, M64, h1, h⟩ := ob2 h
            refine kSW (As := [.ref a1, .int (v3 - v3 / v1 * v1)]) (rest := []) hC hE hS hM (mt_L_sent _ hfl E a1 (v3 - v3 / v1 * v1) _ _ _ h1) (gwSW qw_707 qw_708 qw_38 qz_L_sent) ⟨rfl, rfl, (Nat.le_of_ble_eq_true rfl), (Nat.le_of_ble_eq_true rfl)⟩ dd_L_sent rfl rfl hl.1 (Nat.le_of_ble_eq_true rfl) dL_act_422 ⟨(Nat.le_of_ble_eq_true rfl), (Nat.le_of_ble_eq_true rfl)⟩ (fun H locs hM hS => ?_)
            refine lv_istore (lv' := [(15, .int v63), (5, .int v7), (4, .int (v5 - v5 / v1 * v1)), (3, .int (v3 - v3 / v1 * v1)), (2, .int v1), (0, .ref a1), (1, .ref a2)]) hx hb dL_act_425 hl (by decide) rfl (fun ls hl => ?_)
            refine lv_iload hx hb dL_act_427 (lv_at hl 1 rfl) ?_
            refine lv_bipush (v := 6) hx hb dL_act_429 (by decide) ?_
            refine lv_icmp_ne (tgt := 459) hx hb dL_act_431 (by decide) (fun c1 => ?_) (fun c1 => ?_)
            · have h := ifn c1 h
              refine lv_iload hx hb dL_act_459 (lv_at hl 0 rfl) ?_
              refine lv_iload hx hb dL_act_461 (lv_at hl 1 rfl) ?_
              refine lv_icmp_ne (tgt := 490) hx hb dL_act_463 (by decide) (fun c1 => ?_) (fun c1 => ?_)
              · have h := ifn c1 h
                refine W.widen (k := 25) (n := 1359) (Nat.le_of_ble_eq_true rfl) (Nat.le_of_ble_eq_true rfl) ?_
                exact tj_L_act_490 hfl hC hr hlocks hE  h hM hS (lv_sub hl [] rfl)
              · have h := ifp c1 h
                refine lv_aload_n hx hb dL_act_466 rfl (lv_at hl 5 rfl) ?_
                refine lv_iload hx hb dL_act_467 (lv_at hl 0 rfl) ?_
                obtain ⟨v65, M66, h1, h⟩ := obq h
                obtain ⟨hk1, h1⟩ := ifg h1
                refine kV1 (ci := 4) (As := [.int v63]) (rest := []) hC hE hS hM (mq_X4_senderOf _ E a1 v63 _ _ _ h1) (gwV qw_1035 qw_1036 qw_1037 qw_39 qw_1038) ⟨rfl, rfl, (Nat.le_of_ble_eq_true rfl), (Nat.le_of_ble_eq_true rfl)⟩ dd_X4_senderOf rfl hk1 rfl rfl hl.1 (Nat.le_of_ble_eq_true rfl) dL_act_469 ⟨(Nat.le_of_ble_eq_true rfl), (Nat.le_of_ble_eq_true rfl)⟩ (fun H locs hM hS => ?_)
                refine lv_iload_n hx hb dL_act_472 rfl (lv_at hl 3 rfl) ?_
                refine lv_icmp_ne (tgt := 490) hx hb dL_act_473 (by decide) (fun c1 => ?_) (fun c1 => ?_)
                · have h := ifn c1 h
                  refine W.widen (k := 25) (n := 1359) (Nat.le_of_ble_eq_true rfl) (Nat.le_of_ble_eq_true rfl) ?_
                  exact tj_L_act_490 hfl hC hr hlocks hE  h hM hS (lv_sub hl [] rfl)
                · have h := ifp c1 h
                  refine lv_aload_n hx hb dL_act_476 rfl (lv_at hl 5 rfl) ?_
                  refine lv_iload hx hb dL_act_477 (lv_at hl 0 rfl) ?_
                  refine lv_iload_n hx hb dL_act_479 rfl (lv_at hl 3 rfl) ?_
                  obtain ⟨v67, M68, h1, h⟩ := obq h
                  obtain ⟨hk1, h1⟩ := ifg h1
                  refine kV1 (ci := 4) (As := [.int v63, .int (v3 - v3 / v1 * v1)]) (rest := []) hC hE hS hM (mq_X4_isNews _ E a1 v63 (v3 - v3 / v1 * v1) _ _ _ h1) (gwV qw_1040 qw_1041 qw_1042 qw_39 qw_1043) ⟨rfl, rfl, (Nat.le_of_ble_eq_true rfl), (Nat.le_of_ble_eq_true rfl)⟩ dd_X4_isNews rfl hk1 rfl rfl hl.1 (Nat.le_of_ble_eq_true rfl) dL_act_480 ⟨(Nat.le_of_ble_eq_true rfl), (Nat.le_of_ble_eq_true rfl)⟩ (fun H locs hM hS => ?_)
                  refine lv_if_ne (tgt := 490) hx hb dL_act_483 (by decide) (fun c1 => ?_) (fun c1 => ?_)
                  · have h := ifn c1 h
                    refine W.widen (k := 25) (n := 1359) (Nat.le_of_ble_eq_true rfl) (Nat.le_of_ble_eq_true rfl) ?_
                    exact tj_L_act_490 hfl hC hr hlocks hE  h hM hS (lv_sub hl [] rfl)
                  · have h := ifp c1 h
                    refine lv_iconst (v := 1) hx hb dL_act_486 (by decide) ?_
                    refine lv_goto (tgt := 491) hx hb dL_act_487 (by decide) ?_
                    refine W.widen (k := 51) (n := 2724) (Nat.le_of_ble_eq_true rfl) (Nat.le_of_ble_eq_true rfl) ?_
                    exact tj_L_act_491 hfl hC hr hlocks hE  h hM hS (lv_sub hl [] rfl)
            · have h := ifp c1 h
              refine lv_iload hx hb dL_act_434 (lv_at hl 0 rfl) ?_
              refine lv_bipush (v := (-3)) hx hb dL_act_436 (by decide) ?_
              refine lv_icmp_ne (tgt := 455) hx hb dL_act_438 (by decide) (fun c1 => ?_) (fun c1 => ?_)
              · have h := ifn c1 h
                refine W.widen (k := 51) (n := 2724) (Nat.le_of_ble_eq_true rfl) (Nat.le_of_ble_eq_true rfl) ?_
                exact tj_L_act_455 hfl hC hr hlocks hE  h hM hS (lv_sub hl [] rfl)
              · have h := ifp c1 h
                refine lv_aload_n hx hb dL_act_441 rfl (lv_at hl 5 rfl) ?_
                refine lv_iload_n hx hb dL_act_442 rfl (lv_at hl 3 rfl) ?_
                refine lv_bipush (v := 12) hx hb dL_act_443 (by decide) ?_
                obtain ⟨v69, M70, h1, h⟩ := ob2 h
                refine kSW (As := [.ref a1, .int (v3 - v3 / v1 * v1), .int 12]) (rest := []) hC hE hS hM (mt_L_added _ hfl E a1 (v3 - v3 / v1 * v1) 12 _ _ _ h1) (gwSW qw_645 qw_646 qw_38 qz_L_added) ⟨rfl, rfl, (Nat.le_of_ble_eq_true rfl), (Nat.le_of_ble_eq_true rfl)⟩ dd_L_added rfl rfl hl.1 (Nat.le_of_ble_eq_true rfl) dL_act_445 ⟨(Nat.le_of_ble_eq_true rfl), (Nat.le_of_ble_eq_true rfl)⟩ (fun H locs hM hS => ?_)
                refine lv_if_le (tgt := 455) hx hb dL_act_448 (by decide) (fun c1 => ?_) (fun c1 => ?_)
                · have h := ifp c1 h
                  refine W.widen (k := 51) (n := 2724) (Nat.le_of_ble_eq_true rfl) (Nat.le_of_ble_eq_true rfl) ?_
                  exact tj_L_act_455 hfl hC hr hlocks hE  h hM hS (lv_sub hl [] rfl)
                · have h := ifn c1 h
                  refine lv_iconst (v := 1) hx hb dL_act_451 (by decide) ?_
                  refine lv_goto (tgt := 491) hx hb dL_act_452 (by decide) ?_
                  refine W.widen (k := 51) (n := 2724) (Nat.le_of_ble_eq_true rfl) (Nat.le_of_ble_eq_true rfl) ?_
                  exact tj_L_act_491 hfl hC hr hlocks hE  h hM hS (lv_sub hl [] rfl)
          · have h := ifn c4 h
            by_cases c5 : (v9 - v9 / 9 * 9) = 5
            · have h := ifp c5 h
              refine lv_tableIn (off := 459) (tgt := 492) hx hb dL_act_33 (by rw [c5]; decide) (by rw [c5]; decide) (by rw [c5]; rfl) (by decide) ?_
              refine lv_aload_n hx hb dL_act_492 rfl (lv_at hl 5 rfl) ?_
              obtain ⟨v71, M72, h1, h⟩ := ob2 h
              refine kS1 (As := [.ref a2]) (rest := []) hC hE hS hM (mt_L_next _ E a2 _ _ _ h1) (gwS qw_547 qw_548 qw_38 qw_549) ⟨rfl, rfl, (Nat.le_of_ble_eq_true rfl), (Nat.le_of_ble_eq_true rfl)⟩ dd_L_next rfl rfl hl.1 (Nat.le_of_ble_eq_true rfl) dL_act_493 ⟨(Nat.le_of_ble_eq_true rfl), (Nat.le_of_ble_eq_true rfl)⟩ (fun H locs hM hS => ?_)
              refine lv_bipush (v := 6) hx hb dL_act_496 (by decide) ?_
              refine lv_irem hx hb dL_act_498 (by decide) ?_
              refine lv_istore (lv' := [(16, .int (v71 - v71 / 6 * 6)), (5, .int v7), (4, .int (v5 - v5 / v1 * v1)), (3, .int (v3 - v3 / v1 * v1)), (2, .int v1), (0, .ref a1), (1, .ref a2)]) hx hb dL_act_499 hl (by decide) rfl (fun ls hl => ?_)
              refine lv_iload hx hb dL_act_501 (lv_at hl 0 rfl) ?_
              refine lv_iload hx hb dL_act_503 (lv_at hl 1 rfl) ?_
              refine lv_icmp_ge (tgt := 522) hx hb dL_act_505 (by decide) (fun c1 => ?_) (fun c1 => ?_)
              · have h := ifp c1 h
                refine W.widen (k := 0) (n := 0) (Nat.le_of_ble_eq_true rfl) (Nat.le_of_ble_eq_true rfl) ?_
                exact tj_L_act_522 hfl hC hr hlocks hE  h hM hS (lv_sub hl [5, 3, 1, 0] rfl)
              · have h := ifn c1 h
                refine lv_aload_n hx hb dL_act_508 rfl (lv_at hl 5 rfl) ?_
                refine lv_iload hx hb dL_act_509 (lv_at hl 0 rfl) ?_
                refine lv_iload_n hx hb dL_act_511 rfl (lv_at hl 3 rfl) ?_
                obtain ⟨v79, M80, h1, h⟩ := obq h
                obtain ⟨hk1, h1⟩ := ifg h1
                refine kV1 (ci := 4) (As := [.int (v71 - v71 / 6 * 6), .int (v3 - v3 / v1 * v1)]) (rest := []) hC hE hS hM (mq_X4_isNews _ E a1 (v71 - v71 / 6 * 6) (v3 - v3 / v1 * v1) _ _ _ h1) (gwV qw_1040 qw_1041 qw_1042 qw_39 qw_1043) ⟨rfl, rfl, (Nat.le_of_ble_eq_true rfl), (Nat.le_of_ble_eq_true rfl)⟩ dd_X4_isNews rfl hk1 rfl rfl hl.1 (Nat.le_of_ble_eq_true rfl) dL_act_512 ⟨(Nat.le_of_ble_eq_true rfl), (Nat.le_of_ble_eq_true rfl)⟩ (fun H locs hM hS => ?_)
                refine lv_if_eq (tgt := 522) hx hb dL_act_515 (by decide) (fun c1 => ?_) (fun c1 => ?_)
                · have h := ifp c1 h
                  refine W.widen (k := 0) (n := 0) (Nat.le_of_ble_eq_true rfl) (Nat.le_of_ble_eq_true rfl) ?_
                  exact tj_L_act_522 hfl hC hr hlocks hE  h hM hS (lv_sub hl [5, 3, 1, 0] rfl)
                · have h := ifn c1 h
                  refine lv_iconst (v := 1) hx hb dL_act_518 (by decide) ?_
                  refine lv_goto (tgt := 523) hx hb dL_act_519 (by decide) ?_
                  refine W.widen (k := 0) (n := 0) (Nat.le_of_ble_eq_true rfl) (Nat.le_of_ble_eq_true rfl) ?_
                  exact tj_L_act_523 hfl hC hr hlocks hE  h hM hS (lv_sub hl [5, 3, 1, 0] rfl)
            · have h := ifn c5 h
              by_cases c6 : (v9 - v9 / 9 * 9) = 6
              · have h := ifp c6 h
                refine lv_tableIn (off := 564) (tgt := 597) hx hb dL_act_33 (by rw [c6]; decide) (by rw [c6]; decide) (by rw [c6]; rfl) (by decide) ?_
                refine lv_aload_n hx hb dL_act_597 rfl (lv_at hl 4 rfl) ?_
                refine lv_aload_n hx hb dL_act_598 rfl (lv_at hl 5 rfl) ?_
                obtain ⟨v81, M82, h1, h⟩ := ob2 h
                refine kS1 (As := [.ref a2]) (rest := [.ref a1]) hC hE hS hM (mt_L_next _ E a2 _ _ _ h1) (gwS qw_547 qw_548 qw_38 qw_549) ⟨rfl, rfl, (Nat.le_of_ble_eq_true rfl), (Nat.le_of_ble_eq_true rfl)⟩ dd_L_next rfl rfl hl.1 (Nat.le_of_ble_eq_true rfl) dL_act_599 ⟨(Nat.le_of_ble_eq_true rfl), (Nat.le_of_ble_eq_true rfl)⟩ (fun H locs hM hS => ?_)
                refine lv_bipush (v := 6) hx hb dL_act_602 (by decide) ?_
                refine lv_irem hx hb dL_act_604 (by decide) ?_
                obtain ⟨v83, M84, h1, h⟩ := ob2 h
                refine kSW (As := [.ref a1, .int (v81 - v81 / 6 * 6)]) (rest := []) hC hE hS hM (mt_L_dropped _ hfl E a1 (v81 - v81 / 6 * 6) _ _ _ h1) (gwSW qw_728 qw_729 qw_38 qz_L_dropped) ⟨rfl, rfl, (Nat.le_of_ble_eq_true rfl), (Nat.le_of_ble_eq_true rfl)⟩ dd_L_dropped rfl rfl hl.1 (Nat.le_of_ble_eq_true rfl) dL_act_605 ⟨(Nat.le_of_ble_eq_true rfl), (Nat.le_of_ble_eq_true rfl)⟩ (fun H locs hM hS => ?_)
                refine lv_istore (lv' := [(19, .int v83), (5, .int v7), (4, .int (v5 - v5 / v1 * v1)), (3, .int (v3 - v3 / v1 * v1)), (2, .int v1), (0, .ref a1), (1, .ref a2)]) hx hb dL_act_608 hl (by decide) rfl (fun ls hl => ?_)
                refine lv_iload hx hb dL_act_610 (lv_at hl 0 rfl) ?_
                refine lv_if_ge (tgt := 633) hx hb dL_act_612 (by decide) (fun c1 => ?_) (fun c1 => ?_)
                · have h := ifp c1 h
                  refine lv_iload hx hb dL_act_633 (lv_at hl 0 rfl) ?_
                  refine lv_iload hx hb dL_act_635 (lv_at hl 1 rfl) ?_
                  refine lv_iconst (v := 1) hx hb dL_act_637 (by decide) ?_
                  refine lv_isub hx hb dL_act_638 ?_
                  refine lv_icmp_ne (tgt := 646) hx hb dL_act_639 (by decide) (fun c1 => ?_) (fun c1 => ?_)
                  · have h := ifn c1 h
                    refine lv_iconst (v := 0) hx hb dL_act_646 (by decide) ?_
                    refine W.widen (k := 51) (n := 2724) (Nat.le_of_ble_eq_true rfl) (Nat.le_of_ble_eq_true rfl) ?_
                    exact tj_L_act_647 hfl hC hr hlocks hE  h hM hS (lv_sub hl [] rfl)
                  · have h := ifp c1 h
                    refine lv_iconst (v := 1) hx hb dL_act_642 (by decide) ?_
                    refine lv_goto (tgt := 647) hx hb dL_act_643 (by decide) ?_
                    refine W.widen (k := 51) (n := 2724) (Nat.le_of_ble_eq_true rfl) (Nat.le_of_ble_eq_true rfl) ?_
                    exact tj_L_act_647 hfl hC hr hlocks hE  h hM hS (lv_sub hl [] rfl)
                · have h := ifn c1 h
                  refine lv_aload_n hx hb dL_act_615 rfl (lv_at hl 5 rfl) ?_
                  refine lv_iload_n hx hb dL_act_616 rfl (lv_at hl 3 rfl) ?_
                  refine lv_bipush (v := 10) hx hb dL_act_617 (by decide) ?_
                  obtain ⟨v85, M86, h1, h⟩ := ob2 h
                  refine kSW (As := [.ref a1, .int (v3 - v3 / v1 * v1), .int 10]) (rest := []) hC hE hS hM (mt_L_added _ hfl E a1 (v3 - v3 / v1 * v1) 10 _ _ _ h1) (gwSW qw_645 qw_646 qw_38 qz_L_added) ⟨rfl, rfl, (Nat.le_of_ble_eq_true rfl), (Nat.le_of_ble_eq_true rfl)⟩ dd_L_added rfl rfl hl.1 (Nat.le_of_ble_eq_true rfl) dL_act_619 ⟨(Nat.le_of_ble_eq_true rfl), (Nat.le_of_ble_eq_true rfl)⟩ (fun H locs hM hS => ?_)
                  refine lv_if_le (tgt := 629) hx hb dL_act_622 (by decide) (fun c1 => ?_) (fun c1 => ?_)
                  · have h := ifp c1 h
                    refine lv_iconst (v := 0) hx hb dL_act_629 (by decide) ?_
                    refine lv_goto (tgt := 647) hx hb dL_act_630 (by decide) ?_
                    refine W.widen (k := 51) (n := 2724) (Nat.le_of_ble_eq_true rfl) (Nat.le_of_ble_eq_true rfl) ?_
                    exact tj_L_act_647 hfl hC hr hlocks hE  h hM hS (lv_sub hl [] rfl)
                  · have h := ifn c1 h
                    refine lv_iconst (v := 1) hx hb dL_act_625 (by decide) ?_
                    refine lv_goto (tgt := 647) hx hb dL_act_626 (by decide) ?_
                    refine W.widen (k := 51) (n := 2724) (Nat.le_of_ble_eq_true rfl) (Nat.le_of_ble_eq_true rfl) ?_
                    exact tj_L_act_647 hfl hC hr hlocks hE  h hM hS (lv_sub hl [] rfl)
              · have h := ifn c6 h
                by_cases c7 : (v9 - v9 / 9 * 9) = 7
                · have h := ifp c7 h
                  refine lv_tableIn (off := 615) (tgt := 648) hx hb dL_act_33 (by rw [c7]; decide) (by rw [c7]; decide) (by rw [c7]; rfl) (by decide) ?_
                  refine lv_aload_n hx hb dL_act_648 rfl (lv_at hl 4 rfl) ?_
                  obtain ⟨v87, M88, h1, h⟩ := ob2 h
                  obtain ⟨hk1, h1⟩ := ifg h1
                  refine kV1 (ci := 4) (As := []) (rest := []) hC hE hS hM (mt_X4_differentStates _ E a1 _ _ _ h1) (gwV qw_1167 qw_1168 qw_1169 qw_39 qw_1170) ⟨rfl, rfl, (Nat.le_of_ble_eq_true rfl), (Nat.le_of_ble_eq_true rfl)⟩ dd_X4_differentStates rfl hk1 rfl rfl hl.1 (Nat.le_of_ble_eq_true rfl) dL_act_649 ⟨(Nat.le_of_ble_eq_true rfl), (Nat.le_of_ble_eq_true rfl)⟩ (fun H locs hM hS => ?_)
                  refine lv_istore (lv' := [(20, .int v87), (5, .int v7), (4, .int (v5 - v5 / v1 * v1)), (3, .int (v3 - v3 / v1 * v1)), (2, .int v1), (0, .ref a1), (1, .ref a2)]) hx hb dL_act_652 hl (by decide) rfl (fun ls hl => ?_)
                  refine lv_aload_n hx hb dL_act_654 rfl (lv_at hl 5 rfl) ?_
                  obtain ⟨v89, M90, h1, h⟩ := ob2 h
                  obtain ⟨hk1, h1⟩ := ifg h1
                  refine kV1 (ci := 4) (As := []) (rest := []) hC hE hS hM (mt_X4_mergedTags _ E a1 _ _ _ h1) (gwV qw_1185 qw_1186 qw_1187 qw_39 qw_1188) ⟨rfl, rfl, (Nat.le_of_ble_eq_true rfl), (Nat.le_of_ble_eq_true rfl)⟩ dd_X4_mergedTags rfl hk1 rfl rfl hl.1 (Nat.le_of_ble_eq_true rfl) dL_act_655 ⟨(Nat.le_of_ble_eq_true rfl), (Nat.le_of_ble_eq_true rfl)⟩ (fun H locs hM hS => ?_)
                  refine lv_istore (lv' := [(21, .int v89), (20, .int v87), (5, .int v7), (4, .int (v5 - v5 / v1 * v1)), (3, .int (v3 - v3 / v1 * v1)), (2, .int v1), (0, .ref a1), (1, .ref a2)]) hx hb dL_act_658 hl (by decide) rfl (fun ls hl => ?_)
                  refine lv_aload_n hx hb dL_act_660 rfl (lv_at hl 6 rfl) ?_
                  obtain ⟨v91, M92, h1, h⟩ := ob2 h
                  obtain ⟨hk1, h1⟩ := ifg h1
                  refine kV1 (ci := 4) (As := []) (rest := []) hC hE hS hM (mt_X4_mergeAll _ E a1 _ _ _ h1) (gwV qw_1189 qw_1190 qw_1191 qw_39 qw_1192) ⟨rfl, rfl, (Nat.le_of_ble_eq_true rfl), (Nat.le_of_ble_eq_true rfl)⟩ dd_X4_mergeAll rfl hk1 rfl rfl hl.1 (Nat.le_of_ble_eq_true rfl) dL_act_661 ⟨(Nat.le_of_ble_eq_true rfl), (Nat.le_of_ble_eq_true rfl)⟩ (fun H locs hM hS => ?_)
                  refine lv_istore (lv' := [(22, .int v91), (21, .int v89), (20, .int v87), (5, .int v7), (4, .int (v5 - v5 / v1 * v1)), (3, .int (v3 - v3 / v1 * v1)), (2, .int v1), (0, .ref a1), (1, .ref a2)]) hx hb dL_act_664 hl (by decide) rfl (fun ls hl => ?_)
                  refine lv_iload hx hb dL_act_666 (lv_at hl 0 rfl) ?_
                  refine lv_iload hx hb dL_act_668 (lv_at hl 2 rfl) ?_
                  refine lv_iconst (v := 1) hx hb dL_act_670 (by decide) ?_
                  refine lv_isub hx hb dL_act_671 ?_
                  refine lv_icmp_lt (tgt := 712) hx hb dL_act_672 (by decide) (fun c1 => ?_) (fun c1 => ?_)
                  · have h := ifp c1 h
                    refine W.widen (k := 24) (n := 1353) (Nat.le_of_ble_eq_true rfl) (Nat.le_of_ble_eq_true rfl) ?_
                    exact tj_L_act_712 hfl hC hr hlocks hE  h hM hS (lv_sub hl [] rfl)
                  · have h := ifn c1 h
                    refine lv_iload hx hb dL_act_675 (lv_at hl 0 rfl) ?_
                    refine lv_iload_n hx hb dL_act_677 rfl (lv_at hl 6 rfl) ?_
                    refine lv_icmp_gt (tgt := 712) hx hb dL_act_678 (by decide) (fun c1 => ?_) (fun c1 => ?_)
                    · have h := ifp c1 h
                      refine W.widen (k := 24) (n := 1353) (Nat.le_of_ble_eq_true rfl) (Nat.le_of_ble_eq_true rfl) ?_
                      exact tj_L_act_712 hfl hC hr hlocks hE  h hM hS (lv_sub hl [] rfl)
                    · have h := ifn c1 h
                      refine lv_aload_n hx hb dL_act_681 rfl (lv_at hl 7 rfl) ?_
                      obtain ⟨v93, M94, h1, h⟩ := ob2 h
                      obtain ⟨hk1, h1⟩ := ifg h1
                      refine kV1 (ci := 4) (As := []) (rest := []) hC hE hS hM (mt_X4_differentStates _ E a1 _ _ _ h1) (gwV qw_1167 qw_1168 qw_1169 qw_39 qw_1170) ⟨rfl, rfl, (Nat.le_of_ble_eq_true rfl), (Nat.le_of_ble_eq_true rfl)⟩ dd_X4_differentStates rfl hk1 rfl rfl hl.1 (Nat.le_of_ble_eq_true rfl) dL_act_682 ⟨(Nat.le_of_ble_eq_true rfl), (Nat.le_of_ble_eq_true rfl)⟩ (fun H locs hM hS => ?_)
                      refine lv_iconst (v := 1) hx hb dL_act_685 (by decide) ?_
                      refine lv_icmp_ne (tgt := 712) hx hb dL_act_686 (by decide) (fun c1 => ?_) (fun c1 => ?_)
                      · have h := ifn c1 h
                        refine W.widen (k := 24) (n := 1353) (Nat.le_of_ble_eq_true rfl) (Nat.le_of_ble_eq_true rfl) ?_
                        exact tj_L_act_712 hfl hC hr hlocks hE  h hM hS (lv_sub hl [] rfl)
                      · have h := ifp c1 h
                        refine lv_aload_n hx hb dL_act_689 rfl (lv_at hl 7 rfl) ?_
                        refine lv_iload_n hx hb dL_act_690 rfl (lv_at hl 5 rfl) ?_
                        obtain ⟨v95, M96, h1, h⟩ := obq h
                        obtain ⟨hk1, h1⟩ := ifg h1
                        refine kV1 (ci := 4) (As := [.int (v3 - v3 / v1 * v1)]) (rest := []) hC hE hS hM (mq_X4_tagCount _ E a1 (v3 - v3 / v1 * v1) _ _ _ h1) (gwV qw_1090 qw_1091 qw_1092 qw_39 qw_1093) ⟨rfl, rfl, (Nat.le_of_ble_eq_true rfl), (Nat.le_of_ble_eq_true rfl)⟩ dd_X4_tagCount rfl hk1 rfl rfl hl.1 (Nat.le_of_ble_eq_true rfl) dL_act_691 ⟨(Nat.le_of_ble_eq_true rfl), (Nat.le_of_ble_eq_true rfl)⟩ (fun H locs hM hS => ?_)
                        refine lv_iload hx hb dL_act_694 (lv_at hl 1 rfl) ?_
                        refine lv_icmp_ne (tgt := 712) hx hb dL_act_696 (by decide) (fun c1 => ?_) (fun c1 => ?_)
                        · have h := ifn c1 h
                          refine W.widen (k := 24) (n := 1353) (Nat.le_of_ble_eq_true rfl) (Nat.le_of_ble_eq_true rfl) ?_
                          exact tj_L_act_712 hfl hC hr hlocks hE  h hM hS (lv_sub hl [] rfl)
                        · have h := ifp c1 h
                          refine lv_aload_n hx hb dL_act_699 rfl (lv_at hl 7 rfl) ?_
                          obtain ⟨v97, M98, h1, h⟩ := ob2 h
                          obtain ⟨hk1, h1⟩ := ifg h1
                          refine kV1 (ci := 4) (As := []) (rest := []) hC hE hS hM (mt_X4_completeShare _ E a1 _ _ _ h1) (gwV qw_1155 qw_1156 qw_1157 qw_39 qw_1158) ⟨rfl, rfl, (Nat.le_of_ble_eq_true rfl), (Nat.le_of_ble_eq_true rfl)⟩ dd_X4_completeShare rfl hk1 rfl rfl hl.1 (Nat.le_of_ble_eq_true rfl) dL_act_700 ⟨(Nat.le_of_ble_eq_true rfl), (Nat.le_of_ble_eq_true rfl)⟩ (fun H locs hM hS => ?_)
                          refine lv_fconst1 hx hb dL_act_703 ?_
                          refine lv_fcmp hx hb dL_act_704 ?_
                          refine lv_if_ne (tgt := 712) hx hb dL_act_705 (by decide) (fun c1 => ?_) (fun c1 => ?_)
                          · have h := ifn c1 h
                            refine W.widen (k := 24) (n := 1353) (Nat.le_of_ble_eq_true rfl) (Nat.le_of_ble_eq_true rfl) ?_
                            exact tj_L_act_712 hfl hC hr hlocks hE  h hM hS (lv_sub hl [] rfl)
                          · have h := ifp c1 h
                            refine lv_iconst (v := 1) hx hb dL_act_708 (by decide) ?_
                            refine lv_goto (tgt := 713) hx hb dL_act_709 (by decide) ?_
                            refine W.widen (k := 24) (n := 1353) (Nat.le_of_ble_eq_true rfl) (Nat.le_of_ble_eq_true rfl) ?_
                            exact tj_L_act_713 hfl hC hr hlocks hE  h hM hS (lv_sub hl [] rfl)
                · have h := ifn c7 h
                  refine lv_tableOut (tgt := 714) hx hb dL_act_33 (t_out8 c0 c1 c2 c3 c4 c5 c6 c7) (by decide) ?_
                  refine lv_aload_n hx hb dL_act_714 rfl (lv_at hl 4 rfl) ?_
                  refine lv_iload_n hx hb dL_act_715 rfl (lv_at hl 2 rfl) ?_
                  refine lv_iload hx hb dL_act_716 (lv_at hl 1 rfl) ?_
                  obtain ⟨v99, M100, h1, h⟩ := ob2 h
                  refine kS1 (As := [.ref a1, .int (v3 - v3 / v1 * v1), .int (v5 - v5 / v1 * v1)]) (rest := []) hC hE hS hM (mt_L_merging _ hfl E a1 (v3 - v3 / v1 * v1) (v5 - v5 / v1 * v1) _ _ _ h1) (gwS qw_1193 qw_1194 qw_38 qw_1195) ⟨rfl, rfl, (Nat.le_of_ble_eq_true rfl), (Nat.le_of_ble_eq_true rfl)⟩ dd_L_merging rfl rfl hl.1 (Nat.le_of_ble_eq_true rfl) dL_act_718 ⟨(Nat.le_of_ble_eq_true rfl), (Nat.le_of_ble_eq_true rfl)⟩ (fun H locs hM hS => ?_)
                  obtain ⟨h01, h⟩ := ifg h
                  cases h
                  exact eZ hx hb hr hlocks hM hS dL_act_721 (Nat.le_of_ble_eq_true rfl) (Nat.le_of_ble_eq_true rfl) h01
