/-! printed by wip/p56/gen2.py: methods as functions over the memory, and that the code does what they say -/
theorem dd_X1_init : yX1_init.cls = RX1 ∧ yX1_init.cls ≠ "java/lang/invoke/MethodHandle" ∧ yX1_init.cls ≠ "java/lang/invoke/VarHandle" ∧ (parseMethodDescriptor yX1_init.desc).map (fun d => d.parameters.length) = some 3 := by decide +kernel
abbrev rm_X1_init : Room := ({ frames := 1, cells := 0, slots := 0, locals := 24 } : Room)
noncomputable def f_X1_init (this : Nat) (a1 : Nat) (a2 : Int32) (a3 : Nat) (M : Mem) : Option Mem :=
  (sI 2 35 this 0 M).bind fun M1 =>
  (sI 2 36 this 0 M1).bind fun M2 =>
  (sI 2 37 this 0 M2).bind fun M3 =>
  (sI 2 38 this 0 M3).bind fun M4 =>
  (sI 2 39 this (-1) M4).bind fun M5 =>
  (sR 2 32 this (some a1) M5).bind fun M6 =>
  (sI 2 33 this a2 M6).bind fun M7 =>
  (sR 2 34 this (some a3) M7).bind fun M8 =>
  some M8
set_option maxHeartbeats 4000000 in
set_option maxRecDepth 100000 in
theorem mt_X1_init (l : Launch) (E : KEnv) (this : Nat) (a1 : Nat) (a2 : Int32) (a3 : Nat) (M M' : Mem) (h : f_X1_init this a1 a2 a3 M = some M') : Met l yX1_init (Cond.code yX1_init cX1_init 4 none :: lw_G) rm_X1_init (cPc E [.ref this, .ref a1, .int a2, .ref a3] M) (cQ E none M') 0 0 (eA E) := by
  refine Met.ofW (cc := cX1_init) (maxL := 4) (ret := none) (by decide) rfl ?_
  intro p e s m args below meth c s₁ B hml hv
  obtain ⟨rfl, hE, hM⟩ := hv
  have hx := B.exec
  have hb := B.bytes
  have hr := B.returns
  have hts0 := atoms_spec (ws := Cond.code yX1_init cX1_init 4 none :: lw_G) B.pre
  have hts : ∀ w ∈ lw_G, w.before _ s = true := fun w hw => hts0 w (List.mem_cons_of_mem _ hw)
  have hown : s.vm.findClass RX1 = some m.cls := findClass_of_methodNamed B.named
  have hlocks := B.notSynchronized
  have hin : meth.name = "<init>" := (name_of_methodNamed B.named B.method).1
  have hC : CallFix p m c cX1_init 4 s _ lw_G RX1 := ⟨hx, hb, hml, hown, hts⟩
  have hS : va_S (eA E) s.heap s.heap [] := va_S.rf
  have hl := lv_entry ([.ref this, .ref a1, .int a2, .ref a3]) (n := 4) (Nat.le_of_ble_eq_true rfl)
  rw [lg_entry_eq]
  generalize (lg_sl ([.ref this, .ref a1, .int a2, .ref a3]) ++ List.replicate (4 - (lg_sl ([.ref this, .ref a1, .int a2, .ref a3])).length) Slot.unset).toArray = ls at hl ⊢
  have hl : lv_has ls 4 [(0, .ref this), (1, .ref a1), (2, .int a2), (3, .ref a3)] := hl
  unfold f_X1_init at h
  show W p l e rm_X1_init s m _ below meth c s.heap [] 0 0 _ _
  refine lv_aload_n hx hb dX1_init_0 rfl (lv_at hl 0 rfl) ?_
  refine oInit hx hb hown (hts _ qw_203) (hts _ qw_67) (hts _ qw_68) (hl.1.trans hml.symm) dX1_init_1 (Nat.le_of_ble_eq_true rfl) (Nat.le_of_ble_eq_true rfl) ?_
  refine lv_aload_n hx hb dX1_init_4 rfl (lv_at hl 0 rfl) ?_
  refine lv_iconst (v := 0) hx hb dX1_init_5 (by decide) ?_
  obtain ⟨M1, h1, h⟩ := ob h
  refine rp_1_3 hx hb hts hown hE hM qw_207 hS h1 dX1_init_6 (fun H locs hM hS => ?_)
  refine lv_aload_n hx hb dX1_init_9 rfl (lv_at hl 0 rfl) ?_
  refine lv_iconst (v := 0) hx hb dX1_init_10 (by decide) ?_
  obtain ⟨M2, h1, h⟩ := ob h
  refine rp_1_4 hx hb hts hown hE hM qw_208 hS h1 dX1_init_11 (fun H locs hM hS => ?_)
  refine lv_aload_n hx hb dX1_init_14 rfl (lv_at hl 0 rfl) ?_
  refine lv_iconst (v := 0) hx hb dX1_init_15 (by decide) ?_
  obtain ⟨M3, h1, h⟩ := ob h
  refine rp_1_5 hx hb hts hown hE hM qw_209 hS h1 dX1_init_16 (fun H locs hM hS => ?_)
  refine lv_aload_n hx hb dX1_init_19 rfl (lv_at hl 0 rfl) ?_
  refine lv_iconst (v := 0) hx hb dX1_init_20 (by decide) ?_
  obtain ⟨M4, h1, h⟩ := ob h
  refine rp_1_6 hx hb hts hown hE hM qw_210 hS h1 dX1_init_21 (fun H locs hM hS => ?_)
  refine lv_aload_n hx hb dX1_init_24 rfl (lv_at hl 0 rfl) ?_
  refine lv_iconst (v := (-1)) hx hb dX1_init_25 (by decide) ?_
  obtain ⟨M5, h1, h⟩ := ob h
  refine rp_1_7 hx hb hts hown hE hM qw_212 hS h1 dX1_init_26 (fun H locs hM hS => ?_)
  refine lv_aload_n hx hb dX1_init_29 rfl (lv_at hl 0 rfl) ?_
  refine lv_aload_n hx hb dX1_init_30 rfl (lv_at hl 1 rfl) ?_
  obtain ⟨M6, h1, h⟩ := ob h
  refine rp_1_0 hx hb hts hown hE hM qw_204 hin rfl hS h1 dX1_init_31 (fun H locs hM hS => ?_)
  refine lv_aload_n hx hb dX1_init_34 rfl (lv_at hl 0 rfl) ?_
  refine lv_iload_n hx hb dX1_init_35 rfl (lv_at hl 2 rfl) ?_
  obtain ⟨M7, h1, h⟩ := ob h
  refine rp_1_1 hx hb hts hown hE hM qw_205 hin rfl hS h1 dX1_init_36 (fun H locs hM hS => ?_)
  refine lv_aload_n hx hb dX1_init_39 rfl (lv_at hl 0 rfl) ?_
  refine lv_aload_n hx hb dX1_init_40 rfl (lv_at hl 3 rfl) ?_
  obtain ⟨M8, h1, h⟩ := ob h
  refine rp_1_2 hx hb hts hown hE hM qw_206 hin rfl hS h1 dX1_init_41 (fun H locs hM hS => ?_)
  cases h
  exact eV_ hx hb hr hlocks hM hS dX1_init_44 (Nat.le_of_ble_eq_true rfl) (Nat.le_of_ble_eq_true rfl)

theorem dd_X1_failed : yX1_failed.cls = RX1 ∧ yX1_failed.cls ≠ "java/lang/invoke/MethodHandle" ∧ yX1_failed.cls ≠ "java/lang/invoke/VarHandle" ∧ (parseMethodDescriptor yX1_failed.desc).map (fun d => d.parameters.length) = some 0 := by decide +kernel
abbrev rm_X1_failed : Room := ({ frames := 0, cells := 0, slots := 0, locals := 0 } : Room)
noncomputable def fj_X1_failed_12 (s0 : Int32) (M : Mem) : Option (Int32 × Mem) :=
  (if s0 = 0 ∨ s0 = 1 then some (s0, M) else none)
set_option maxHeartbeats 4000000 in
set_option maxRecDepth 100000 in
theorem tj_X1_failed_12 {p : Program} {l : Launch} {e : Env} {s : State} {m : MethodId} {args : Array Value} {below : List Frame} {meth : Method} {c : Code} {E : KEnv} {H : Heap} {locs : List Loc} {ls : Array Slot} {s0 : Int32} {M : Mem} {v : Int32} {M' : Mem} (hC : CallFix p m c cX1_failed 1 s args lw_G RX1) (hr : meth.sig.returnType = (some .boolean)) (hlocks : meth.locks = false) (hE : EnvOK E s) (h : fj_X1_failed_12 s0 M = some (v, M')) (hM : MOK E M H) (hS : va_S (eA E) s.heap H locs) (hl : lv_has ls 1 []) : W p l e rm_X1_failed s m args below meth c H locs 0 0 (MQ below (cQ E (some (.int v)) M') args s 0 0 (eA E)) (F0 m 12 ls [.int s0]) := by
  obtain ⟨hx, hb, hml, hown, hts⟩ := id hC
  unfold fj_X1_failed_12 at h
  obtain ⟨h01, h⟩ := ifg h
  cases h
  exact eZ hx hb hr hlocks hM hS dX1_failed_12 (Nat.le_of_ble_eq_true rfl) (Nat.le_of_ble_eq_true rfl) h01
noncomputable def f_X1_failed (this : Nat) (M : Mem) : Option (Int32 × Mem) :=
  (gI 2 38 this M).bind fun v1 =>
  (if v1 = 0 then
  fj_X1_failed_12 0 M
  else
  fj_X1_failed_12 1 M)
set_option maxHeartbeats 4000000 in
set_option maxRecDepth 100000 in
theorem mt_X1_failed (l : Launch) (E : KEnv) (this : Nat) (M M' : Mem) (v : Int32) (h : f_X1_failed this M = some (v, M')) : Met l yX1_failed (Cond.code yX1_failed cX1_failed 1 (some .boolean) :: lw_G) rm_X1_failed (cPc E [.ref this] M) (cQ E (some (.int v)) M') 0 0 (eA E) := by
  refine Met.ofW (cc := cX1_failed) (maxL := 1) (ret := (some .boolean)) (by decide) rfl ?_
  intro p e s m args below meth c s₁ B hml hv
  obtain ⟨rfl, hE, hM⟩ := hv
  have hx := B.exec
  have hb := B.bytes
  have hr := B.returns
  have hts0 := atoms_spec (ws := Cond.code yX1_failed cX1_failed 1 (some .boolean) :: lw_G) B.pre
  have hts : ∀ w ∈ lw_G, w.before _ s = true := fun w hw => hts0 w (List.mem_cons_of_mem _ hw)
  have hown : s.vm.findClass RX1 = some m.cls := findClass_of_methodNamed B.named
  have hlocks := B.notSynchronized
  have hC : CallFix p m c cX1_failed 1 s _ lw_G RX1 := ⟨hx, hb, hml, hown, hts⟩
  have hS : va_S (eA E) s.heap s.heap [] := va_S.rf
  have hl := lv_entry ([.ref this]) (n := 1) (Nat.le_of_ble_eq_true rfl)
  rw [lg_entry_eq]
  generalize (lg_sl ([.ref this]) ++ List.replicate (1 - (lg_sl ([.ref this])).length) Slot.unset).toArray = ls at hl ⊢
  have hl : lv_has ls 1 [(0, .ref this)] := hl
  unfold f_X1_failed at h
  show W p l e rm_X1_failed s m _ below meth c s.heap [] 0 0 _ _
  refine lv_aload_n hx hb dX1_failed_0 rfl (lv_at hl 0 rfl) ?_
  obtain ⟨v1, h1, h⟩ := ob h
  refine rg_1_6 hx hb hts hown hE hM qw_210 h1 dX1_failed_1 ?_
  refine lv_if_eq (tgt := 11) hx hb dX1_failed_4 (by decide) (fun c1 => ?_) (fun c1 => ?_)
  · have h := ifp c1 h
    refine lv_iconst (v := 0) hx hb dX1_failed_11 (by decide) ?_
    refine W.widen (k := 0) (n := 0) (Nat.le_of_ble_eq_true rfl) (Nat.le_of_ble_eq_true rfl) ?_
    exact tj_X1_failed_12  hC hr hlocks hE  h hM hS (lv_sub hl [] rfl)
  · have h := ifn c1 h
    refine lv_iconst (v := 1) hx hb dX1_failed_7 (by decide) ?_
    refine lv_goto (tgt := 12) hx hb dX1_failed_8 (by decide) ?_
    refine W.widen (k := 0) (n := 0) (Nat.le_of_ble_eq_true rfl) (Nat.le_of_ble_eq_true rfl) ?_
    exact tj_X1_failed_12  hC hr hlocks hE  h hM hS (lv_sub hl [] rfl)

theorem dd_X1_fail : yX1_fail.cls = RX1 ∧ yX1_fail.cls ≠ "java/lang/invoke/MethodHandle" ∧ yX1_fail.cls ≠ "java/lang/invoke/VarHandle" ∧ (parseMethodDescriptor yX1_fail.desc).map (fun d => d.parameters.length) = some 1 := by decide +kernel
abbrev rm_X1_fail : Room := ({ frames := 1, cells := 0, slots := 0, locals := 20 } : Room)
noncomputable def fj_X1_fail_20  (M : Mem) : Option Mem :=
  some M
set_option maxHeartbeats 4000000 in
set_option maxRecDepth 100000 in
theorem tj_X1_fail_20 {p : Program} {l : Launch} {e : Env} {s : State} {m : MethodId} {args : Array Value} {below : List Frame} {meth : Method} {c : Code} {E : KEnv} {H : Heap} {locs : List Loc} {ls : Array Slot}  {M : Mem} {M' : Mem} (hC : CallFix p m c cX1_fail 2 s args lw_G RX1) (hr : meth.sig.returnType = none) (hlocks : meth.locks = false) (hE : EnvOK E s) (h : fj_X1_fail_20  M = some M') (hM : MOK E M H) (hS : va_S (eA E) s.heap H locs) (hl : lv_has ls 2 []) : W p l e rm_X1_fail s m args below meth c H locs 0 0 (MQ below (cQ E none M') args s 0 0 (eA E)) (F0 m 20 ls []) := by
  obtain ⟨hx, hb, hml, hown, hts⟩ := id hC
  unfold fj_X1_fail_20 at h
  cases h
  exact eV_ hx hb hr hlocks hM hS dX1_fail_20 (Nat.le_of_ble_eq_true rfl) (Nat.le_of_ble_eq_true rfl)
noncomputable def f_X1_fail (this : Nat) (a1 : Int32) (M : Mem) : Option Mem :=
  bn (cK 2 this M (f_X1_failed this M)) fun v1 M2 =>
  (if v1 = 0 then
  (sI 2 38 this a1 M2).bind fun M3 =>
  (gI 2 36 this M3).bind fun v4 =>
  (sI 2 39 this v4 M3).bind fun M5 =>
  fj_X1_fail_20 M5
  else
  fj_X1_fail_20 M2)
set_option maxHeartbeats 4000000 in
set_option maxRecDepth 100000 in
theorem mt_X1_fail (l : Launch) (E : KEnv) (this : Nat) (a1 : Int32) (M M' : Mem) (h : f_X1_fail this a1 M = some M') : Met l yX1_fail (Cond.code yX1_fail cX1_fail 2 none :: lw_G) rm_X1_fail (cPc E [.ref this, .int a1] M) (cQ E none M') 0 0 (eA E) := by
  refine Met.ofW (cc := cX1_fail) (maxL := 2) (ret := none) (by decide) rfl ?_
  intro p e s m args below meth c s₁ B hml hv
  obtain ⟨rfl, hE, hM⟩ := hv
  have hx := B.exec
  have hb := B.bytes
  have hr := B.returns
  have hts0 := atoms_spec (ws := Cond.code yX1_fail cX1_fail 2 none :: lw_G) B.pre
  have hts : ∀ w ∈ lw_G, w.before _ s = true := fun w hw => hts0 w (List.mem_cons_of_mem _ hw)
  have hown : s.vm.findClass RX1 = some m.cls := findClass_of_methodNamed B.named
  have hlocks := B.notSynchronized
  have hC : CallFix p m c cX1_fail 2 s _ lw_G RX1 := ⟨hx, hb, hml, hown, hts⟩
  have hS : va_S (eA E) s.heap s.heap [] := va_S.rf
  have hl := lv_entry ([.ref this, .int a1]) (n := 2) (Nat.le_of_ble_eq_true rfl)
  rw [lg_entry_eq]
  generalize (lg_sl ([.ref this, .int a1]) ++ List.replicate (2 - (lg_sl ([.ref this, .int a1])).length) Slot.unset).toArray = ls at hl ⊢
  have hl : lv_has ls 2 [(0, .ref this), (1, .int a1)] := hl
  unfold f_X1_fail at h
  show W p l e rm_X1_fail s m _ below meth c s.heap [] 0 0 _ _
  refine lv_aload_n hx hb dX1_fail_0 rfl (lv_at hl 0 rfl) ?_
  obtain ⟨v1, M2, h1, h⟩ := ob2 h
  obtain ⟨hk1, h1⟩ := ifg h1
  refine kV1 (ci := 1) (As := []) (rest := []) hC hE hS hM (mt_X1_failed _ E this _ _ _ h1) (gwV qw_244 qw_246 qw_2 qw_43 qw_247) ⟨rfl, rfl, (Nat.le_of_ble_eq_true rfl), (Nat.le_of_ble_eq_true rfl)⟩ dd_X1_failed rfl hk1 rfl rfl hl.1 (Nat.le_of_ble_eq_true rfl) dX1_fail_1 ⟨(Nat.le_of_ble_eq_true rfl), (Nat.le_of_ble_eq_true rfl)⟩ (fun H locs hM hS => ?_)
  refine lv_if_ne (tgt := 20) hx hb dX1_fail_4 (by decide) (fun c1 => ?_) (fun c1 => ?_)
  · have h := ifn c1 h
    refine W.widen (k := 0) (n := 0) (Nat.le_of_ble_eq_true rfl) (Nat.le_of_ble_eq_true rfl) ?_
    exact tj_X1_fail_20  hC hr hlocks hE  h hM hS (lv_sub hl [] rfl)
  · have h := ifp c1 h
    refine lv_aload_n hx hb dX1_fail_7 rfl (lv_at hl 0 rfl) ?_
    refine lv_iload_n hx hb dX1_fail_8 rfl (lv_at hl 1 rfl) ?_
    obtain ⟨M3, h1, h⟩ := ob h
    refine rp_1_6 hx hb hts hown hE hM qw_210 hS h1 dX1_fail_9 (fun H locs hM hS => ?_)
    refine lv_aload_n hx hb dX1_fail_12 rfl (lv_at hl 0 rfl) ?_
    refine lv_aload_n hx hb dX1_fail_13 rfl (lv_at hl 0 rfl) ?_
    obtain ⟨v4, h1, h⟩ := ob h
    refine rg_1_4 hx hb hts hown hE hM qw_208 h1 dX1_fail_14 ?_
    obtain ⟨M5, h1, h⟩ := ob h
    refine rp_1_7 hx hb hts hown hE hM qw_212 hS h1 dX1_fail_17 (fun H locs hM hS => ?_)
    refine W.widen (k := 0) (n := 0) (Nat.le_of_ble_eq_true rfl) (Nat.le_of_ble_eq_true rfl) ?_
    exact tj_X1_fail_20  hC hr hlocks hE  h hM hS (lv_sub hl [] rfl)

theorem dd_X1_isBlank : yX1_isBlank.cls ≠ "java/lang/invoke/MethodHandle" ∧ yX1_isBlank.cls ≠ "java/lang/invoke/VarHandle" ∧ (parseMethodDescriptor yX1_isBlank.desc).map (fun d => d.parameters.length) = some 1 := by decide +kernel
abbrev rm_X1_isBlank : Room := ({ frames := 0, cells := 0, slots := 0, locals := 0 } : Room)
noncomputable def fj_X1_isBlank_17 (s0 : Int32) (M : Mem) : Option (Int32 × Mem) :=
  (if s0 = 0 ∨ s0 = 1 then some (s0, M) else none)
set_option maxHeartbeats 4000000 in
set_option maxRecDepth 100000 in
theorem tj_X1_isBlank_17 {p : Program} {l : Launch} {e : Env} {s : State} {m : MethodId} {args : Array Value} {below : List Frame} {meth : Method} {c : Code} {E : KEnv} {H : Heap} {locs : List Loc} {ls : Array Slot} {s0 : Int32} {M : Mem} {v : Int32} {M' : Mem} (hC : CallFix p m c cX1_isBlank 1 s args lw_G RX1) (hr : meth.sig.returnType = (some .boolean)) (hlocks : meth.locks = false) (hE : EnvOK E s) (h : fj_X1_isBlank_17 s0 M = some (v, M')) (hM : MOK E M H) (hS : va_S (eA E) s.heap H locs) (hl : lv_has ls 1 []) : W p l e rm_X1_isBlank s m args below meth c H locs 0 0 (MQ below (cQ E (some (.int v)) M') args s 0 0 (eA E)) (F0 m 17 ls [.int s0]) := by
  obtain ⟨hx, hb, hml, hown, hts⟩ := id hC
  unfold fj_X1_isBlank_17 at h
  obtain ⟨h01, h⟩ := ifg h
  cases h
  exact eZ hx hb hr hlocks hM hS dX1_isBlank_17 (Nat.le_of_ble_eq_true rfl) (Nat.le_of_ble_eq_true rfl) h01
noncomputable def fj_X1_isBlank_12  (M : Mem) : Option (Int32 × Mem) :=
  fj_X1_isBlank_17 1 M
set_option maxHeartbeats 4000000 in
set_option maxRecDepth 100000 in
theorem tj_X1_isBlank_12 {p : Program} {l : Launch} {e : Env} {s : State} {m : MethodId} {args : Array Value} {below : List Frame} {meth : Method} {c : Code} {E : KEnv} {H : Heap} {locs : List Loc} {ls : Array Slot}  {M : Mem} {v : Int32} {M' : Mem} (hC : CallFix p m c cX1_isBlank 1 s args lw_G RX1) (hr : meth.sig.returnType = (some .boolean)) (hlocks : meth.locks = false) (hE : EnvOK E s) (h : fj_X1_isBlank_12  M = some (v, M')) (hM : MOK E M H) (hS : va_S (eA E) s.heap H locs) (hl : lv_has ls 1 []) : W p l e rm_X1_isBlank s m args below meth c H locs 0 0 (MQ below (cQ E (some (.int v)) M') args s 0 0 (eA E)) (F0 m 12 ls []) := by
  obtain ⟨hx, hb, hml, hown, hts⟩ := id hC
  unfold fj_X1_isBlank_12 at h
  refine lv_iconst (v := 1) hx hb dX1_isBlank_12 (by decide) ?_
  refine lv_goto (tgt := 17) hx hb dX1_isBlank_13 (by decide) ?_
  refine W.widen (k := 0) (n := 0) (Nat.le_of_ble_eq_true rfl) (Nat.le_of_ble_eq_true rfl) ?_
  exact tj_X1_isBlank_17  hC hr hlocks hE  h hM hS (lv_sub hl [] rfl)
noncomputable def f_X1_isBlank (a1 : Int32) (M : Mem) : Option (Int32 × Mem) :=
  (if a1 = 32 then
  fj_X1_isBlank_12 M
  else
  (if a1 = 10 then
  fj_X1_isBlank_12 M
  else
  fj_X1_isBlank_17 0 M))
set_option maxHeartbeats 4000000 in
set_option maxRecDepth 100000 in
theorem mt_X1_isBlank (l : Launch) (E : KEnv) (a1 : Int32) (M M' : Mem) (v : Int32) (h : f_X1_isBlank a1 M = some (v, M')) : Met l yX1_isBlank (Cond.code yX1_isBlank cX1_isBlank 1 (some .boolean) :: lw_G) rm_X1_isBlank (cPc E [.int a1] M) (cQ E (some (.int v)) M') 0 0 (eA E) := by
  refine Met.ofW (cc := cX1_isBlank) (maxL := 1) (ret := (some .boolean)) (by decide) rfl ?_
  intro p e s m args below meth c s₁ B hml hv
  obtain ⟨rfl, hE, hM⟩ := hv
  have hx := B.exec
  have hb := B.bytes
  have hr := B.returns
  have hts0 := atoms_spec (ws := Cond.code yX1_isBlank cX1_isBlank 1 (some .boolean) :: lw_G) B.pre
  have hts : ∀ w ∈ lw_G, w.before _ s = true := fun w hw => hts0 w (List.mem_cons_of_mem _ hw)
  have hown : s.vm.findClass RX1 = some m.cls := findClass_of_methodNamed B.named
  have hlocks := B.notSynchronized
  have hC : CallFix p m c cX1_isBlank 1 s _ lw_G RX1 := ⟨hx, hb, hml, hown, hts⟩
  have hS : va_S (eA E) s.heap s.heap [] := va_S.rf
  have hl := lv_entry ([.int a1]) (n := 1) (Nat.le_of_ble_eq_true rfl)
  rw [lg_entry_eq]
  generalize (lg_sl ([.int a1]) ++ List.replicate (1 - (lg_sl ([.int a1])).length) Slot.unset).toArray = ls at hl ⊢
  have hl : lv_has ls 1 [(0, .int a1)] := hl
  unfold f_X1_isBlank at h
  show W p l e rm_X1_isBlank s m _ below meth c s.heap [] 0 0 _ _
  refine lv_iload_n hx hb dX1_isBlank_0 rfl (lv_at hl 0 rfl) ?_
  refine lv_bipush (v := 32) hx hb dX1_isBlank_1 (by decide) ?_
  refine lv_icmp_eq (tgt := 12) hx hb dX1_isBlank_3 (by decide) (fun c1 => ?_) (fun c1 => ?_)
  · have h := ifp c1 h
    refine W.widen (k := 0) (n := 0) (Nat.le_of_ble_eq_true rfl) (Nat.le_of_ble_eq_true rfl) ?_
    exact tj_X1_isBlank_12  hC hr hlocks hE  h hM hS (lv_sub hl [] rfl)
  · have h := ifn c1 h
    refine lv_iload_n hx hb dX1_isBlank_6 rfl (lv_at hl 0 rfl) ?_
    refine lv_bipush (v := 10) hx hb dX1_isBlank_7 (by decide) ?_
    refine lv_icmp_ne (tgt := 16) hx hb dX1_isBlank_9 (by decide) (fun c1 => ?_) (fun c1 => ?_)
    · have h := ifn c1 h
      refine lv_iconst (v := 0) hx hb dX1_isBlank_16 (by decide) ?_
      refine W.widen (k := 0) (n := 0) (Nat.le_of_ble_eq_true rfl) (Nat.le_of_ble_eq_true rfl) ?_
      exact tj_X1_isBlank_17  hC hr hlocks hE  h hM hS (lv_sub hl [] rfl)
    · have h := ifp c1 h
      refine W.widen (k := 0) (n := 0) (Nat.le_of_ble_eq_true rfl) (Nat.le_of_ble_eq_true rfl) ?_
      exact tj_X1_isBlank_12  hC hr hlocks hE  h hM hS (lv_sub hl [] rfl)

theorem dd_X1_typeOf : yX1_typeOf.cls ≠ "java/lang/invoke/MethodHandle" ∧ yX1_typeOf.cls ≠ "java/lang/invoke/VarHandle" ∧ (parseMethodDescriptor yX1_typeOf.desc).map (fun d => d.parameters.length) = some 1 := by decide +kernel
abbrev rm_X1_typeOf : Room := ({ frames := 0, cells := 0, slots := 0, locals := 0 } : Room)
noncomputable def fj_X1_typeOf_39 (s0 : Int32) (M : Mem) : Option (Int32 × Mem) :=
  some (s0, M)
set_option maxHeartbeats 4000000 in
set_option maxRecDepth 100000 in
theorem tj_X1_typeOf_39 {p : Program} {l : Launch} {e : Env} {s : State} {m : MethodId} {args : Array Value} {below : List Frame} {meth : Method} {c : Code} {E : KEnv} {H : Heap} {locs : List Loc} {ls : Array Slot} {s0 : Int32} {M : Mem} {v : Int32} {M' : Mem} (hC : CallFix p m c cX1_typeOf 1 s args lw_G RX1) (hr : meth.sig.returnType = (some .int)) (hlocks : meth.locks = false) (hE : EnvOK E s) (h : fj_X1_typeOf_39 s0 M = some (v, M')) (hM : MOK E M H) (hS : va_S (eA E) s.heap H locs) (hl : lv_has ls 1 []) : W p l e rm_X1_typeOf s m args below meth c H locs 0 0 (MQ below (cQ E (some (.int v)) M') args s 0 0 (eA E)) (F0 m 39 ls [.int s0]) := by
  obtain ⟨hx, hb, hml, hown, hts⟩ := id hC
  unfold fj_X1_typeOf_39 at h
  cases h
  exact eI hx hb hr hlocks hM hS dX1_typeOf_39 (Nat.le_of_ble_eq_true rfl) (Nat.le_of_ble_eq_true rfl)
noncomputable def fj_X1_typeOf_28 (x0 : Int32) (M : Mem) : Option (Int32 × Mem) :=
  (if x0 = 59 then
  fj_X1_typeOf_39 3 M
  else
  fj_X1_typeOf_39 4 M)
set_option maxHeartbeats 4000000 in
set_option maxRecDepth 100000 in
theorem tj_X1_typeOf_28 {p : Program} {l : Launch} {e : Env} {s : State} {m : MethodId} {args : Array Value} {below : List Frame} {meth : Method} {c : Code} {E : KEnv} {H : Heap} {locs : List Loc} {ls : Array Slot} {x0 : Int32} {M : Mem} {v : Int32} {M' : Mem} (hC : CallFix p m c cX1_typeOf 1 s args lw_G RX1) (hr : meth.sig.returnType = (some .int)) (hlocks : meth.locks = false) (hE : EnvOK E s) (h : fj_X1_typeOf_28 x0 M = some (v, M')) (hM : MOK E M H) (hS : va_S (eA E) s.heap H locs) (hl : lv_has ls 1 [(0, .int x0)]) : W p l e rm_X1_typeOf s m args below meth c H locs 0 0 (MQ below (cQ E (some (.int v)) M') args s 0 0 (eA E)) (F0 m 28 ls []) := by
  obtain ⟨hx, hb, hml, hown, hts⟩ := id hC
  unfold fj_X1_typeOf_28 at h
  refine lv_iload_n hx hb dX1_typeOf_28 rfl (lv_at hl 0 rfl) ?_
  refine lv_bipush (v := 59) hx hb dX1_typeOf_29 (by decide) ?_
  refine lv_icmp_ne (tgt := 38) hx hb dX1_typeOf_31 (by decide) (fun c1 => ?_) (fun c1 => ?_)
  · have h := ifn c1 h
    refine lv_iconst (v := 4) hx hb dX1_typeOf_38 (by decide) ?_
    refine W.widen (k := 0) (n := 0) (Nat.le_of_ble_eq_true rfl) (Nat.le_of_ble_eq_true rfl) ?_
    exact tj_X1_typeOf_39  hC hr hlocks hE  h hM hS (lv_sub hl [] rfl)
  · have h := ifp c1 h
    refine lv_iconst (v := 3) hx hb dX1_typeOf_34 (by decide) ?_
    refine lv_goto (tgt := 39) hx hb dX1_typeOf_35 (by decide) ?_
    refine W.widen (k := 0) (n := 0) (Nat.le_of_ble_eq_true rfl) (Nat.le_of_ble_eq_true rfl) ?_
    exact tj_X1_typeOf_39  hC hr hlocks hE  h hM hS (lv_sub hl [] rfl)
noncomputable def fj_X1_typeOf_14 (x0 : Int32) (M : Mem) : Option (Int32 × Mem) :=
  (if x0 < 48 then
  fj_X1_typeOf_28 x0 M
  else
  (if (57 : Int32) < x0 then
  fj_X1_typeOf_28 x0 M
  else
  some (2, M)))
set_option maxHeartbeats 4000000 in
set_option maxRecDepth 100000 in
theorem tj_X1_typeOf_14 {p : Program} {l : Launch} {e : Env} {s : State} {m : MethodId} {args : Array Value} {below : List Frame} {meth : Method} {c : Code} {E : KEnv} {H : Heap} {locs : List Loc} {ls : Array Slot} {x0 : Int32} {M : Mem} {v : Int32} {M' : Mem} (hC : CallFix p m c cX1_typeOf 1 s args lw_G RX1) (hr : meth.sig.returnType = (some .int)) (hlocks : meth.locks = false) (hE : EnvOK E s) (h : fj_X1_typeOf_14 x0 M = some (v, M')) (hM : MOK E M H) (hS : va_S (eA E) s.heap H locs) (hl : lv_has ls 1 [(0, .int x0)]) : W p l e rm_X1_typeOf s m args below meth c H locs 0 0 (MQ below (cQ E (some (.int v)) M') args s 0 0 (eA E)) (F0 m 14 ls []) := by
  obtain ⟨hx, hb, hml, hown, hts⟩ := id hC
  unfold fj_X1_typeOf_14 at h
  refine lv_iload_n hx hb dX1_typeOf_14 rfl (lv_at hl 0 rfl) ?_
  refine lv_bipush (v := 48) hx hb dX1_typeOf_15 (by decide) ?_
  refine lv_icmp_lt (tgt := 28) hx hb dX1_typeOf_17 (by decide) (fun c1 => ?_) (fun c1 => ?_)
  · have h := ifp c1 h
    refine W.widen (k := 0) (n := 0) (Nat.le_of_ble_eq_true rfl) (Nat.le_of_ble_eq_true rfl) ?_
    exact tj_X1_typeOf_28  hC hr hlocks hE  h hM hS (lv_sub hl [0] rfl)
  · have h := ifn c1 h
    refine lv_iload_n hx hb dX1_typeOf_20 rfl (lv_at hl 0 rfl) ?_
    refine lv_bipush (v := 57) hx hb dX1_typeOf_21 (by decide) ?_
    refine lv_icmp_gt (tgt := 28) hx hb dX1_typeOf_23 (by decide) (fun c1 => ?_) (fun c1 => ?_)
    · have h := ifp c1 h
      refine W.widen (k := 0) (n := 0) (Nat.le_of_ble_eq_true rfl) (Nat.le_of_ble_eq_true rfl) ?_
      exact tj_X1_typeOf_28  hC hr hlocks hE  h hM hS (lv_sub hl [0] rfl)
    · have h := ifn c1 h
      refine lv_iconst (v := 2) hx hb dX1_typeOf_26 (by decide) ?_
      cases h
      exact eI hx hb hr hlocks hM hS dX1_typeOf_27 (Nat.le_of_ble_eq_true rfl) (Nat.le_of_ble_eq_true rfl)
noncomputable def f_X1_typeOf (a1 : Int32) (M : Mem) : Option (Int32 × Mem) :=
  (if a1 < 97 then
  fj_X1_typeOf_14 a1 M
  else
  (if (122 : Int32) < a1 then
  fj_X1_typeOf_14 a1 M
  else
  some (1, M)))
set_option maxHeartbeats 4000000 in
set_option maxRecDepth 100000 in
theorem mt_X1_typeOf (l : Launch) (E : KEnv) (a1 : Int32) (M M' : Mem) (v : Int32) (h : f_X1_typeOf a1 M = some (v, M')) : Met l yX1_typeOf (Cond.code yX1_typeOf cX1_typeOf 1 (some .int) :: lw_G) rm_X1_typeOf (cPc E [.int a1] M) (cQ E (some (.int v)) M') 0 0 (eA E) := by
  refine Met.ofW (cc := cX1_typeOf) (maxL := 1) (ret := (some .int)) (by decide) rfl ?_
  intro p e s m args below meth c s₁ B hml hv
  obtain ⟨rfl, hE, hM⟩ := hv
  have hx := B.exec
  have hb := B.bytes
  have hr := B.returns
  have hts0 := atoms_spec (ws := Cond.code yX1_typeOf cX1_typeOf 1 (some .int) :: lw_G) B.pre
  have hts : ∀ w ∈ lw_G, w.before _ s = true := fun w hw => hts0 w (List.mem_cons_of_mem _ hw)
  have hown : s.vm.findClass RX1 = some m.cls := findClass_of_methodNamed B.named
  have hlocks := B.notSynchronized
  have hC : CallFix p m c cX1_typeOf 1 s _ lw_G RX1 := ⟨hx, hb, hml, hown, hts⟩
  have hS : va_S (eA E) s.heap s.heap [] := va_S.rf
  have hl := lv_entry ([.int a1]) (n := 1) (Nat.le_of_ble_eq_true rfl)
  rw [lg_entry_eq]
  generalize (lg_sl ([.int a1]) ++ List.replicate (1 - (lg_sl ([.int a1])).length) Slot.unset).toArray = ls at hl ⊢
  have hl : lv_has ls 1 [(0, .int a1)] := hl
  unfold f_X1_typeOf at h
  show W p l e rm_X1_typeOf s m _ below meth c s.heap [] 0 0 _ _
  refine lv_iload_n hx hb dX1_typeOf_0 rfl (lv_at hl 0 rfl) ?_
  refine lv_bipush (v := 97) hx hb dX1_typeOf_1 (by decide) ?_
  refine lv_icmp_lt (tgt := 14) hx hb dX1_typeOf_3 (by decide) (fun c1 => ?_) (fun c1 => ?_)
  · have h := ifp c1 h
    refine W.widen (k := 0) (n := 0) (Nat.le_of_ble_eq_true rfl) (Nat.le_of_ble_eq_true rfl) ?_
    exact tj_X1_typeOf_14  hC hr hlocks hE  h hM hS (lv_sub hl [0] rfl)
  · have h := ifn c1 h
    refine lv_iload_n hx hb dX1_typeOf_6 rfl (lv_at hl 0 rfl) ?_
    refine lv_bipush (v := 122) hx hb dX1_typeOf_7 (by decide) ?_
    refine lv_icmp_gt (tgt := 14) hx hb dX1_typeOf_9 (by decide) (fun c1 => ?_) (fun c1 => ?_)
    · have h := ifp c1 h
      refine W.widen (k := 0) (n := 0) (Nat.le_of_ble_eq_true rfl) (Nat.le_of_ble_eq_true rfl) ?_
      exact tj_X1_typeOf_14  hC hr hlocks hE  h hM hS (lv_sub hl [0] rfl)
    · have h := ifn c1 h
      refine lv_iconst (v := 1) hx hb dX1_typeOf_12 (by decide) ?_
      cases h
      exact eI hx hb hr hlocks hM hS dX1_typeOf_13 (Nat.le_of_ble_eq_true rfl) (Nat.le_of_ble_eq_true rfl)

theorem dd_X1_nextToken : yX1_nextToken.cls = RX1 ∧ yX1_nextToken.cls ≠ "java/lang/invoke/MethodHandle" ∧ yX1_nextToken.cls ≠ "java/lang/invoke/VarHandle" ∧ (parseMethodDescriptor yX1_nextToken.desc).map (fun d => d.parameters.length) = some 0 := by decide +kernel
abbrev rm_X1_nextToken : Room := ({ frames := 1, cells := 0, slots := 0, locals := 20 } : Room)
noncomputable def fj_X1_nextToken_255  (M : Mem) : Option Mem :=
  some M
set_option maxHeartbeats 4000000 in
set_option maxRecDepth 100000 in
theorem tj_X1_nextToken_255 {p : Program} {l : Launch} {e : Env} {s : State} {m : MethodId} {args : Array Value} {below : List Frame} {meth : Method} {c : Code} {E : KEnv} {H : Heap} {locs : List Loc} {ls : Array Slot}  {M : Mem} {M' : Mem} (hC : CallFix p m c cX1_nextToken 5 s args lw_G RX1) (hr : meth.sig.returnType = none) (hlocks : meth.locks = false) (hE : EnvOK E s) (h : fj_X1_nextToken_255  M = some M') (hM : MOK E M H) (hS : va_S (eA E) s.heap H locs) (hl : lv_has ls 5 []) : W p l e rm_X1_nextToken s m args below meth c H locs 0 0 (MQ below (cQ E none M') args s 0 0 (eA E)) (F0 m 255 ls []) := by
  obtain ⟨hx, hb, hml, hown, hts⟩ := id hC
  unfold fj_X1_nextToken_255 at h
  cases h
  exact eV_ hx hb hr hlocks hM hS dX1_nextToken_255 (Nat.le_of_ble_eq_true rfl) (Nat.le_of_ble_eq_true rfl)
noncomputable def fj_X1_nextToken_250 (x0 : Nat) (M : Mem) : Option Mem :=
  (sI 2 35 x0 4 M).bind fun M15 =>
  fj_X1_nextToken_255 M15
set_option maxHeartbeats 4000000 in
set_option maxRecDepth 100000 in
theorem tj_X1_nextToken_250 {p : Program} {l : Launch} {e : Env} {s : State} {m : MethodId} {args : Array Value} {below : List Frame} {meth : Method} {c : Code} {E : KEnv} {H : Heap} {locs : List Loc} {ls : Array Slot} {x0 : Nat} {M : Mem} {M' : Mem} (hC : CallFix p m c cX1_nextToken 5 s args lw_G RX1) (hr : meth.sig.returnType = none) (hlocks : meth.locks = false) (hE : EnvOK E s) (h : fj_X1_nextToken_250 x0 M = some M') (hM : MOK E M H) (hS : va_S (eA E) s.heap H locs) (hl : lv_has ls 5 [(0, .ref x0)]) : W p l e rm_X1_nextToken s m args below meth c H locs 0 0 (MQ below (cQ E none M') args s 0 0 (eA E)) (F0 m 250 ls []) := by
  obtain ⟨hx, hb, hml, hown, hts⟩ := id hC
  unfold fj_X1_nextToken_250 at h
  refine lv_aload_n hx hb dX1_nextToken_250 rfl (lv_at hl 0 rfl) ?_
  refine lv_iconst (v := 4) hx hb dX1_nextToken_251 (by decide) ?_
  obtain ⟨M15, h1, h⟩ := ob h
  refine rp_1_3 hx hb hts hown hE hM qw_207 hS h1 dX1_nextToken_252 (fun H locs hM hS => ?_)
  refine W.widen (k := 0) (n := 0) (Nat.le_of_ble_eq_true rfl) (Nat.le_of_ble_eq_true rfl) ?_
  exact tj_X1_nextToken_255  hC hr hlocks hE  h hM hS (lv_sub hl [] rfl)
noncomputable def fj_X1_nextToken_222 (x0 : Nat) (s0 : Int32) (M : Mem) : Option Mem :=
  (if s0 = 0 then
  (gI 2 35 x0 M).bind fun v16 =>
  (if v16 = 2 then
  (gI 2 37 x0 M).bind fun v17 =>
  (gI 2 36 x0 M).bind fun v18 =>
  (if (v17 - v18) ≤ 2 then
  fj_X1_nextToken_255 M
  else
  fj_X1_nextToken_250 x0 M)
  else
  fj_X1_nextToken_255 M)
  else
  fj_X1_nextToken_250 x0 M)
set_option maxHeartbeats 4000000 in
set_option maxRecDepth 100000 in
theorem tj_X1_nextToken_222 {p : Program} {l : Launch} {e : Env} {s : State} {m : MethodId} {args : Array Value} {below : List Frame} {meth : Method} {c : Code} {E : KEnv} {H : Heap} {locs : List Loc} {ls : Array Slot} {x0 : Nat} {s0 : Int32} {M : Mem} {M' : Mem} (hC : CallFix p m c cX1_nextToken 5 s args lw_G RX1) (hr : meth.sig.returnType = none) (hlocks : meth.locks = false) (hE : EnvOK E s) (h : fj_X1_nextToken_222 x0 s0 M = some M') (hM : MOK E M H) (hS : va_S (eA E) s.heap H locs) (hl : lv_has ls 5 [(0, .ref x0)]) : W p l e rm_X1_nextToken s m args below meth c H locs 0 0 (MQ below (cQ E none M') args s 0 0 (eA E)) (F0 m 222 ls [.int s0]) := by
  obtain ⟨hx, hb, hml, hown, hts⟩ := id hC
  unfold fj_X1_nextToken_222 at h
  refine lv_istore (lv' := [(4, .int s0), (0, .ref x0)]) hx hb dX1_nextToken_222 hl (by decide) rfl (fun ls hl => ?_)
  refine lv_iload hx hb dX1_nextToken_224 (lv_at hl 0 rfl) ?_
  refine lv_if_ne (tgt := 250) hx hb dX1_nextToken_226 (by decide) (fun c1 => ?_) (fun c1 => ?_)
  · have h := ifn c1 h
    refine W.widen (k := 0) (n := 0) (Nat.le_of_ble_eq_true rfl) (Nat.le_of_ble_eq_true rfl) ?_
    exact tj_X1_nextToken_250  hC hr hlocks hE  h hM hS (lv_sub hl [1] rfl)
  · have h := ifp c1 h
    refine lv_aload_n hx hb dX1_nextToken_229 rfl (lv_at hl 1 rfl) ?_
    obtain ⟨v16, h1, h⟩ := ob h
    refine rg_1_3 hx hb hts hown hE hM qw_207 h1 dX1_nextToken_230 ?_
    refine lv_iconst (v := 2) hx hb dX1_nextToken_233 (by decide) ?_
    refine lv_icmp_ne (tgt := 255) hx hb dX1_nextToken_234 (by decide) (fun c1 => ?_) (fun c1 => ?_)
    · have h := ifn c1 h
      refine W.widen (k := 0) (n := 0) (Nat.le_of_ble_eq_true rfl) (Nat.le_of_ble_eq_true rfl) ?_
      exact tj_X1_nextToken_255  hC hr hlocks hE  h hM hS (lv_sub hl [] rfl)
    · have h := ifp c1 h
      refine lv_aload_n hx hb dX1_nextToken_237 rfl (lv_at hl 1 rfl) ?_
      obtain ⟨v17, h1, h⟩ := ob h
      refine rg_1_5 hx hb hts hown hE hM qw_209 h1 dX1_nextToken_238 ?_
      refine lv_aload_n hx hb dX1_nextToken_241 rfl (lv_at hl 1 rfl) ?_
      obtain ⟨v18, h1, h⟩ := ob h
      refine rg_1_4 hx hb hts hown hE hM qw_208 h1 dX1_nextToken_242 ?_
      refine lv_isub hx hb dX1_nextToken_245 ?_
      refine lv_iconst (v := 2) hx hb dX1_nextToken_246 (by decide) ?_
      refine lv_icmp_le (tgt := 255) hx hb dX1_nextToken_247 (by decide) (fun c1 => ?_) (fun c1 => ?_)
      · have h := ifp c1 h
        refine W.widen (k := 0) (n := 0) (Nat.le_of_ble_eq_true rfl) (Nat.le_of_ble_eq_true rfl) ?_
        exact tj_X1_nextToken_255  hC hr hlocks hE  h hM hS (lv_sub hl [] rfl)
      · have h := ifn c1 h
        refine W.widen (k := 0) (n := 0) (Nat.le_of_ble_eq_true rfl) (Nat.le_of_ble_eq_true rfl) ?_
        exact tj_X1_nextToken_250  hC hr hlocks hE  h hM hS (lv_sub hl [1] rfl)
noncomputable def fj_X1_nextToken_221 (x0 : Nat) (M : Mem) : Option Mem :=
  fj_X1_nextToken_222 x0 0 M
set_option maxHeartbeats 4000000 in
set_option maxRecDepth 100000 in
theorem tj_X1_nextToken_221 {p : Program} {l : Launch} {e : Env} {s : State} {m : MethodId} {args : Array Value} {below : List Frame} {meth : Method} {c : Code} {E : KEnv} {H : Heap} {locs : List Loc} {ls : Array Slot} {x0 : Nat} {M : Mem} {M' : Mem} (hC : CallFix p m c cX1_nextToken 5 s args lw_G RX1) (hr : meth.sig.returnType = none) (hlocks : meth.locks = false) (hE : EnvOK E s) (h : fj_X1_nextToken_221 x0 M = some M') (hM : MOK E M H) (hS : va_S (eA E) s.heap H locs) (hl : lv_has ls 5 [(0, .ref x0)]) : W p l e rm_X1_nextToken s m args below meth c H locs 0 0 (MQ below (cQ E none M') args s 0 0 (eA E)) (F0 m 221 ls []) := by
  obtain ⟨hx, hb, hml, hown, hts⟩ := id hC
  unfold fj_X1_nextToken_221 at h
  refine lv_iconst (v := 0) hx hb dX1_nextToken_221 (by decide) ?_
  refine W.widen (k := 0) (n := 0) (Nat.le_of_ble_eq_true rfl) (Nat.le_of_ble_eq_true rfl) ?_
  exact tj_X1_nextToken_222  hC hr hlocks hE  h hM hS (lv_sub hl [0] rfl)
noncomputable def fj_X1_nextToken_201 (x0 : Nat) (x1 : Int32) (x2 : Int32) (x3 : Int32) (M : Mem) : Option Mem :=
  (if x3 = 0 then
  fj_X1_nextToken_221 x0 M
  else
  (if x1 = 0 then
  fj_X1_nextToken_221 x0 M
  else
  (gI 2 36 x0 M).bind fun v19 =>
  (if v19 = x2 then
  fj_X1_nextToken_222 x0 1 M
  else
  fj_X1_nextToken_221 x0 M)))
set_option maxHeartbeats 4000000 in
set_option maxRecDepth 100000 in
theorem tj_X1_nextToken_201 {p : Program} {l : Launch} {e : Env} {s : State} {m : MethodId} {args : Array Value} {below : List Frame} {meth : Method} {c : Code} {E : KEnv} {H : Heap} {locs : List Loc} {ls : Array Slot} {x0 : Nat} {x1 : Int32} {x2 : Int32} {x3 : Int32} {M : Mem} {M' : Mem} (hC : CallFix p m c cX1_nextToken 5 s args lw_G RX1) (hr : meth.sig.returnType = none) (hlocks : meth.locks = false) (hE : EnvOK E s) (h : fj_X1_nextToken_201 x0 x1 x2 x3 M = some M') (hM : MOK E M H) (hS : va_S (eA E) s.heap H locs) (hl : lv_has ls 5 [(0, .ref x0), (1, .int x1), (2, .int x2), (3, .int x3)]) : W p l e rm_X1_nextToken s m args below meth c H locs 0 0 (MQ below (cQ E none M') args s 0 0 (eA E)) (F0 m 201 ls []) := by
  obtain ⟨hx, hb, hml, hown, hts⟩ := id hC
  unfold fj_X1_nextToken_201 at h
  refine lv_iload_n hx hb dX1_nextToken_201 rfl (lv_at hl 3 rfl) ?_
  refine lv_if_eq (tgt := 221) hx hb dX1_nextToken_202 (by decide) (fun c1 => ?_) (fun c1 => ?_)
  · have h := ifp c1 h
    refine W.widen (k := 0) (n := 0) (Nat.le_of_ble_eq_true rfl) (Nat.le_of_ble_eq_true rfl) ?_
    exact tj_X1_nextToken_221  hC hr hlocks hE  h hM hS (lv_sub hl [0] rfl)
  · have h := ifn c1 h
    refine lv_iload_n hx hb dX1_nextToken_205 rfl (lv_at hl 1 rfl) ?_
    refine lv_if_eq (tgt := 221) hx hb dX1_nextToken_206 (by decide) (fun c1 => ?_) (fun c1 => ?_)
    · have h := ifp c1 h
      refine W.widen (k := 0) (n := 0) (Nat.le_of_ble_eq_true rfl) (Nat.le_of_ble_eq_true rfl) ?_
      exact tj_X1_nextToken_221  hC hr hlocks hE  h hM hS (lv_sub hl [0] rfl)
    · have h := ifn c1 h
      refine lv_aload_n hx hb dX1_nextToken_209 rfl (lv_at hl 0 rfl) ?_
      obtain ⟨v19, h1, h⟩ := ob h
      refine rg_1_4 hx hb hts hown hE hM qw_208 h1 dX1_nextToken_210 ?_
      refine lv_iload_n hx hb dX1_nextToken_213 rfl (lv_at hl 2 rfl) ?_
      refine lv_icmp_ne (tgt := 221) hx hb dX1_nextToken_214 (by decide) (fun c1 => ?_) (fun c1 => ?_)
      · have h := ifn c1 h
        refine W.widen (k := 0) (n := 0) (Nat.le_of_ble_eq_true rfl) (Nat.le_of_ble_eq_true rfl) ?_
        exact tj_X1_nextToken_221  hC hr hlocks hE  h hM hS (lv_sub hl [0] rfl)
      · have h := ifp c1 h
        refine lv_iconst (v := 1) hx hb dX1_nextToken_217 (by decide) ?_
        refine lv_goto (tgt := 222) hx hb dX1_nextToken_218 (by decide) ?_
        refine W.widen (k := 0) (n := 0) (Nat.le_of_ble_eq_true rfl) (Nat.le_of_ble_eq_true rfl) ?_
        exact tj_X1_nextToken_222  hC hr hlocks hE  h hM hS (lv_sub hl [0] rfl)
noncomputable def fc_X1_nextToken_154 (x0 : Nat) (x1 : Int32) (x2 : Int32) (x3 : Int32) (M : Mem) : Option ((Mem) ⊕ Mem) :=
  (if x3 = 0 then
  (fj_X1_nextToken_201 x0 x1 x2 x3 M).map Sum.inr
  else
  (gI 2 37 x0 M).bind fun v20 =>
  (gI 2 33 x0 M).bind fun v21 =>
  (if v21 ≤ v20 then
  (fj_X1_nextToken_201 x0 x1 x2 x3 M).map Sum.inr
  else
  (gRn 2 32 x0 M).bind fun v22 =>
  (gI 2 37 x0 M).bind fun v23 =>
  (gA 8 v22 v23 M).bind fun v24 =>
  bn (f_X1_typeOf v24 M) fun v25 M26 =>
  (gI 2 35 x0 M26).bind fun v27 =>
  (if v25 = v27 then
  (gI 2 37 x0 M26).bind fun v28 =>
  (sI 2 37 x0 (v28 + 1) M26).bind fun M29 =>
  some (.inl (M29))
  else
  (fj_X1_nextToken_201 x0 x1 x2 x3 M26).map Sum.inr)))
noncomputable def fj_X1_nextToken_154 (x0 : Nat) (x1 : Int32) (x2 : Int32) (x3 : Int32) (M : Mem) : Option Mem := loopM (fun q : (Mem) => fc_X1_nextToken_154 x0 x1 x2 x3 q) FU (M)
set_option maxHeartbeats 4000000 in
set_option maxRecDepth 100000 in
theorem tj_X1_nextToken_154 {p : Program} {l : Launch} {e : Env} {s : State} {m : MethodId} {args : Array Value} {below : List Frame} {meth : Method} {c : Code} {E : KEnv} {H : Heap} {locs : List Loc} {ls : Array Slot} {x0 : Nat} {x1 : Int32} {x2 : Int32} {x3 : Int32} {M : Mem} {M' : Mem} (hC : CallFix p m c cX1_nextToken 5 s args lw_G RX1) (hr : meth.sig.returnType = none) (hlocks : meth.locks = false) (hE : EnvOK E s) (h : fj_X1_nextToken_154 x0 x1 x2 x3 M = some M') (hM : MOK E M H) (hS : va_S (eA E) s.heap H locs) (hl : lv_has ls 5 [(0, .ref x0), (1, .int x1), (2, .int x2), (3, .int x3)]) : W p l e rm_X1_nextToken s m args below meth c H locs 0 0 (MQ below (cQ E none M') args s 0 0 (eA E)) (F0 m 154 ls []) := by
  refine loopM_ind (body := fun q : (Mem) => fc_X1_nextToken_154 x0 x1 x2 x3 q) (x0 := M') (Wd := fun q : (Mem) => ∀ (H : Heap) (locs : List Loc) (ls : Array Slot), MOK E (q) H → va_S (eA E) s.heap H locs → lv_has ls 5 [(0, .ref x0), (1, .int x1), (2, .int x2), (3, .int x3)] → W p l e rm_X1_nextToken s m args below meth c H locs 0 0 (MQ below (cQ E none M') args s 0 0 (eA E)) (F0 m 154 ls [])) ?_ FU (M) h H locs ls hM hS hl
  clear h hM hS hl H locs ls M
  obtain ⟨hx, hb, hml, hown, hts⟩ := id hC
  intro M y1 h hy1 H locs ls hM hS hl
  have h : fc_X1_nextToken_154 x0 x1 x2 x3 M = some y1 := h
  have hM : MOK E M H := hM
  have hl : lv_has ls 5 [(0, .ref x0), (1, .int x1), (2, .int x2), (3, .int x3)] := hl
  unfold fc_X1_nextToken_154 at h
  show W p l e rm_X1_nextToken s m args below meth c H locs _ _ _ _
  refine lv_iload_n hx hb dX1_nextToken_154 rfl (lv_at hl 3 rfl) ?_
  refine lv_if_eq (tgt := 201) hx hb dX1_nextToken_155 (by decide) (fun c1 => ?_) (fun c1 => ?_)
  · have h := ifp c1 h
    obtain ⟨z0, h9, rfl⟩ := om h
    have e0 := hy1.2 _ rfl
    subst e0
    have h := h9
    refine W.widen (k := 0) (n := 0) (Nat.le_of_ble_eq_true rfl) (Nat.le_of_ble_eq_true rfl) ?_
    exact tj_X1_nextToken_201  hC hr hlocks hE  h hM hS (lv_sub hl [0, 1, 2, 3] rfl)
  · have h := ifn c1 h
    refine lv_aload_n hx hb dX1_nextToken_158 rfl (lv_at hl 0 rfl) ?_
    obtain ⟨v20, h1, h⟩ := ob h
    refine rg_1_5 hx hb hts hown hE hM qw_209 h1 dX1_nextToken_159 ?_
    refine lv_aload_n hx hb dX1_nextToken_162 rfl (lv_at hl 0 rfl) ?_
    obtain ⟨v21, h1, h⟩ := ob h
    refine rg_1_1 hx hb hts hown hE hM qw_205 h1 dX1_nextToken_163 ?_
    refine lv_icmp_ge (tgt := 201) hx hb dX1_nextToken_166 (by decide) (fun c1 => ?_) (fun c1 => ?_)
    · have h := ifp c1 h
      obtain ⟨z0, h9, rfl⟩ := om h
      have e0 := hy1.2 _ rfl
      subst e0
      have h := h9
      refine W.widen (k := 0) (n := 0) (Nat.le_of_ble_eq_true rfl) (Nat.le_of_ble_eq_true rfl) ?_
      exact tj_X1_nextToken_201  hC hr hlocks hE  h hM hS (lv_sub hl [0, 1, 2, 3] rfl)
    · have h := ifn c1 h
      refine lv_aload_n hx hb dX1_nextToken_169 rfl (lv_at hl 0 rfl) ?_
      obtain ⟨v22, h1, h⟩ := ob h
      refine rgn_1_0 hx hb hts hown hE hM qw_204 h1 dX1_nextToken_170 ?_
      refine lv_aload_n hx hb dX1_nextToken_173 rfl (lv_at hl 0 rfl) ?_
      obtain ⟨v23, h1, h⟩ := ob h
      refine rg_1_5 hx hb hts hown hE hM qw_209 h1 dX1_nextToken_174 ?_
      obtain ⟨v24, h1, h⟩ := ob h
      refine r_cald hx hb hE hM h1 dX1_nextToken_177 ?_
      obtain ⟨v25, M26, h1, h⟩ := ob2 h
      refine kS1 (As := [.int v24]) (rest := []) hC hE hS hM (mt_X1_typeOf _ E v24 _ _ _ h1) (gwS qw_251 qw_252 qw_43 qw_253) ⟨rfl, rfl, (Nat.le_of_ble_eq_true rfl), (Nat.le_of_ble_eq_true rfl)⟩ dd_X1_typeOf rfl rfl hl.1 (Nat.le_of_ble_eq_true rfl) dX1_nextToken_178 ⟨(Nat.le_of_ble_eq_true rfl), (Nat.le_of_ble_eq_true rfl)⟩ (fun H locs hM hS => ?_)
      refine lv_aload_n hx hb dX1_nextToken_181 rfl (lv_at hl 0 rfl) ?_
      obtain ⟨v27, h1, h⟩ := ob h
      refine rg_1_3 hx hb hts hown hE hM qw_207 h1 dX1_nextToken_182 ?_
      refine lv_icmp_ne (tgt := 201) hx hb dX1_nextToken_185 (by decide) (fun c1 => ?_) (fun c1 => ?_)
      · have h := ifn c1 h
        obtain ⟨z0, h9, rfl⟩ := om h
        have e0 := hy1.2 _ rfl
        subst e0
        have h := h9
        refine W.widen (k := 0) (n := 0) (Nat.le_of_ble_eq_true rfl) (Nat.le_of_ble_eq_true rfl) ?_
        exact tj_X1_nextToken_201  hC hr hlocks hE  h hM hS (lv_sub hl [0, 1, 2, 3] rfl)
      · have h := ifp c1 h
        refine lv_aload_n hx hb dX1_nextToken_188 rfl (lv_at hl 0 rfl) ?_
        refine lv_dup hx hb dX1_nextToken_189 rfl ?_
        obtain ⟨v28, h1, h⟩ := ob h
        refine rg_1_5 hx hb hts hown hE hM qw_209 h1 dX1_nextToken_190 ?_
        refine lv_iconst (v := 1) hx hb dX1_nextToken_193 (by decide) ?_
        refine lv_iadd hx hb dX1_nextToken_194 ?_
        obtain ⟨M29, h1, h⟩ := ob h
        refine rp_1_5 hx hb hts hown hE hM qw_209 hS h1 dX1_nextToken_195 (fun H locs hM hS => ?_)
        refine lv_goto (tgt := 154) hx hb dX1_nextToken_198 (by decide) ?_
        cases h
        exact hy1.1 _ rfl _ _ _ hM hS (lv_sub hl [0, 1, 2, 3] rfl)
noncomputable def fj_X1_nextToken_153 (x0 : Nat) (x1 : Int32) (x2 : Int32) (s0 : Int32) (M : Mem) : Option Mem :=
  fj_X1_nextToken_154 x0 x1 x2 s0 M
set_option maxHeartbeats 4000000 in
set_option maxRecDepth 100000 in
theorem tj_X1_nextToken_153 {p : Program} {l : Launch} {e : Env} {s : State} {m : MethodId} {args : Array Value} {below : List Frame} {meth : Method} {c : Code} {E : KEnv} {H : Heap} {locs : List Loc} {ls : Array Slot} {x0 : Nat} {x1 : Int32} {x2 : Int32} {s0 : Int32} {M : Mem} {M' : Mem} (hC : CallFix p m c cX1_nextToken 5 s args lw_G RX1) (hr : meth.sig.returnType = none) (hlocks : meth.locks = false) (hE : EnvOK E s) (h : fj_X1_nextToken_153 x0 x1 x2 s0 M = some M') (hM : MOK E M H) (hS : va_S (eA E) s.heap H locs) (hl : lv_has ls 5 [(0, .ref x0), (1, .int x1), (2, .int x2)]) : W p l e rm_X1_nextToken s m args below meth c H locs 0 0 (MQ below (cQ E none M') args s 0 0 (eA E)) (F0 m 153 ls [.int s0]) := by
  obtain ⟨hx, hb, hml, hown, hts⟩ := id hC
  unfold fj_X1_nextToken_153 at h
  refine lv_istore_n (lv' := [(3, .int s0), (0, .ref x0), (1, .int x1), (2, .int x2)]) hx hb dX1_nextToken_153 rfl hl (by decide) rfl (fun ls hl => ?_)
  refine W.widen (k := 0) (n := 0) (Nat.le_of_ble_eq_true rfl) (Nat.le_of_ble_eq_true rfl) ?_
  exact tj_X1_nextToken_154  hC hr hlocks hE  h hM hS (lv_sub hl [1, 2, 3, 0] rfl)
noncomputable def fj_X1_nextToken_148 (x0 : Nat) (x1 : Int32) (x2 : Int32) (M : Mem) : Option Mem :=
  fj_X1_nextToken_153 x0 x1 x2 1 M
set_option maxHeartbeats 4000000 in
set_option maxRecDepth 100000 in
theorem tj_X1_nextToken_148 {p : Program} {l : Launch} {e : Env} {s : State} {m : MethodId} {args : Array Value} {below : List Frame} {meth : Method} {c : Code} {E : KEnv} {H : Heap} {locs : List Loc} {ls : Array Slot} {x0 : Nat} {x1 : Int32} {x2 : Int32} {M : Mem} {M' : Mem} (hC : CallFix p m c cX1_nextToken 5 s args lw_G RX1) (hr : meth.sig.returnType = none) (hlocks : meth.locks = false) (hE : EnvOK E s) (h : fj_X1_nextToken_148 x0 x1 x2 M = some M') (hM : MOK E M H) (hS : va_S (eA E) s.heap H locs) (hl : lv_has ls 5 [(0, .ref x0), (1, .int x1), (2, .int x2)]) : W p l e rm_X1_nextToken s m args below meth c H locs 0 0 (MQ below (cQ E none M') args s 0 0 (eA E)) (F0 m 148 ls []) := by
  obtain ⟨hx, hb, hml, hown, hts⟩ := id hC
  unfold fj_X1_nextToken_148 at h
  refine lv_iconst (v := 1) hx hb dX1_nextToken_148 (by decide) ?_
  refine lv_goto (tgt := 153) hx hb dX1_nextToken_149 (by decide) ?_
  refine W.widen (k := 0) (n := 0) (Nat.le_of_ble_eq_true rfl) (Nat.le_of_ble_eq_true rfl) ?_
  exact tj_X1_nextToken_153  hC hr hlocks hE  h hM hS (lv_sub hl [0, 1, 2] rfl)
noncomputable def fj_X1_nextToken_132 (x0 : Nat) (x1 : Int32) (x2 : Int32) (M : Mem) : Option Mem :=
  (gI 2 35 x0 M).bind fun v14 =>
  (if v14 = 1 then
  fj_X1_nextToken_148 x0 x1 x2 M
  else
  (gI 2 35 x0 M).bind fun v30 =>
  (if v30 = 2 then
  fj_X1_nextToken_148 x0 x1 x2 M
  else
  fj_X1_nextToken_153 x0 x1 x2 0 M))
set_option maxHeartbeats 4000000 in
set_option maxRecDepth 100000 in
theorem tj_X1_nextToken_132 {p : Program} {l : Launch} {e : Env} {s : State} {m : MethodId} {args : Array Value} {below : List Frame} {meth : Method} {c : Code} {E : KEnv} {H : Heap} {locs : List Loc} {ls : Array Slot} {x0 : Nat} {x1 : Int32} {x2 : Int32} {M : Mem} {M' : Mem} (hC : CallFix p m c cX1_nextToken 5 s args lw_G RX1) (hr : meth.sig.returnType = none) (hlocks : meth.locks = false) (hE : EnvOK E s) (h : fj_X1_nextToken_132 x0 x1 x2 M = some M') (hM : MOK E M H) (hS : va_S (eA E) s.heap H locs) (hl : lv_has ls 5 [(0, .ref x0), (1, .int x1), (2, .int x2)]) : W p l e rm_X1_nextToken s m args below meth c H locs 0 0 (MQ below (cQ E none M') args s 0 0 (eA E)) (F0 m 132 ls []) := by
  obtain ⟨hx, hb, hml, hown, hts⟩ := id hC
  unfold fj_X1_nextToken_132 at h
  refine lv_aload_n hx hb dX1_nextToken_132 rfl (lv_at hl 0 rfl) ?_
  obtain ⟨v14, h1, h⟩ := ob h
  refine rg_1_3 hx hb hts hown hE hM qw_207 h1 dX1_nextToken_133 ?_
  refine lv_iconst (v := 1) hx hb dX1_nextToken_136 (by decide) ?_
  refine lv_icmp_eq (tgt := 148) hx hb dX1_nextToken_137 (by decide) (fun c1 => ?_) (fun c1 => ?_)
  · have h := ifp c1 h
    refine W.widen (k := 0) (n := 0) (Nat.le_of_ble_eq_true rfl) (Nat.le_of_ble_eq_true rfl) ?_
    exact tj_X1_nextToken_148  hC hr hlocks hE  h hM hS (lv_sub hl [0, 1, 2] rfl)
  · have h := ifn c1 h
    refine lv_aload_n hx hb dX1_nextToken_140 rfl (lv_at hl 0 rfl) ?_
    obtain ⟨v30, h1, h⟩ := ob h
    refine rg_1_3 hx hb hts hown hE hM qw_207 h1 dX1_nextToken_141 ?_
    refine lv_iconst (v := 2) hx hb dX1_nextToken_144 (by decide) ?_
    refine lv_icmp_ne (tgt := 152) hx hb dX1_nextToken_145 (by decide) (fun c1 => ?_) (fun c1 => ?_)
    · have h := ifn c1 h
      refine lv_iconst (v := 0) hx hb dX1_nextToken_152 (by decide) ?_
      refine W.widen (k := 0) (n := 0) (Nat.le_of_ble_eq_true rfl) (Nat.le_of_ble_eq_true rfl) ?_
      exact tj_X1_nextToken_153  hC hr hlocks hE  h hM hS (lv_sub hl [0, 1, 2] rfl)
    · have h := ifp c1 h
      refine W.widen (k := 0) (n := 0) (Nat.le_of_ble_eq_true rfl) (Nat.le_of_ble_eq_true rfl) ?_
      exact tj_X1_nextToken_148  hC hr hlocks hE  h hM hS (lv_sub hl [0, 1, 2] rfl)
noncomputable def fj_X1_nextToken_82 (x0 : Nat) (x1 : Int32) (x2 : Int32) (M : Mem) : Option Mem :=
  (gI 2 36 x0 M).bind fun v9 =>
  (sI 2 37 x0 v9 M).bind fun M10 =>
  (sI 2 35 x0 0 M10).bind fun M11 =>
  (gI 2 36 x0 M11).bind fun v12 =>
  (gI 2 33 x0 M11).bind fun v13 =>
  (if v13 ≤ v12 then
  fj_X1_nextToken_132 x0 x1 x2 M11
  else
  (gRn 2 32 x0 M11).bind fun v31 =>
  (gI 2 36 x0 M11).bind fun v32 =>
  (gA 8 v31 v32 M11).bind fun v33 =>
  bn (f_X1_typeOf v33 M11) fun v34 M35 =>
  (sI 2 35 x0 v34 M35).bind fun M36 =>
  (gI 2 37 x0 M36).bind fun v37 =>
  (sI 2 37 x0 (v37 + 1) M36).bind fun M38 =>
  fj_X1_nextToken_132 x0 x1 x2 M38)
set_option maxHeartbeats 4000000 in
set_option maxRecDepth 100000 in
theorem tj_X1_nextToken_82 {p : Program} {l : Launch} {e : Env} {s : State} {m : MethodId} {args : Array Value} {below : List Frame} {meth : Method} {c : Code} {E : KEnv} {H : Heap} {locs : List Loc} {ls : Array Slot} {x0 : Nat} {x1 : Int32} {x2 : Int32} {M : Mem} {M' : Mem} (hC : CallFix p m c cX1_nextToken 5 s args lw_G RX1) (hr : meth.sig.returnType = none) (hlocks : meth.locks = false) (hE : EnvOK E s) (h : fj_X1_nextToken_82 x0 x1 x2 M = some M') (hM : MOK E M H) (hS : va_S (eA E) s.heap H locs) (hl : lv_has ls 5 [(0, .ref x0), (1, .int x1), (2, .int x2)]) : W p l e rm_X1_nextToken s m args below meth c H locs 0 0 (MQ below (cQ E none M') args s 0 0 (eA E)) (F0 m 82 ls []) := by
  obtain ⟨hx, hb, hml, hown, hts⟩ := id hC
  unfold fj_X1_nextToken_82 at h
  refine lv_aload_n hx hb dX1_nextToken_82 rfl (lv_at hl 0 rfl) ?_
  refine lv_aload_n hx hb dX1_nextToken_83 rfl (lv_at hl 0 rfl) ?_
  obtain ⟨v9, h1, h⟩ := ob h
  refine rg_1_4 hx hb hts hown hE hM qw_208 h1 dX1_nextToken_84 ?_
  obtain ⟨M10, h1, h⟩ := ob h
  refine rp_1_5 hx hb hts hown hE hM qw_209 hS h1 dX1_nextToken_87 (fun H locs hM hS => ?_)
  refine lv_aload_n hx hb dX1_nextToken_90 rfl (lv_at hl 0 rfl) ?_
  refine lv_iconst (v := 0) hx hb dX1_nextToken_91 (by decide) ?_
  obtain ⟨M11, h1, h⟩ := ob h
  refine rp_1_3 hx hb hts hown hE hM qw_207 hS h1 dX1_nextToken_92 (fun H locs hM hS => ?_)
  refine lv_aload_n hx hb dX1_nextToken_95 rfl (lv_at hl 0 rfl) ?_
  obtain ⟨v12, h1, h⟩ := ob h
  refine rg_1_4 hx hb hts hown hE hM qw_208 h1 dX1_nextToken_96 ?_
  refine lv_aload_n hx hb dX1_nextToken_99 rfl (lv_at hl 0 rfl) ?_
  obtain ⟨v13, h1, h⟩ := ob h
  refine rg_1_1 hx hb hts hown hE hM qw_205 h1 dX1_nextToken_100 ?_
  refine lv_icmp_ge (tgt := 132) hx hb dX1_nextToken_103 (by decide) (fun c1 => ?_) (fun c1 => ?_)
  · have h := ifp c1 h
    refine W.widen (k := 0) (n := 0) (Nat.le_of_ble_eq_true rfl) (Nat.le_of_ble_eq_true rfl) ?_
    exact tj_X1_nextToken_132  hC hr hlocks hE  h hM hS (lv_sub hl [0, 1, 2] rfl)
  · have h := ifn c1 h
    refine lv_aload_n hx hb dX1_nextToken_106 rfl (lv_at hl 0 rfl) ?_
    refine lv_aload_n hx hb dX1_nextToken_107 rfl (lv_at hl 0 rfl) ?_
    obtain ⟨v31, h1, h⟩ := ob h
    refine rgn_1_0 hx hb hts hown hE hM qw_204 h1 dX1_nextToken_108 ?_
    refine lv_aload_n hx hb dX1_nextToken_111 rfl (lv_at hl 0 rfl) ?_
    obtain ⟨v32, h1, h⟩ := ob h
    refine rg_1_4 hx hb hts hown hE hM qw_208 h1 dX1_nextToken_112 ?_
    obtain ⟨v33, h1, h⟩ := ob h
    refine r_cald hx hb hE hM h1 dX1_nextToken_115 ?_
    obtain ⟨v34, M35, h1, h⟩ := ob2 h
    refine kS1 (As := [.int v33]) (rest := [.ref x0]) hC hE hS hM (mt_X1_typeOf _ E v33 _ _ _ h1) (gwS qw_251 qw_252 qw_43 qw_253) ⟨rfl, rfl, (Nat.le_of_ble_eq_true rfl), (Nat.le_of_ble_eq_true rfl)⟩ dd_X1_typeOf rfl rfl hl.1 (Nat.le_of_ble_eq_true rfl) dX1_nextToken_116 ⟨(Nat.le_of_ble_eq_true rfl), (Nat.le_of_ble_eq_true rfl)⟩ (fun H locs hM hS => ?_)
    obtain ⟨M36, h1, h⟩ := ob h
    refine rp_1_3 hx hb hts hown hE hM qw_207 hS h1 dX1_nextToken_119 (fun H locs hM hS => ?_)
    refine lv_aload_n hx hb dX1_nextToken_122 rfl (lv_at hl 0 rfl) ?_
    refine lv_dup hx hb dX1_nextToken_123 rfl ?_
    obtain ⟨v37, h1, h⟩ := ob h
    refine rg_1_5 hx hb hts hown hE hM qw_209 h1 dX1_nextToken_124 ?_
    refine lv_iconst (v := 1) hx hb dX1_nextToken_127 (by decide) ?_
    refine lv_iadd hx hb dX1_nextToken_128 ?_
    obtain ⟨M38, h1, h⟩ := ob h
    refine rp_1_5 hx hb hts hown hE hM qw_209 hS h1 dX1_nextToken_129 (fun H locs hM hS => ?_)
    refine W.widen (k := 0) (n := 0) (Nat.le_of_ble_eq_true rfl) (Nat.le_of_ble_eq_true rfl) ?_
    exact tj_X1_nextToken_132  hC hr hlocks hE  h hM hS (lv_sub hl [0, 1, 2] rfl)
noncomputable def fc_X1_nextToken_43 (x0 : Nat) (x1 : Int32) (x2 : Int32) (M : Mem) : Option ((Mem) ⊕ Mem) :=
  (gI 2 36 x0 M).bind fun v7 =>
  (gI 2 33 x0 M).bind fun v8 =>
  (if v8 ≤ v7 then
  (fj_X1_nextToken_82 x0 x1 x2 M).map Sum.inr
  else
  (gRn 2 32 x0 M).bind fun v39 =>
  (gI 2 36 x0 M).bind fun v40 =>
  (gA 8 v39 v40 M).bind fun v41 =>
  bn (f_X1_isBlank v41 M) fun v42 M43 =>
  (if v42 = 0 then
  (fj_X1_nextToken_82 x0 x1 x2 M43).map Sum.inr
  else
  (gI 2 36 x0 M43).bind fun v44 =>
  (sI 2 36 x0 (v44 + 1) M43).bind fun M45 =>
  some (.inl (M45))))
noncomputable def fj_X1_nextToken_43 (x0 : Nat) (x1 : Int32) (x2 : Int32) (M : Mem) : Option Mem := loopM (fun q : (Mem) => fc_X1_nextToken_43 x0 x1 x2 q) FU (M)
set_option maxHeartbeats 4000000 in
set_option maxRecDepth 100000 in
theorem tj_X1_nextToken_43 {p : Program} {l : Launch} {e : Env} {s : State} {m : MethodId} {args : Array Value} {below : List Frame} {meth : Method} {c : Code} {E : KEnv} {H : Heap} {locs : List Loc} {ls : Array Slot} {x0 : Nat} {x1 : Int32} {x2 : Int32} {M : Mem} {M' : Mem} (hC : CallFix p m c cX1_nextToken 5 s args lw_G RX1) (hr : meth.sig.returnType = none) (hlocks : meth.locks = false) (hE : EnvOK E s) (h : fj_X1_nextToken_43 x0 x1 x2 M = some M') (hM : MOK E M H) (hS : va_S (eA E) s.heap H locs) (hl : lv_has ls 5 [(0, .ref x0), (1, .int x1), (2, .int x2)]) : W p l e rm_X1_nextToken s m args below meth c H locs 0 0 (MQ below (cQ E none M') args s 0 0 (eA E)) (F0 m 43 ls []) := by
  refine loopM_ind (body := fun q : (Mem) => fc_X1_nextToken_43 x0 x1 x2 q) (x0 := M') (Wd := fun q : (Mem) => ∀ (H : Heap) (locs : List Loc) (ls : Array Slot), MOK E (q) H → va_S (eA E) s.heap H locs → lv_has ls 5 [(0, .ref x0), (1, .int x1), (2, .int x2)] → W p l e rm_X1_nextToken s m args below meth c H locs 0 0 (MQ below (cQ E none M') args s 0 0 (eA E)) (F0 m 43 ls [])) ?_ FU (M) h H locs ls hM hS hl
  clear h hM hS hl H locs ls M
  obtain ⟨hx, hb, hml, hown, hts⟩ := id hC
  intro M y1 h hy1 H locs ls hM hS hl
  have h : fc_X1_nextToken_43 x0 x1 x2 M = some y1 := h
  have hM : MOK E M H := hM
  have hl : lv_has ls 5 [(0, .ref x0), (1, .int x1), (2, .int x2)] := hl
  unfold fc_X1_nextToken_43 at h
  show W p l e rm_X1_nextToken s m args below meth c H locs _ _ _ _
  refine lv_aload_n hx hb dX1_nextToken_43 rfl (lv_at hl 0 rfl) ?_
  obtain ⟨v7, h1, h⟩ := ob h
  refine rg_1_4 hx hb hts hown hE hM qw_208 h1 dX1_nextToken_44 ?_
  refine lv_aload_n hx hb dX1_nextToken_47 rfl (lv_at hl 0 rfl) ?_
  obtain ⟨v8, h1, h⟩ := ob h
  refine rg_1_1 hx hb hts hown hE hM qw_205 h1 dX1_nextToken_48 ?_
  refine lv_icmp_ge (tgt := 82) hx hb dX1_nextToken_51 (by decide) (fun c1 => ?_) (fun c1 => ?_)
  · have h := ifp c1 h
    obtain ⟨z0, h9, rfl⟩ := om h
    have e0 := hy1.2 _ rfl
    subst e0
    have h := h9
    refine W.widen (k := 0) (n := 0) (Nat.le_of_ble_eq_true rfl) (Nat.le_of_ble_eq_true rfl) ?_
    exact tj_X1_nextToken_82  hC hr hlocks hE  h hM hS (lv_sub hl [0, 1, 2] rfl)
  · have h := ifn c1 h
    refine lv_aload_n hx hb dX1_nextToken_54 rfl (lv_at hl 0 rfl) ?_
    obtain ⟨v39, h1, h⟩ := ob h
    refine rgn_1_0 hx hb hts hown hE hM qw_204 h1 dX1_nextToken_55 ?_
    refine lv_aload_n hx hb dX1_nextToken_58 rfl (lv_at hl 0 rfl) ?_
    obtain ⟨v40, h1, h⟩ := ob h
    refine rg_1_4 hx hb hts hown hE hM qw_208 h1 dX1_nextToken_59 ?_
    obtain ⟨v41, h1, h⟩ := ob h
    refine r_cald hx hb hE hM h1 dX1_nextToken_62 ?_
    obtain ⟨v42, M43, h1, h⟩ := ob2 h
    refine kS1 (As := [.int v41]) (rest := []) hC hE hS hM (mt_X1_isBlank _ E v41 _ _ _ h1) (gwS qw_248 qw_249 qw_43 qw_250) ⟨rfl, rfl, (Nat.le_of_ble_eq_true rfl), (Nat.le_of_ble_eq_true rfl)⟩ dd_X1_isBlank rfl rfl hl.1 (Nat.le_of_ble_eq_true rfl) dX1_nextToken_63 ⟨(Nat.le_of_ble_eq_true rfl), (Nat.le_of_ble_eq_true rfl)⟩ (fun H locs hM hS => ?_)
    refine lv_if_eq (tgt := 82) hx hb dX1_nextToken_66 (by decide) (fun c1 => ?_) (fun c1 => ?_)
    · have h := ifp c1 h
      obtain ⟨z0, h9, rfl⟩ := om h
      have e0 := hy1.2 _ rfl
      subst e0
      have h := h9
      refine W.widen (k := 0) (n := 0) (Nat.le_of_ble_eq_true rfl) (Nat.le_of_ble_eq_true rfl) ?_
      exact tj_X1_nextToken_82  hC hr hlocks hE  h hM hS (lv_sub hl [0, 1, 2] rfl)
    · have h := ifn c1 h
      refine lv_aload_n hx hb dX1_nextToken_69 rfl (lv_at hl 0 rfl) ?_
      refine lv_dup hx hb dX1_nextToken_70 rfl ?_
      obtain ⟨v44, h1, h⟩ := ob h
      refine rg_1_4 hx hb hts hown hE hM qw_208 h1 dX1_nextToken_71 ?_
      refine lv_iconst (v := 1) hx hb dX1_nextToken_74 (by decide) ?_
      refine lv_iadd hx hb dX1_nextToken_75 ?_
      obtain ⟨M45, h1, h⟩ := ob h
      refine rp_1_4 hx hb hts hown hE hM qw_208 hS h1 dX1_nextToken_76 (fun H locs hM hS => ?_)
      refine lv_goto (tgt := 43) hx hb dX1_nextToken_79 (by decide) ?_
      cases h
      exact hy1.1 _ rfl _ _ _ hM hS (lv_sub hl [0, 1, 2] rfl)
noncomputable def fj_X1_nextToken_29 (x0 : Nat) (s0 : Int32) (M : Mem) : Option Mem :=
  (gI 2 37 x0 M).bind fun v4 =>
  (gI 2 37 x0 M).bind fun v5 =>
  (sI 2 36 x0 v5 M).bind fun M6 =>
  fj_X1_nextToken_43 x0 s0 v4 M6
set_option maxHeartbeats 4000000 in
set_option maxRecDepth 100000 in
theorem tj_X1_nextToken_29 {p : Program} {l : Launch} {e : Env} {s : State} {m : MethodId} {args : Array Value} {below : List Frame} {meth : Method} {c : Code} {E : KEnv} {H : Heap} {locs : List Loc} {ls : Array Slot} {x0 : Nat} {s0 : Int32} {M : Mem} {M' : Mem} (hC : CallFix p m c cX1_nextToken 5 s args lw_G RX1) (hr : meth.sig.returnType = none) (hlocks : meth.locks = false) (hE : EnvOK E s) (h : fj_X1_nextToken_29 x0 s0 M = some M') (hM : MOK E M H) (hS : va_S (eA E) s.heap H locs) (hl : lv_has ls 5 [(0, .ref x0)]) : W p l e rm_X1_nextToken s m args below meth c H locs 0 0 (MQ below (cQ E none M') args s 0 0 (eA E)) (F0 m 29 ls [.int s0]) := by
  obtain ⟨hx, hb, hml, hown, hts⟩ := id hC
  unfold fj_X1_nextToken_29 at h
  refine lv_istore_n (lv' := [(1, .int s0), (0, .ref x0)]) hx hb dX1_nextToken_29 rfl hl (by decide) rfl (fun ls hl => ?_)
  refine lv_aload_n hx hb dX1_nextToken_30 rfl (lv_at hl 1 rfl) ?_
  obtain ⟨v4, h1, h⟩ := ob h
  refine rg_1_5 hx hb hts hown hE hM qw_209 h1 dX1_nextToken_31 ?_
  refine lv_istore_n (lv' := [(2, .int v4), (1, .int s0), (0, .ref x0)]) hx hb dX1_nextToken_34 rfl hl (by decide) rfl (fun ls hl => ?_)
  refine lv_aload_n hx hb dX1_nextToken_35 rfl (lv_at hl 2 rfl) ?_
  refine lv_aload_n hx hb dX1_nextToken_36 rfl (lv_at hl 2 rfl) ?_
  obtain ⟨v5, h1, h⟩ := ob h
  refine rg_1_5 hx hb hts hown hE hM qw_209 h1 dX1_nextToken_37 ?_
  obtain ⟨M6, h1, h⟩ := ob h
  refine rp_1_4 hx hb hts hown hE hM qw_208 hS h1 dX1_nextToken_40 (fun H locs hM hS => ?_)
  refine W.widen (k := 0) (n := 0) (Nat.le_of_ble_eq_true rfl) (Nat.le_of_ble_eq_true rfl) ?_
  exact tj_X1_nextToken_43  hC hr hlocks hE  h hM hS (lv_sub hl [2, 1, 0] rfl)
noncomputable def fj_X1_nextToken_24 (x0 : Nat) (M : Mem) : Option Mem :=
  fj_X1_nextToken_29 x0 1 M
set_option maxHeartbeats 4000000 in
set_option maxRecDepth 100000 in
theorem tj_X1_nextToken_24 {p : Program} {l : Launch} {e : Env} {s : State} {m : MethodId} {args : Array Value} {below : List Frame} {meth : Method} {c : Code} {E : KEnv} {H : Heap} {locs : List Loc} {ls : Array Slot} {x0 : Nat} {M : Mem} {M' : Mem} (hC : CallFix p m c cX1_nextToken 5 s args lw_G RX1) (hr : meth.sig.returnType = none) (hlocks : meth.locks = false) (hE : EnvOK E s) (h : fj_X1_nextToken_24 x0 M = some M') (hM : MOK E M H) (hS : va_S (eA E) s.heap H locs) (hl : lv_has ls 5 [(0, .ref x0)]) : W p l e rm_X1_nextToken s m args below meth c H locs 0 0 (MQ below (cQ E none M') args s 0 0 (eA E)) (F0 m 24 ls []) := by
  obtain ⟨hx, hb, hml, hown, hts⟩ := id hC
  unfold fj_X1_nextToken_24 at h
  refine lv_iconst (v := 1) hx hb dX1_nextToken_24 (by decide) ?_
  refine lv_goto (tgt := 29) hx hb dX1_nextToken_25 (by decide) ?_
  refine W.widen (k := 0) (n := 0) (Nat.le_of_ble_eq_true rfl) (Nat.le_of_ble_eq_true rfl) ?_
  exact tj_X1_nextToken_29  hC hr hlocks hE  h hM hS (lv_sub hl [0] rfl)
noncomputable def f_X1_nextToken (this : Nat) (M : Mem) : Option Mem :=
  bn (cK 2 this M (f_X1_failed this M)) fun v1 M2 =>
  (if v1 = 0 then
  (gI 2 35 this M2).bind fun v3 =>
  (if v3 = 1 then
  fj_X1_nextToken_24 this M2
  else
  (gI 2 35 this M2).bind fun v46 =>
  (if v46 = 2 then
  fj_X1_nextToken_24 this M2
  else
  fj_X1_nextToken_29 this 0 M2))
  else
  some M2)
set_option maxHeartbeats 4000000 in
set_option maxRecDepth 100000 in
theorem mt_X1_nextToken (l : Launch) (E : KEnv) (this : Nat) (M M' : Mem) (h : f_X1_nextToken this M = some M') : Met l yX1_nextToken (Cond.code yX1_nextToken cX1_nextToken 5 none :: lw_G) rm_X1_nextToken (cPc E [.ref this] M) (cQ E none M') 0 0 (eA E) := by
  refine Met.ofW (cc := cX1_nextToken) (maxL := 5) (ret := none) (by decide) rfl ?_
  intro p e s m args below meth c s₁ B hml hv
  obtain ⟨rfl, hE, hM⟩ := hv
  have hx := B.exec
  have hb := B.bytes
  have hr := B.returns
  have hts0 := atoms_spec (ws := Cond.code yX1_nextToken cX1_nextToken 5 none :: lw_G) B.pre
  have hts : ∀ w ∈ lw_G, w.before _ s = true := fun w hw => hts0 w (List.mem_cons_of_mem _ hw)
  have hown : s.vm.findClass RX1 = some m.cls := findClass_of_methodNamed B.named
  have hlocks := B.notSynchronized
  have hC : CallFix p m c cX1_nextToken 5 s _ lw_G RX1 := ⟨hx, hb, hml, hown, hts⟩
  have hS : va_S (eA E) s.heap s.heap [] := va_S.rf
  have hl := lv_entry ([.ref this]) (n := 5) (Nat.le_of_ble_eq_true rfl)
  rw [lg_entry_eq]
  generalize (lg_sl ([.ref this]) ++ List.replicate (5 - (lg_sl ([.ref this])).length) Slot.unset).toArray = ls at hl ⊢
  have hl : lv_has ls 5 [(0, .ref this)] := hl
  unfold f_X1_nextToken at h
  show W p l e rm_X1_nextToken s m _ below meth c s.heap [] 0 0 _ _
  refine lv_aload_n hx hb dX1_nextToken_0 rfl (lv_at hl 0 rfl) ?_
  obtain ⟨v1, M2, h1, h⟩ := ob2 h
  obtain ⟨hk1, h1⟩ := ifg h1
  refine kV1 (ci := 1) (As := []) (rest := []) hC hE hS hM (mt_X1_failed _ E this _ _ _ h1) (gwV qw_244 qw_246 qw_2 qw_43 qw_247) ⟨rfl, rfl, (Nat.le_of_ble_eq_true rfl), (Nat.le_of_ble_eq_true rfl)⟩ dd_X1_failed rfl hk1 rfl rfl hl.1 (Nat.le_of_ble_eq_true rfl) dX1_nextToken_1 ⟨(Nat.le_of_ble_eq_true rfl), (Nat.le_of_ble_eq_true rfl)⟩ (fun H locs hM hS => ?_)
  refine lv_if_eq (tgt := 8) hx hb dX1_nextToken_4 (by decide) (fun c1 => ?_) (fun c1 => ?_)
  · have h := ifp c1 h
    refine lv_aload_n hx hb dX1_nextToken_8 rfl (lv_at hl 0 rfl) ?_
    obtain ⟨v3, h1, h⟩ := ob h
    refine rg_1_3 hx hb hts hown hE hM qw_207 h1 dX1_nextToken_9 ?_
    refine lv_iconst (v := 1) hx hb dX1_nextToken_12 (by decide) ?_
    refine lv_icmp_eq (tgt := 24) hx hb dX1_nextToken_13 (by decide) (fun c1 => ?_) (fun c1 => ?_)
    · have h := ifp c1 h
      refine W.widen (k := 0) (n := 0) (Nat.le_of_ble_eq_true rfl) (Nat.le_of_ble_eq_true rfl) ?_
      exact tj_X1_nextToken_24  hC hr hlocks hE  h hM hS (lv_sub hl [0] rfl)
    · have h := ifn c1 h
      refine lv_aload_n hx hb dX1_nextToken_16 rfl (lv_at hl 0 rfl) ?_
      obtain ⟨v46, h1, h⟩ := ob h
      refine rg_1_3 hx hb hts hown hE hM qw_207 h1 dX1_nextToken_17 ?_
      refine lv_iconst (v := 2) hx hb dX1_nextToken_20 (by decide) ?_
      refine lv_icmp_ne (tgt := 28) hx hb dX1_nextToken_21 (by decide) (fun c1 => ?_) (fun c1 => ?_)
      · have h := ifn c1 h
        refine lv_iconst (v := 0) hx hb dX1_nextToken_28 (by decide) ?_
        refine W.widen (k := 0) (n := 0) (Nat.le_of_ble_eq_true rfl) (Nat.le_of_ble_eq_true rfl) ?_
        exact tj_X1_nextToken_29  hC hr hlocks hE  h hM hS (lv_sub hl [0] rfl)
      · have h := ifp c1 h
        refine W.widen (k := 0) (n := 0) (Nat.le_of_ble_eq_true rfl) (Nat.le_of_ble_eq_true rfl) ?_
        exact tj_X1_nextToken_24  hC hr hlocks hE  h hM hS (lv_sub hl [0] rfl)
  · have h := ifn c1 h
    cases h
    exact eV_ hx hb hr hlocks hM hS dX1_nextToken_7 (Nat.le_of_ble_eq_true rfl) (Nat.le_of_ble_eq_true rfl)

theorem dd_X1_lineFollows : yX1_lineFollows.cls = RX1 ∧ yX1_lineFollows.cls ≠ "java/lang/invoke/MethodHandle" ∧ yX1_lineFollows.cls ≠ "java/lang/invoke/VarHandle" ∧ (parseMethodDescriptor yX1_lineFollows.desc).map (fun d => d.parameters.length) = some 0 := by decide +kernel
abbrev rm_X1_lineFollows : Room := ({ frames := 2, cells := 0, slots := 0, locals := 44 } : Room)
noncomputable def fj_X1_lineFollows_44 (s0 : Int32) (M : Mem) : Option (Int32 × Mem) :=
  (if s0 = 0 ∨ s0 = 1 then some (s0, M) else none)
set_option maxHeartbeats 4000000 in
set_option maxRecDepth 100000 in
theorem tj_X1_lineFollows_44 {p : Program} {l : Launch} {e : Env} {s : State} {m : MethodId} {args : Array Value} {below : List Frame} {meth : Method} {c : Code} {E : KEnv} {H : Heap} {locs : List Loc} {ls : Array Slot} {s0 : Int32} {M : Mem} {v : Int32} {M' : Mem} (hC : CallFix p m c cX1_lineFollows 1 s args lw_G RX1) (hr : meth.sig.returnType = (some .boolean)) (hlocks : meth.locks = false) (hE : EnvOK E s) (h : fj_X1_lineFollows_44 s0 M = some (v, M')) (hM : MOK E M H) (hS : va_S (eA E) s.heap H locs) (hl : lv_has ls 1 []) : W p l e rm_X1_lineFollows s m args below meth c H locs 0 0 (MQ below (cQ E (some (.int v)) M') args s 0 0 (eA E)) (F0 m 44 ls [.int s0]) := by
  obtain ⟨hx, hb, hml, hown, hts⟩ := id hC
  unfold fj_X1_lineFollows_44 at h
  obtain ⟨h01, h⟩ := ifg h
  cases h
  exact eZ hx hb hr hlocks hM hS dX1_lineFollows_44 (Nat.le_of_ble_eq_true rfl) (Nat.le_of_ble_eq_true rfl) h01
noncomputable def fj_X1_lineFollows_43  (M : Mem) : Option (Int32 × Mem) :=
  fj_X1_lineFollows_44 0 M
set_option maxHeartbeats 4000000 in
set_option maxRecDepth 100000 in
theorem tj_X1_lineFollows_43 {p : Program} {l : Launch} {e : Env} {s : State} {m : MethodId} {args : Array Value} {below : List Frame} {meth : Method} {c : Code} {E : KEnv} {H : Heap} {locs : List Loc} {ls : Array Slot}  {M : Mem} {v : Int32} {M' : Mem} (hC : CallFix p m c cX1_lineFollows 1 s args lw_G RX1) (hr : meth.sig.returnType = (some .boolean)) (hlocks : meth.locks = false) (hE : EnvOK E s) (h : fj_X1_lineFollows_43  M = some (v, M')) (hM : MOK E M H) (hS : va_S (eA E) s.heap H locs) (hl : lv_has ls 1 []) : W p l e rm_X1_lineFollows s m args below meth c H locs 0 0 (MQ below (cQ E (some (.int v)) M') args s 0 0 (eA E)) (F0 m 43 ls []) := by
  obtain ⟨hx, hb, hml, hown, hts⟩ := id hC
  unfold fj_X1_lineFollows_43 at h
  refine lv_iconst (v := 0) hx hb dX1_lineFollows_43 (by decide) ?_
  refine W.widen (k := 0) (n := 0) (Nat.le_of_ble_eq_true rfl) (Nat.le_of_ble_eq_true rfl) ?_
  exact tj_X1_lineFollows_44  hC hr hlocks hE  h hM hS (lv_sub hl [] rfl)
noncomputable def fj_X1_lineFollows_24 (x0 : Nat) (M : Mem) : Option (Int32 × Mem) :=
  bn (cK 2 x0 M (f_X1_failed x0 M)) fun v4 M5 =>
  (if v4 = 0 then
  (gI 2 35 x0 M5).bind fun v6 =>
  (if v6 = 3 then
  fj_X1_lineFollows_44 1 M5
  else
  fj_X1_lineFollows_43 M5)
  else
  fj_X1_lineFollows_43 M5)
set_option maxHeartbeats 4000000 in
set_option maxRecDepth 100000 in
theorem tj_X1_lineFollows_24 {p : Program} {l : Launch} {e : Env} {s : State} {m : MethodId} {args : Array Value} {below : List Frame} {meth : Method} {c : Code} {E : KEnv} {H : Heap} {locs : List Loc} {ls : Array Slot} {x0 : Nat} {M : Mem} {v : Int32} {M' : Mem} (hC : CallFix p m c cX1_lineFollows 1 s args lw_G RX1) (hr : meth.sig.returnType = (some .boolean)) (hlocks : meth.locks = false) (hE : EnvOK E s) (h : fj_X1_lineFollows_24 x0 M = some (v, M')) (hM : MOK E M H) (hS : va_S (eA E) s.heap H locs) (hl : lv_has ls 1 [(0, .ref x0)]) : W p l e rm_X1_lineFollows s m args below meth c H locs 0 0 (MQ below (cQ E (some (.int v)) M') args s 0 0 (eA E)) (F0 m 24 ls []) := by
  obtain ⟨hx, hb, hml, hown, hts⟩ := id hC
  unfold fj_X1_lineFollows_24 at h
  refine lv_aload_n hx hb dX1_lineFollows_24 rfl (lv_at hl 0 rfl) ?_
  obtain ⟨v4, M5, h1, h⟩ := ob2 h
  obtain ⟨hk1, h1⟩ := ifg h1
  refine kV1 (ci := 1) (As := []) (rest := []) hC hE hS hM (mt_X1_failed _ E x0 _ _ _ h1) (gwV qw_244 qw_246 qw_2 qw_43 qw_247) ⟨rfl, rfl, (Nat.le_of_ble_eq_true rfl), (Nat.le_of_ble_eq_true rfl)⟩ dd_X1_failed rfl hk1 rfl rfl hl.1 (Nat.le_of_ble_eq_true rfl) dX1_lineFollows_25 ⟨(Nat.le_of_ble_eq_true rfl), (Nat.le_of_ble_eq_true rfl)⟩ (fun H locs hM hS => ?_)
  refine lv_if_ne (tgt := 43) hx hb dX1_lineFollows_28 (by decide) (fun c1 => ?_) (fun c1 => ?_)
  · have h := ifn c1 h
    refine W.widen (k := 0) (n := 0) (Nat.le_of_ble_eq_true rfl) (Nat.le_of_ble_eq_true rfl) ?_
    exact tj_X1_lineFollows_43  hC hr hlocks hE  h hM hS (lv_sub hl [] rfl)
  · have h := ifp c1 h
    refine lv_aload_n hx hb dX1_lineFollows_31 rfl (lv_at hl 0 rfl) ?_
    obtain ⟨v6, h1, h⟩ := ob h
    refine rg_1_3 hx hb hts hown hE hM qw_207 h1 dX1_lineFollows_32 ?_
    refine lv_iconst (v := 3) hx hb dX1_lineFollows_35 (by decide) ?_
    refine lv_icmp_ne (tgt := 43) hx hb dX1_lineFollows_36 (by decide) (fun c1 => ?_) (fun c1 => ?_)
    · have h := ifn c1 h
      refine W.widen (k := 0) (n := 0) (Nat.le_of_ble_eq_true rfl) (Nat.le_of_ble_eq_true rfl) ?_
      exact tj_X1_lineFollows_43  hC hr hlocks hE  h hM hS (lv_sub hl [] rfl)
    · have h := ifp c1 h
      refine lv_iconst (v := 1) hx hb dX1_lineFollows_39 (by decide) ?_
      refine lv_goto (tgt := 44) hx hb dX1_lineFollows_40 (by decide) ?_
      refine W.widen (k := 0) (n := 0) (Nat.le_of_ble_eq_true rfl) (Nat.le_of_ble_eq_true rfl) ?_
      exact tj_X1_lineFollows_44  hC hr hlocks hE  h hM hS (lv_sub hl [] rfl)
noncomputable def f_X1_lineFollows (this : Nat) (M : Mem) : Option (Int32 × Mem) :=
  (cK 2 this M (f_X1_nextToken this M)).bind fun M2 =>
  (gI 2 35 this M2).bind fun v3 =>
  (if v3 = 3 then
  fj_X1_lineFollows_24 this M2
  else
  (gI 2 35 this M2).bind fun v7 =>
  (if v7 = 0 then
  fj_X1_lineFollows_24 this M2
  else
  (cK 2 this M2 (f_X1_fail this 1 M2)).bind fun M9 =>
  fj_X1_lineFollows_24 this M9))
set_option maxHeartbeats 4000000 in
set_option maxRecDepth 100000 in
theorem mt_X1_lineFollows (l : Launch) (E : KEnv) (this : Nat) (M M' : Mem) (v : Int32) (h : f_X1_lineFollows this M = some (v, M')) : Met l yX1_lineFollows (Cond.code yX1_lineFollows cX1_lineFollows 1 (some .boolean) :: lw_G) rm_X1_lineFollows (cPc E [.ref this] M) (cQ E (some (.int v)) M') 0 0 (eA E) := by
  refine Met.ofW (cc := cX1_lineFollows) (maxL := 1) (ret := (some .boolean)) (by decide) rfl ?_
  intro p e s m args below meth c s₁ B hml hv
  obtain ⟨rfl, hE, hM⟩ := hv
  have hx := B.exec
  have hb := B.bytes
  have hr := B.returns
  have hts0 := atoms_spec (ws := Cond.code yX1_lineFollows cX1_lineFollows 1 (some .boolean) :: lw_G) B.pre
  have hts : ∀ w ∈ lw_G, w.before _ s = true := fun w hw => hts0 w (List.mem_cons_of_mem _ hw)
  have hown : s.vm.findClass RX1 = some m.cls := findClass_of_methodNamed B.named
  have hlocks := B.notSynchronized
  have hC : CallFix p m c cX1_lineFollows 1 s _ lw_G RX1 := ⟨hx, hb, hml, hown, hts⟩
  have hS : va_S (eA E) s.heap s.heap [] := va_S.rf
  have hl := lv_entry ([.ref this]) (n := 1) (Nat.le_of_ble_eq_true rfl)
  rw [lg_entry_eq]
  generalize (lg_sl ([.ref this]) ++ List.replicate (1 - (lg_sl ([.ref this])).length) Slot.unset).toArray = ls at hl ⊢
  have hl : lv_has ls 1 [(0, .ref this)] := hl
  unfold f_X1_lineFollows at h
  show W p l e rm_X1_lineFollows s m _ below meth c s.heap [] 0 0 _ _
  refine lv_aload_n hx hb dX1_lineFollows_0 rfl (lv_at hl 0 rfl) ?_
  obtain ⟨M2, h1, h⟩ := ob h
  obtain ⟨hk1, h1⟩ := ifg h1
  refine kV0 (ci := 1) (As := []) (rest := []) hC hE hS hM (mt_X1_nextToken _ E this _ _ h1) (gwV qw_240 qw_242 qw_1 qw_43 qw_243) ⟨rfl, rfl, (Nat.le_of_ble_eq_true rfl), (Nat.le_of_ble_eq_true rfl)⟩ dd_X1_nextToken rfl hk1 rfl rfl hl.1 (Nat.le_of_ble_eq_true rfl) dX1_lineFollows_1 ⟨(Nat.le_of_ble_eq_true rfl), (Nat.le_of_ble_eq_true rfl)⟩ (fun H locs hM hS => ?_)
  refine lv_aload_n hx hb dX1_lineFollows_4 rfl (lv_at hl 0 rfl) ?_
  obtain ⟨v3, h1, h⟩ := ob h
  refine rg_1_3 hx hb hts hown hE hM qw_207 h1 dX1_lineFollows_5 ?_
  refine lv_iconst (v := 3) hx hb dX1_lineFollows_8 (by decide) ?_
  refine lv_icmp_eq (tgt := 24) hx hb dX1_lineFollows_9 (by decide) (fun c1 => ?_) (fun c1 => ?_)
  · have h := ifp c1 h
    refine W.widen (k := 0) (n := 0) (Nat.le_of_ble_eq_true rfl) (Nat.le_of_ble_eq_true rfl) ?_
    exact tj_X1_lineFollows_24  hC hr hlocks hE  h hM hS (lv_sub hl [0] rfl)
  · have h := ifn c1 h
    refine lv_aload_n hx hb dX1_lineFollows_12 rfl (lv_at hl 0 rfl) ?_
    obtain ⟨v7, h1, h⟩ := ob h
    refine rg_1_3 hx hb hts hown hE hM qw_207 h1 dX1_lineFollows_13 ?_
    refine lv_if_eq (tgt := 24) hx hb dX1_lineFollows_16 (by decide) (fun c1 => ?_) (fun c1 => ?_)
    · have h := ifp c1 h
      refine W.widen (k := 0) (n := 0) (Nat.le_of_ble_eq_true rfl) (Nat.le_of_ble_eq_true rfl) ?_
      exact tj_X1_lineFollows_24  hC hr hlocks hE  h hM hS (lv_sub hl [0] rfl)
    · have h := ifn c1 h
      refine lv_aload_n hx hb dX1_lineFollows_19 rfl (lv_at hl 0 rfl) ?_
      refine lv_iconst (v := 1) hx hb dX1_lineFollows_20 (by decide) ?_
      obtain ⟨M9, h1, h⟩ := ob h
      obtain ⟨hk1, h1⟩ := ifg h1
      refine kV0 (ci := 1) (As := [.int 1]) (rest := []) hC hE hS hM (mt_X1_fail _ E this 1 _ _ h1) (gwV qw_280 qw_282 qw_4 qw_43 qw_283) ⟨rfl, rfl, (Nat.le_of_ble_eq_true rfl), (Nat.le_of_ble_eq_true rfl)⟩ dd_X1_fail rfl hk1 rfl rfl hl.1 (Nat.le_of_ble_eq_true rfl) dX1_lineFollows_21 ⟨(Nat.le_of_ble_eq_true rfl), (Nat.le_of_ble_eq_true rfl)⟩ (fun H locs hM hS => ?_)
      refine W.widen (k := 0) (n := 0) (Nat.le_of_ble_eq_true rfl) (Nat.le_of_ble_eq_true rfl) ?_
      exact tj_X1_lineFollows_24  hC hr hlocks hE  h hM hS (lv_sub hl [0] rfl)

theorem dd_X1_isWord : yX1_isWord.cls = RX1 ∧ yX1_isWord.cls ≠ "java/lang/invoke/MethodHandle" ∧ yX1_isWord.cls ≠ "java/lang/invoke/VarHandle" ∧ (parseMethodDescriptor yX1_isWord.desc).map (fun d => d.parameters.length) = some 1 := by decide +kernel
abbrev rm_X1_isWord : Room := ({ frames := 4, cells := 0, slots := 0, locals := 160 } : Room)
noncomputable def fj_X1_isWord_24  (M : Mem) : Option (Int32 × Mem) :=
  some (0, M)
set_option maxHeartbeats 4000000 in
set_option maxRecDepth 100000 in
theorem tj_X1_isWord_24 {p : Program} {l : Launch} {e : Env} {s : State} {m : MethodId} {args : Array Value} {below : List Frame} {meth : Method} {c : Code} {E : KEnv} {H : Heap} {locs : List Loc} {ls : Array Slot}  {M : Mem} {v : Int32} {M' : Mem} (hC : CallFix p m c cX1_isWord 3 s args lw_G RX1) (hr : meth.sig.returnType = (some .boolean)) (hlocks : meth.locks = false) (hE : EnvOK E s) (h : fj_X1_isWord_24  M = some (v, M')) (hM : MOK E M H) (hS : va_S (eA E) s.heap H locs) (hl : lv_has ls 3 []) : W p l e rm_X1_isWord s m args below meth c H locs 0 0 (MQ below (cQ E (some (.int v)) M') args s 0 0 (eA E)) (F0 m 24 ls []) := by
  obtain ⟨hx, hb, hml, hown, hts⟩ := id hC
  unfold fj_X1_isWord_24 at h
  refine lv_iconst (v := 0) hx hb dX1_isWord_24 (by decide) ?_
  cases h
  exact eZ hx hb hr hlocks hM hS dX1_isWord_25 (Nat.le_of_ble_eq_true rfl) (Nat.le_of_ble_eq_true rfl) (by decide)
noncomputable def fj_X1_isWord_63  (M : Mem) : Option (Int32 × Mem) :=
  some (1, M)
set_option maxHeartbeats 4000000 in
set_option maxRecDepth 100000 in
theorem tj_X1_isWord_63 {p : Program} {l : Launch} {e : Env} {s : State} {m : MethodId} {args : Array Value} {below : List Frame} {meth : Method} {c : Code} {E : KEnv} {H : Heap} {locs : List Loc} {ls : Array Slot}  {M : Mem} {v : Int32} {M' : Mem} (hC : CallFix p m c cX1_isWord 3 s args lw_G RX1) (hr : meth.sig.returnType = (some .boolean)) (hlocks : meth.locks = false) (hE : EnvOK E s) (h : fj_X1_isWord_63  M = some (v, M')) (hM : MOK E M H) (hS : va_S (eA E) s.heap H locs) (hl : lv_has ls 3 []) : W p l e rm_X1_isWord s m args below meth c H locs 0 0 (MQ below (cQ E (some (.int v)) M') args s 0 0 (eA E)) (F0 m 63 ls []) := by
  obtain ⟨hx, hb, hml, hown, hts⟩ := id hC
  unfold fj_X1_isWord_63 at h
  refine lv_iconst (v := 1) hx hb dX1_isWord_63 (by decide) ?_
  cases h
  exact eZ hx hb hr hlocks hM hS dX1_isWord_64 (Nat.le_of_ble_eq_true rfl) (Nat.le_of_ble_eq_true rfl) (by decide)
noncomputable def fj_X1_isWord_55  (M : Mem) : Option (Int32 × Mem) :=
  some (0, M)
set_option maxHeartbeats 4000000 in
set_option maxRecDepth 100000 in
theorem tj_X1_isWord_55 {p : Program} {l : Launch} {e : Env} {s : State} {m : MethodId} {args : Array Value} {below : List Frame} {meth : Method} {c : Code} {E : KEnv} {H : Heap} {locs : List Loc} {ls : Array Slot}  {M : Mem} {v : Int32} {M' : Mem} (hC : CallFix p m c cX1_isWord 3 s args lw_G RX1) (hr : meth.sig.returnType = (some .boolean)) (hlocks : meth.locks = false) (hE : EnvOK E s) (h : fj_X1_isWord_55  M = some (v, M')) (hM : MOK E M H) (hS : va_S (eA E) s.heap H locs) (hl : lv_has ls 3 []) : W p l e rm_X1_isWord s m args below meth c H locs 0 0 (MQ below (cQ E (some (.int v)) M') args s 0 0 (eA E)) (F0 m 55 ls []) := by
  obtain ⟨hx, hb, hml, hown, hts⟩ := id hC
  unfold fj_X1_isWord_55 at h
  refine lv_iconst (v := 0) hx hb dX1_isWord_55 (by decide) ?_
  cases h
  exact eZ hx hb hr hlocks hM hS dX1_isWord_56 (Nat.le_of_ble_eq_true rfl) (Nat.le_of_ble_eq_true rfl) (by decide)
noncomputable def fc_X1_isWord_28 (x0 : Nat) (x1 : Nat) (x2 : Int32) (M : Mem) : Option ((Int32 × Mem) ⊕ (Int32 × Mem)) :=
  (jLen x1).bind fun v9 =>
  (if v9 ≤ x2 then
  (fj_X1_isWord_63 M).map Sum.inr
  else
  (gRn 2 32 x0 M).bind fun v10 =>
  (gI 2 36 x0 M).bind fun v11 =>
  (gA 8 v10 (v11 + x2) M).bind fun v12 =>
  (jChr x1 x2).bind fun v15 =>
  (if v12 = v15 then
  some (.inl (x2 + 1, M))
  else
  (fj_X1_isWord_55 M).map Sum.inr))
noncomputable def fj_X1_isWord_28 (x0 : Nat) (x1 : Nat) (x2 : Int32) (M : Mem) : Option (Int32 × Mem) := loopM (fun q : (Int32 × Mem) => fc_X1_isWord_28 x0 x1 q.1 q.2) FU (x2, M)
set_option maxHeartbeats 4000000 in
set_option maxRecDepth 100000 in
theorem tj_X1_isWord_28 {p : Program} {l : Launch} {e : Env} {s : State} {m : MethodId} {args : Array Value} {below : List Frame} {meth : Method} {c : Code} {E : KEnv} {H : Heap} {locs : List Loc} {ls : Array Slot} {x0 : Nat} {x1 : Nat} {x2 : Int32} {M : Mem} {v : Int32} {M' : Mem} (hC : CallFix p m c cX1_isWord 3 s args lw_G RX1) (hr : meth.sig.returnType = (some .boolean)) (hlocks : meth.locks = false) (hE : EnvOK E s) (h : fj_X1_isWord_28 x0 x1 x2 M = some (v, M')) (hM : MOK E M H) (hS : va_S (eA E) s.heap H locs) (hl : lv_has ls 3 [(0, .ref x0), (1, .ref (eS E x1)), (2, .int x2)]) : W p l e rm_X1_isWord s m args below meth c H locs 0 0 (MQ below (cQ E (some (.int v)) M') args s 0 0 (eA E)) (F0 m 28 ls []) := by
  refine loopM_ind (body := fun q : (Int32 × Mem) => fc_X1_isWord_28 x0 x1 q.1 q.2) (x0 := (v, M')) (Wd := fun q : (Int32 × Mem) => ∀ (H : Heap) (locs : List Loc) (ls : Array Slot), MOK E (q.2) H → va_S (eA E) s.heap H locs → lv_has ls 3 [(0, .ref x0), (1, .ref (eS E x1)), (2, .int q.1)] → W p l e rm_X1_isWord s m args below meth c H locs 0 0 (MQ below (cQ E (some (.int v)) M') args s 0 0 (eA E)) (F0 m 28 ls [])) ?_ FU (x2, M) h H locs ls hM hS hl
  clear h hM hS hl H locs ls M x2
  obtain ⟨hx, hb, hml, hown, hts⟩ := id hC
  intro q y1 h hy1 H locs ls hM hS hl
  obtain ⟨x2, M⟩ := q
  have h : fc_X1_isWord_28 x0 x1 x2 M = some y1 := h
  have hM : MOK E M H := hM
  have hl : lv_has ls 3 [(0, .ref x0), (1, .ref (eS E x1)), (2, .int x2)] := hl
  unfold fc_X1_isWord_28 at h
  show W p l e rm_X1_isWord s m args below meth c H locs _ _ _ _
  refine lv_iload_n hx hb dX1_isWord_28 rfl (lv_at hl 2 rfl) ?_
  refine lv_aload_n hx hb dX1_isWord_29 rfl (lv_at hl 1 rfl) ?_
  obtain ⟨v9, h1, h⟩ := ob h
  refine rJ_length (rest := [.int x2]) hC hE hS hM h1 qw_259 (Nat.le_of_ble_eq_true rfl) (Nat.le_of_ble_eq_true rfl) rfl rfl hl.1 (Nat.le_of_ble_eq_true rfl) dX1_isWord_30 ⟨(Nat.le_of_ble_eq_true rfl), (Nat.le_of_ble_eq_true rfl)⟩ (fun H locs hM hS => ?_)
  refine lv_icmp_ge (tgt := 63) hx hb dX1_isWord_33 (by decide) (fun c1 => ?_) (fun c1 => ?_)
  · have h := ifp c1 h
    obtain ⟨z0, h9, rfl⟩ := om h
    have e0 := hy1.2 _ rfl
    subst e0
    have h := h9
    refine W.widen (k := 0) (n := 0) (Nat.le_of_ble_eq_true rfl) (Nat.le_of_ble_eq_true rfl) ?_
    exact tj_X1_isWord_63  hC hr hlocks hE  h hM hS (lv_sub hl [] rfl)
  · have h := ifn c1 h
    refine lv_aload_n hx hb dX1_isWord_36 rfl (lv_at hl 0 rfl) ?_
    obtain ⟨v10, h1, h⟩ := ob h
    refine rgn_1_0 hx hb hts hown hE hM qw_204 h1 dX1_isWord_37 ?_
    refine lv_aload_n hx hb dX1_isWord_40 rfl (lv_at hl 0 rfl) ?_
    obtain ⟨v11, h1, h⟩ := ob h
    refine rg_1_4 hx hb hts hown hE hM qw_208 h1 dX1_isWord_41 ?_
    refine lv_iload_n hx hb dX1_isWord_44 rfl (lv_at hl 2 rfl) ?_
    refine lv_iadd hx hb dX1_isWord_45 ?_
    obtain ⟨v12, h1, h⟩ := ob h
    refine r_cald hx hb hE hM h1 dX1_isWord_46 ?_
    refine lv_aload_n hx hb dX1_isWord_47 rfl (lv_at hl 1 rfl) ?_
    refine lv_iload_n hx hb dX1_isWord_48 rfl (lv_at hl 2 rfl) ?_
    obtain ⟨v15, h1, h⟩ := ob h
    refine rJ_charAt (rest := [.int v12]) hC hE hS hM h1 qw_260 (Nat.le_of_ble_eq_true rfl) (Nat.le_of_ble_eq_true rfl) rfl rfl hl.1 (Nat.le_of_ble_eq_true rfl) dX1_isWord_49 ⟨(Nat.le_of_ble_eq_true rfl), (Nat.le_of_ble_eq_true rfl)⟩ (fun H locs hM hS => ?_)
    refine lv_icmp_eq (tgt := 57) hx hb dX1_isWord_52 (by decide) (fun c1 => ?_) (fun c1 => ?_)
    · have h := ifp c1 h
      refine lv_iinc (v := x2 + 1) (lv' := [(2, .int (x2 + 1)), (0, .ref x0), (1, .ref (eS E x1))]) hx hb dX1_isWord_57 hl (k := 2) rfl rfl (by decide) rfl (fun ls hl => ?_)
      refine lv_goto (tgt := 28) hx hb dX1_isWord_60 (by decide) ?_
      cases h
      exact hy1.1 _ rfl _ _ _ hM hS (lv_sub hl [1, 2, 0] rfl)
    · have h := ifn c1 h
      obtain ⟨z0, h9, rfl⟩ := om h
      have e0 := hy1.2 _ rfl
      subst e0
      have h := h9
      refine W.widen (k := 0) (n := 0) (Nat.le_of_ble_eq_true rfl) (Nat.le_of_ble_eq_true rfl) ?_
      exact tj_X1_isWord_55  hC hr hlocks hE  h hM hS (lv_sub hl [] rfl)
noncomputable def f_X1_isWord (this : Nat) (a1 : Nat) (M : Mem) : Option (Int32 × Mem) :=
  (gI 2 35 this M).bind fun v1 =>
  (if v1 = 1 then
  (gI 2 37 this M).bind fun v2 =>
  (gI 2 36 this M).bind fun v3 =>
  (jLen a1).bind fun v6 =>
  (if (v2 - v3) = v6 then
  fj_X1_isWord_28 this a1 0 M
  else
  fj_X1_isWord_24 M)
  else
  fj_X1_isWord_24 M)
set_option maxHeartbeats 4000000 in
set_option maxRecDepth 100000 in
theorem mt_X1_isWord (l : Launch) (E : KEnv) (this : Nat) (a1 : Nat) (M M' : Mem) (v : Int32) (h : f_X1_isWord this a1 M = some (v, M')) : Met l yX1_isWord (Cond.code yX1_isWord cX1_isWord 3 (some .boolean) :: lw_G) rm_X1_isWord (cPc E [.ref this, .ref (eS E a1)] M) (cQ E (some (.int v)) M') 0 0 (eA E) := by
  refine Met.ofW (cc := cX1_isWord) (maxL := 3) (ret := (some .boolean)) (by decide) rfl ?_
  intro p e s m args below meth c s₁ B hml hv
  obtain ⟨rfl, hE, hM⟩ := hv
  have hx := B.exec
  have hb := B.bytes
  have hr := B.returns
  have hts0 := atoms_spec (ws := Cond.code yX1_isWord cX1_isWord 3 (some .boolean) :: lw_G) B.pre
  have hts : ∀ w ∈ lw_G, w.before _ s = true := fun w hw => hts0 w (List.mem_cons_of_mem _ hw)
  have hown : s.vm.findClass RX1 = some m.cls := findClass_of_methodNamed B.named
  have hlocks := B.notSynchronized
  have hC : CallFix p m c cX1_isWord 3 s _ lw_G RX1 := ⟨hx, hb, hml, hown, hts⟩
  have hS : va_S (eA E) s.heap s.heap [] := va_S.rf
  have hl := lv_entry ([.ref this, .ref (eS E a1)]) (n := 3) (Nat.le_of_ble_eq_true rfl)
  rw [lg_entry_eq]
  generalize (lg_sl ([.ref this, .ref (eS E a1)]) ++ List.replicate (3 - (lg_sl ([.ref this, .ref (eS E a1)])).length) Slot.unset).toArray = ls at hl ⊢
  have hl : lv_has ls 3 [(0, .ref this), (1, .ref (eS E a1))] := hl
  unfold f_X1_isWord at h
  show W p l e rm_X1_isWord s m _ below meth c s.heap [] 0 0 _ _
  refine lv_aload_n hx hb dX1_isWord_0 rfl (lv_at hl 0 rfl) ?_
  obtain ⟨v1, h1, h⟩ := ob h
  refine rg_1_3 hx hb hts hown hE hM qw_207 h1 dX1_isWord_1 ?_
  refine lv_iconst (v := 1) hx hb dX1_isWord_4 (by decide) ?_
  refine lv_icmp_ne (tgt := 24) hx hb dX1_isWord_5 (by decide) (fun c1 => ?_) (fun c1 => ?_)
  · have h := ifn c1 h
    refine W.widen (k := 0) (n := 0) (Nat.le_of_ble_eq_true rfl) (Nat.le_of_ble_eq_true rfl) ?_
    exact tj_X1_isWord_24  hC hr hlocks hE  h hM hS (lv_sub hl [] rfl)
  · have h := ifp c1 h
    refine lv_aload_n hx hb dX1_isWord_8 rfl (lv_at hl 0 rfl) ?_
    obtain ⟨v2, h1, h⟩ := ob h
    refine rg_1_5 hx hb hts hown hE hM qw_209 h1 dX1_isWord_9 ?_
    refine lv_aload_n hx hb dX1_isWord_12 rfl (lv_at hl 0 rfl) ?_
    obtain ⟨v3, h1, h⟩ := ob h
    refine rg_1_4 hx hb hts hown hE hM qw_208 h1 dX1_isWord_13 ?_
    refine lv_isub hx hb dX1_isWord_16 ?_
    refine lv_aload_n hx hb dX1_isWord_17 rfl (lv_at hl 1 rfl) ?_
    obtain ⟨v6, h1, h⟩ := ob h
    refine rJ_length (rest := [.int (v2 - v3)]) hC hE hS hM h1 qw_259 (Nat.le_of_ble_eq_true rfl) (Nat.le_of_ble_eq_true rfl) rfl rfl hl.1 (Nat.le_of_ble_eq_true rfl) dX1_isWord_18 ⟨(Nat.le_of_ble_eq_true rfl), (Nat.le_of_ble_eq_true rfl)⟩ (fun H locs hM hS => ?_)
    refine lv_icmp_eq (tgt := 26) hx hb dX1_isWord_21 (by decide) (fun c1 => ?_) (fun c1 => ?_)
    · have h := ifp c1 h
      refine lv_iconst (v := 0) hx hb dX1_isWord_26 (by decide) ?_
      refine lv_istore_n (lv' := [(2, .int 0), (0, .ref this), (1, .ref (eS E a1))]) hx hb dX1_isWord_27 rfl hl (by decide) rfl (fun ls hl => ?_)
      refine W.widen (k := 0) (n := 0) (Nat.le_of_ble_eq_true rfl) (Nat.le_of_ble_eq_true rfl) ?_
      exact tj_X1_isWord_28  hC hr hlocks hE  h hM hS (lv_sub hl [1, 2, 0] rfl)
    · have h := ifn c1 h
      refine W.widen (k := 0) (n := 0) (Nat.le_of_ble_eq_true rfl) (Nat.le_of_ble_eq_true rfl) ?_
      exact tj_X1_isWord_24  hC hr hlocks hE  h hM hS (lv_sub hl [] rfl)

theorem dd_X1_number : yX1_number.cls = RX1 ∧ yX1_number.cls ≠ "java/lang/invoke/MethodHandle" ∧ yX1_number.cls ≠ "java/lang/invoke/VarHandle" ∧ (parseMethodDescriptor yX1_number.desc).map (fun d => d.parameters.length) = some 2 := by decide +kernel
abbrev rm_X1_number : Room := ({ frames := 2, cells := 0, slots := 0, locals := 44 } : Room)
noncomputable def fj_X1_number_73 (x3 : Int32) (M : Mem) : Option (Int32 × Mem) :=
  some (x3, M)
set_option maxHeartbeats 4000000 in
set_option maxRecDepth 100000 in
theorem tj_X1_number_73 {p : Program} {l : Launch} {e : Env} {s : State} {m : MethodId} {args : Array Value} {below : List Frame} {meth : Method} {c : Code} {E : KEnv} {H : Heap} {locs : List Loc} {ls : Array Slot} {x3 : Int32} {M : Mem} {v : Int32} {M' : Mem} (hC : CallFix p m c cX1_number 5 s args lw_G RX1) (hr : meth.sig.returnType = (some .int)) (hlocks : meth.locks = false) (hE : EnvOK E s) (h : fj_X1_number_73 x3 M = some (v, M')) (hM : MOK E M H) (hS : va_S (eA E) s.heap H locs) (hl : lv_has ls 5 [(3, .int x3)]) : W p l e rm_X1_number s m args below meth c H locs 0 0 (MQ below (cQ E (some (.int v)) M') args s 0 0 (eA E)) (F0 m 73 ls []) := by
  obtain ⟨hx, hb, hml, hown, hts⟩ := id hC
  unfold fj_X1_number_73 at h
  refine lv_iload_n hx hb dX1_number_73 rfl (lv_at hl 0 rfl) ?_
  cases h
  exact eI hx hb hr hlocks hM hS dX1_number_74 (Nat.le_of_ble_eq_true rfl) (Nat.le_of_ble_eq_true rfl)
noncomputable def fj_X1_number_68 (x0 : Nat) (x3 : Int32) (M : Mem) : Option (Int32 × Mem) :=
  (cK 2 x0 M (f_X1_fail x0 2 M)).bind fun M7 =>
  fj_X1_number_73 x3 M7
set_option maxHeartbeats 4000000 in
set_option maxRecDepth 100000 in
theorem tj_X1_number_68 {p : Program} {l : Launch} {e : Env} {s : State} {m : MethodId} {args : Array Value} {below : List Frame} {meth : Method} {c : Code} {E : KEnv} {H : Heap} {locs : List Loc} {ls : Array Slot} {x0 : Nat} {x3 : Int32} {M : Mem} {v : Int32} {M' : Mem} (hC : CallFix p m c cX1_number 5 s args lw_G RX1) (hr : meth.sig.returnType = (some .int)) (hlocks : meth.locks = false) (hE : EnvOK E s) (h : fj_X1_number_68 x0 x3 M = some (v, M')) (hM : MOK E M H) (hS : va_S (eA E) s.heap H locs) (hl : lv_has ls 5 [(0, .ref x0), (3, .int x3)]) : W p l e rm_X1_number s m args below meth c H locs 0 0 (MQ below (cQ E (some (.int v)) M') args s 0 0 (eA E)) (F0 m 68 ls []) := by
  obtain ⟨hx, hb, hml, hown, hts⟩ := id hC
  unfold fj_X1_number_68 at h
  refine lv_aload_n hx hb dX1_number_68 rfl (lv_at hl 0 rfl) ?_
  refine lv_iconst (v := 2) hx hb dX1_number_69 (by decide) ?_
  obtain ⟨M7, h1, h⟩ := ob h
  obtain ⟨hk1, h1⟩ := ifg h1
  refine kV0 (ci := 1) (As := [.int 2]) (rest := []) hC hE hS hM (mt_X1_fail _ E x0 2 _ _ h1) (gwV qw_280 qw_282 qw_4 qw_43 qw_283) ⟨rfl, rfl, (Nat.le_of_ble_eq_true rfl), (Nat.le_of_ble_eq_true rfl)⟩ dd_X1_fail rfl hk1 rfl rfl hl.1 (Nat.le_of_ble_eq_true rfl) dX1_number_70 ⟨(Nat.le_of_ble_eq_true rfl), (Nat.le_of_ble_eq_true rfl)⟩ (fun H locs hM hS => ?_)
  refine W.widen (k := 0) (n := 0) (Nat.le_of_ble_eq_true rfl) (Nat.le_of_ble_eq_true rfl) ?_
  exact tj_X1_number_73  hC hr hlocks hE  h hM hS (lv_sub hl [1] rfl)
noncomputable def fj_X1_number_58 (x0 : Nat) (x1 : Int32) (x2 : Int32) (x3 : Int32) (M : Mem) : Option (Int32 × Mem) :=
  (if x3 < x1 then
  fj_X1_number_68 x0 x3 M
  else
  (if x3 ≤ x2 then
  fj_X1_number_73 x3 M
  else
  fj_X1_number_68 x0 x3 M))
set_option maxHeartbeats 4000000 in
set_option maxRecDepth 100000 in
theorem tj_X1_number_58 {p : Program} {l : Launch} {e : Env} {s : State} {m : MethodId} {args : Array Value} {below : List Frame} {meth : Method} {c : Code} {E : KEnv} {H : Heap} {locs : List Loc} {ls : Array Slot} {x0 : Nat} {x1 : Int32} {x2 : Int32} {x3 : Int32} {M : Mem} {v : Int32} {M' : Mem} (hC : CallFix p m c cX1_number 5 s args lw_G RX1) (hr : meth.sig.returnType = (some .int)) (hlocks : meth.locks = false) (hE : EnvOK E s) (h : fj_X1_number_58 x0 x1 x2 x3 M = some (v, M')) (hM : MOK E M H) (hS : va_S (eA E) s.heap H locs) (hl : lv_has ls 5 [(0, .ref x0), (1, .int x1), (2, .int x2), (3, .int x3)]) : W p l e rm_X1_number s m args below meth c H locs 0 0 (MQ below (cQ E (some (.int v)) M') args s 0 0 (eA E)) (F0 m 58 ls []) := by
  obtain ⟨hx, hb, hml, hown, hts⟩ := id hC
  unfold fj_X1_number_58 at h
  refine lv_iload_n hx hb dX1_number_58 rfl (lv_at hl 3 rfl) ?_
  refine lv_iload_n hx hb dX1_number_59 rfl (lv_at hl 1 rfl) ?_
  refine lv_icmp_lt (tgt := 68) hx hb dX1_number_60 (by decide) (fun c1 => ?_) (fun c1 => ?_)
  · have h := ifp c1 h
    refine W.widen (k := 0) (n := 0) (Nat.le_of_ble_eq_true rfl) (Nat.le_of_ble_eq_true rfl) ?_
    exact tj_X1_number_68  hC hr hlocks hE  h hM hS (lv_sub hl [0, 3] rfl)
  · have h := ifn c1 h
    refine lv_iload_n hx hb dX1_number_63 rfl (lv_at hl 3 rfl) ?_
    refine lv_iload_n hx hb dX1_number_64 rfl (lv_at hl 2 rfl) ?_
    refine lv_icmp_le (tgt := 73) hx hb dX1_number_65 (by decide) (fun c1 => ?_) (fun c1 => ?_)
    · have h := ifp c1 h
      refine W.widen (k := 0) (n := 0) (Nat.le_of_ble_eq_true rfl) (Nat.le_of_ble_eq_true rfl) ?_
      exact tj_X1_number_73  hC hr hlocks hE  h hM hS (lv_sub hl [3] rfl)
    · have h := ifn c1 h
      refine W.widen (k := 0) (n := 0) (Nat.le_of_ble_eq_true rfl) (Nat.le_of_ble_eq_true rfl) ?_
      exact tj_X1_number_68  hC hr hlocks hE  h hM hS (lv_sub hl [0, 3] rfl)
noncomputable def fc_X1_number_27 (x0 : Nat) (x1 : Int32) (x2 : Int32) (x3 : Int32) (x4 : Int32) (M : Mem) : Option ((Int32 × Int32 × Mem) ⊕ (Int32 × Mem)) :=
  (gI 2 37 x0 M).bind fun v5 =>
  (if v5 ≤ x4 then
  (fj_X1_number_58 x0 x1 x2 x3 M).map Sum.inr
  else
  (gRn 2 32 x0 M).bind fun v8 =>
  (gA 8 v8 x4 M).bind fun v9 =>
  some (.inl (((x3 * 10) + v9) - 48, x4 + 1, M)))
noncomputable def fj_X1_number_27 (x0 : Nat) (x1 : Int32) (x2 : Int32) (x3 : Int32) (x4 : Int32) (M : Mem) : Option (Int32 × Mem) := loopM (fun q : (Int32 × Int32 × Mem) => fc_X1_number_27 x0 x1 x2 q.1 q.2.1 q.2.2) FU (x3, x4, M)
set_option maxHeartbeats 4000000 in
set_option maxRecDepth 100000 in
theorem tj_X1_number_27 {p : Program} {l : Launch} {e : Env} {s : State} {m : MethodId} {args : Array Value} {below : List Frame} {meth : Method} {c : Code} {E : KEnv} {H : Heap} {locs : List Loc} {ls : Array Slot} {x0 : Nat} {x1 : Int32} {x2 : Int32} {x3 : Int32} {x4 : Int32} {M : Mem} {v : Int32} {M' : Mem} (hC : CallFix p m c cX1_number 5 s args lw_G RX1) (hr : meth.sig.returnType = (some .int)) (hlocks : meth.locks = false) (hE : EnvOK E s) (h : fj_X1_number_27 x0 x1 x2 x3 x4 M = some (v, M')) (hM : MOK E M H) (hS : va_S (eA E) s.heap H locs) (hl : lv_has ls 5 [(0, .ref x0), (1, .int x1), (2, .int x2), (3, .int x3), (4, .int x4)]) : W p l e rm_X1_number s m args below meth c H locs 0 0 (MQ below (cQ E (some (.int v)) M') args s 0 0 (eA E)) (F0 m 27 ls []) := by
  refine loopM_ind (body := fun q : (Int32 × Int32 × Mem) => fc_X1_number_27 x0 x1 x2 q.1 q.2.1 q.2.2) (x0 := (v, M')) (Wd := fun q : (Int32 × Int32 × Mem) => ∀ (H : Heap) (locs : List Loc) (ls : Array Slot), MOK E (q.2.2) H → va_S (eA E) s.heap H locs → lv_has ls 5 [(0, .ref x0), (1, .int x1), (2, .int x2), (3, .int q.1), (4, .int q.2.1)] → W p l e rm_X1_number s m args below meth c H locs 0 0 (MQ below (cQ E (some (.int v)) M') args s 0 0 (eA E)) (F0 m 27 ls [])) ?_ FU (x3, x4, M) h H locs ls hM hS hl
  clear h hM hS hl H locs ls M x3 x4
  obtain ⟨hx, hb, hml, hown, hts⟩ := id hC
  intro q y1 h hy1 H locs ls hM hS hl
  obtain ⟨x3, x4, M⟩ := q
  have h : fc_X1_number_27 x0 x1 x2 x3 x4 M = some y1 := h
  have hM : MOK E M H := hM
  have hl : lv_has ls 5 [(0, .ref x0), (1, .int x1), (2, .int x2), (3, .int x3), (4, .int x4)] := hl
  unfold fc_X1_number_27 at h
  show W p l e rm_X1_number s m args below meth c H locs _ _ _ _
  refine lv_iload hx hb dX1_number_27 (lv_at hl 4 rfl) ?_
  refine lv_aload_n hx hb dX1_number_29 rfl (lv_at hl 0 rfl) ?_
  obtain ⟨v5, h1, h⟩ := ob h
  refine rg_1_5 hx hb hts hown hE hM qw_209 h1 dX1_number_30 ?_
  refine lv_icmp_ge (tgt := 58) hx hb dX1_number_33 (by decide) (fun c1 => ?_) (fun c1 => ?_)
  · have h := ifp c1 h
    obtain ⟨z0, h9, rfl⟩ := om h
    have e0 := hy1.2 _ rfl
    subst e0
    have h := h9
    refine W.widen (k := 0) (n := 0) (Nat.le_of_ble_eq_true rfl) (Nat.le_of_ble_eq_true rfl) ?_
    exact tj_X1_number_58  hC hr hlocks hE  h hM hS (lv_sub hl [0, 1, 2, 3] rfl)
  · have h := ifn c1 h
    refine lv_iload_n hx hb dX1_number_36 rfl (lv_at hl 3 rfl) ?_
    refine lv_bipush (v := 10) hx hb dX1_number_37 (by decide) ?_
    refine lv_imul hx hb dX1_number_39 ?_
    refine lv_aload_n hx hb dX1_number_40 rfl (lv_at hl 0 rfl) ?_
    obtain ⟨v8, h1, h⟩ := ob h
    refine rgn_1_0 hx hb hts hown hE hM qw_204 h1 dX1_number_41 ?_
    refine lv_iload hx hb dX1_number_44 (lv_at hl 4 rfl) ?_
    obtain ⟨v9, h1, h⟩ := ob h
    refine r_cald hx hb hE hM h1 dX1_number_46 ?_
    refine lv_iadd hx hb dX1_number_47 ?_
    refine lv_bipush (v := 48) hx hb dX1_number_48 (by decide) ?_
    refine lv_isub hx hb dX1_number_50 ?_
    refine lv_istore_n (lv' := [(3, .int (((x3 * 10) + v9) - 48)), (0, .ref x0), (1, .int x1), (2, .int x2), (4, .int x4)]) hx hb dX1_number_51 rfl hl (by decide) rfl (fun ls hl => ?_)
    refine lv_iinc (v := x4 + 1) (lv' := [(4, .int (x4 + 1)), (3, .int (((x3 * 10) + v9) - 48)), (0, .ref x0), (1, .int x1), (2, .int x2)]) hx hb dX1_number_52 hl (k := 4) rfl rfl (by decide) rfl (fun ls hl => ?_)
    refine lv_goto (tgt := 27) hx hb dX1_number_55 (by decide) ?_
    cases h
    exact hy1.1 _ rfl _ _ _ hM hS (lv_sub hl [2, 3, 4, 1, 0] rfl)
noncomputable def f_X1_number (this : Nat) (a1 : Int32) (a2 : Int32) (M : Mem) : Option (Int32 × Mem) :=
  (cK 2 this M (f_X1_nextToken this M)).bind fun M2 =>
  (gI 2 35 this M2).bind fun v3 =>
  (if v3 = 2 then
  (gI 2 36 this M2).bind fun v4 =>
  fj_X1_number_27 this a1 a2 0 v4 M2
  else
  (cK 2 this M2 (f_X1_fail this 1 M2)).bind fun M11 =>
  some (a1, M11))
set_option maxHeartbeats 4000000 in
set_option maxRecDepth 100000 in
theorem mt_X1_number (l : Launch) (E : KEnv) (this : Nat) (a1 : Int32) (a2 : Int32) (M M' : Mem) (v : Int32) (h : f_X1_number this a1 a2 M = some (v, M')) : Met l yX1_number (Cond.code yX1_number cX1_number 5 (some .int) :: lw_G) rm_X1_number (cPc E [.ref this, .int a1, .int a2] M) (cQ E (some (.int v)) M') 0 0 (eA E) := by
  refine Met.ofW (cc := cX1_number) (maxL := 5) (ret := (some .int)) (by decide) rfl ?_
  intro p e s m args below meth c s₁ B hml hv
  obtain ⟨rfl, hE, hM⟩ := hv
  have hx := B.exec
  have hb := B.bytes
  have hr := B.returns
  have hts0 := atoms_spec (ws := Cond.code yX1_number cX1_number 5 (some .int) :: lw_G) B.pre
  have hts : ∀ w ∈ lw_G, w.before _ s = true := fun w hw => hts0 w (List.mem_cons_of_mem _ hw)
  have hown : s.vm.findClass RX1 = some m.cls := findClass_of_methodNamed B.named
  have hlocks := B.notSynchronized
  have hC : CallFix p m c cX1_number 5 s _ lw_G RX1 := ⟨hx, hb, hml, hown, hts⟩
  have hS : va_S (eA E) s.heap s.heap [] := va_S.rf
  have hl := lv_entry ([.ref this, .int a1, .int a2]) (n := 5) (Nat.le_of_ble_eq_true rfl)
  rw [lg_entry_eq]
  generalize (lg_sl ([.ref this, .int a1, .int a2]) ++ List.replicate (5 - (lg_sl ([.ref this, .int a1, .int a2])).length) Slot.unset).toArray = ls at hl ⊢
  have hl : lv_has ls 5 [(0, .ref this), (1, .int a1), (2, .int a2)] := hl
  unfold f_X1_number at h
  show W p l e rm_X1_number s m _ below meth c s.heap [] 0 0 _ _
  refine lv_aload_n hx hb dX1_number_0 rfl (lv_at hl 0 rfl) ?_
  obtain ⟨M2, h1, h⟩ := ob h
  obtain ⟨hk1, h1⟩ := ifg h1
  refine kV0 (ci := 1) (As := []) (rest := []) hC hE hS hM (mt_X1_nextToken _ E this _ _ h1) (gwV qw_240 qw_242 qw_1 qw_43 qw_243) ⟨rfl, rfl, (Nat.le_of_ble_eq_true rfl), (Nat.le_of_ble_eq_true rfl)⟩ dd_X1_nextToken rfl hk1 rfl rfl hl.1 (Nat.le_of_ble_eq_true rfl) dX1_number_1 ⟨(Nat.le_of_ble_eq_true rfl), (Nat.le_of_ble_eq_true rfl)⟩ (fun H locs hM hS => ?_)
  refine lv_aload_n hx hb dX1_number_4 rfl (lv_at hl 0 rfl) ?_
  obtain ⟨v3, h1, h⟩ := ob h
  refine rg_1_3 hx hb hts hown hE hM qw_207 h1 dX1_number_5 ?_
  refine lv_iconst (v := 2) hx hb dX1_number_8 (by decide) ?_
  refine lv_icmp_eq (tgt := 19) hx hb dX1_number_9 (by decide) (fun c1 => ?_) (fun c1 => ?_)
  · have h := ifp c1 h
    refine lv_iconst (v := 0) hx hb dX1_number_19 (by decide) ?_
    refine lv_istore_n (lv' := [(3, .int 0), (0, .ref this), (1, .int a1), (2, .int a2)]) hx hb dX1_number_20 rfl hl (by decide) rfl (fun ls hl => ?_)
    refine lv_aload_n hx hb dX1_number_21 rfl (lv_at hl 1 rfl) ?_
    obtain ⟨v4, h1, h⟩ := ob h
    refine rg_1_4 hx hb hts hown hE hM qw_208 h1 dX1_number_22 ?_
    refine lv_istore (lv' := [(4, .int v4), (3, .int 0), (0, .ref this), (1, .int a1), (2, .int a2)]) hx hb dX1_number_25 hl (by decide) rfl (fun ls hl => ?_)
    refine W.widen (k := 0) (n := 0) (Nat.le_of_ble_eq_true rfl) (Nat.le_of_ble_eq_true rfl) ?_
    exact tj_X1_number_27  hC hr hlocks hE  h hM hS (lv_sub hl [2, 3, 4, 1, 0] rfl)
  · have h := ifn c1 h
    refine lv_aload_n hx hb dX1_number_12 rfl (lv_at hl 0 rfl) ?_
    refine lv_iconst (v := 1) hx hb dX1_number_13 (by decide) ?_
    obtain ⟨M11, h1, h⟩ := ob h
    obtain ⟨hk1, h1⟩ := ifg h1
    refine kV0 (ci := 1) (As := [.int 1]) (rest := []) hC hE hS hM (mt_X1_fail _ E this 1 _ _ h1) (gwV qw_280 qw_282 qw_4 qw_43 qw_283) ⟨rfl, rfl, (Nat.le_of_ble_eq_true rfl), (Nat.le_of_ble_eq_true rfl)⟩ dd_X1_fail rfl hk1 rfl rfl hl.1 (Nat.le_of_ble_eq_true rfl) dX1_number_14 ⟨(Nat.le_of_ble_eq_true rfl), (Nat.le_of_ble_eq_true rfl)⟩ (fun H locs hM hS => ?_)
    refine lv_iload_n hx hb dX1_number_17 rfl (lv_at hl 1 rfl) ?_
    cases h
    exact eI hx hb hr hlocks hM hS dX1_number_18 (Nat.le_of_ble_eq_true rfl) (Nat.le_of_ble_eq_true rfl)

theorem dd_X1_runFirstLine : yX1_runFirstLine.cls = RX1 ∧ yX1_runFirstLine.cls ≠ "java/lang/invoke/MethodHandle" ∧ yX1_runFirstLine.cls ≠ "java/lang/invoke/VarHandle" ∧ (parseMethodDescriptor yX1_runFirstLine.desc).map (fun d => d.parameters.length) = some 0 := by decide +kernel
abbrev rm_X1_runFirstLine : Room := ({ frames := 5, cells := 0, slots := 0, locals := 182 } : Room)
noncomputable def fj_X1_runFirstLine_56  (M : Mem) : Option Mem :=
  some M
set_option maxHeartbeats 4000000 in
set_option maxRecDepth 100000 in
theorem tj_X1_runFirstLine_56 {p : Program} {l : Launch} {e : Env} {s : State} {m : MethodId} {args : Array Value} {below : List Frame} {meth : Method} {c : Code} {E : KEnv} {H : Heap} {locs : List Loc} {ls : Array Slot}  {M : Mem} {M' : Mem} (hC : CallFix p m c cX1_runFirstLine 4 s args lw_G RX1) (hr : meth.sig.returnType = none) (hlocks : meth.locks = false) (hE : EnvOK E s) (h : fj_X1_runFirstLine_56  M = some M') (hM : MOK E M H) (hS : va_S (eA E) s.heap H locs) (hl : lv_has ls 4 []) : W p l e rm_X1_runFirstLine s m args below meth c H locs 0 0 (MQ below (cQ E none M') args s 0 0 (eA E)) (F0 m 56 ls []) := by
  obtain ⟨hx, hb, hml, hown, hts⟩ := id hC
  unfold fj_X1_runFirstLine_56 at h
  cases h
  exact eV_ hx hb hr hlocks hM hS dX1_runFirstLine_56 (Nat.le_of_ble_eq_true rfl) (Nat.le_of_ble_eq_true rfl)
noncomputable def fj_X1_runFirstLine_18 (x0 : Nat) (M : Mem) : Option Mem :=
  bn (cK 2 x0 M (f_X1_number x0 1 4 M)) fun v5 M6 =>
  bn (cK 2 x0 M6 (f_X1_number x0 0 4 M6)) fun v7 M8 =>
  bn (cK 2 x0 M8 (f_X1_number x0 0 4 M8)) fun v9 M10 =>
  bn (cK 2 x0 M10 (f_X1_failed x0 M10)) fun v11 M12 =>
  (if v11 = 0 then
  (gRn 2 34 x0 M12).bind fun v13 =>
  (cK 4 v13 M12 (f_X3_reset v13 v5 v7 v9 M12)).bind fun M15 =>
  fj_X1_runFirstLine_56 M15
  else
  fj_X1_runFirstLine_56 M12)
set_option maxHeartbeats 4000000 in
set_option maxRecDepth 100000 in
theorem tj_X1_runFirstLine_18 {p : Program} {l : Launch} {e : Env} {s : State} {m : MethodId} {args : Array Value} {below : List Frame} {meth : Method} {c : Code} {E : KEnv} {H : Heap} {locs : List Loc} {ls : Array Slot} {x0 : Nat} {M : Mem} {M' : Mem} (hC : CallFix p m c cX1_runFirstLine 4 s args lw_G RX1) (hr : meth.sig.returnType = none) (hlocks : meth.locks = false) (hE : EnvOK E s) (h : fj_X1_runFirstLine_18 x0 M = some M') (hM : MOK E M H) (hS : va_S (eA E) s.heap H locs) (hl : lv_has ls 4 [(0, .ref x0)]) : W p l e rm_X1_runFirstLine s m args below meth c H locs 0 0 (MQ below (cQ E none M') args s 0 0 (eA E)) (F0 m 18 ls []) := by
  obtain ⟨hx, hb, hml, hown, hts⟩ := id hC
  unfold fj_X1_runFirstLine_18 at h
  refine lv_aload_n hx hb dX1_runFirstLine_18 rfl (lv_at hl 0 rfl) ?_
  refine lv_iconst (v := 1) hx hb dX1_runFirstLine_19 (by decide) ?_
  refine lv_iconst (v := 4) hx hb dX1_runFirstLine_20 (by decide) ?_
  obtain ⟨v5, M6, h1, h⟩ := ob2 h
  obtain ⟨hk1, h1⟩ := ifg h1
  refine kV1 (ci := 1) (As := [.int 1, .int 4]) (rest := []) hC hE hS hM (mt_X1_number _ E x0 1 4 _ _ _ h1) (gwV qw_284 qw_286 qw_5 qw_43 qw_287) ⟨rfl, rfl, (Nat.le_of_ble_eq_true rfl), (Nat.le_of_ble_eq_true rfl)⟩ dd_X1_number rfl hk1 rfl rfl hl.1 (Nat.le_of_ble_eq_true rfl) dX1_runFirstLine_21 ⟨(Nat.le_of_ble_eq_true rfl), (Nat.le_of_ble_eq_true rfl)⟩ (fun H locs hM hS => ?_)
  refine lv_istore_n (lv' := [(1, .int v5), (0, .ref x0)]) hx hb dX1_runFirstLine_24 rfl hl (by decide) rfl (fun ls hl => ?_)
  refine lv_aload_n hx hb dX1_runFirstLine_25 rfl (lv_at hl 1 rfl) ?_
  refine lv_iconst (v := 0) hx hb dX1_runFirstLine_26 (by decide) ?_
  refine lv_iconst (v := 4) hx hb dX1_runFirstLine_27 (by decide) ?_
  obtain ⟨v7, M8, h1, h⟩ := ob2 h
  obtain ⟨hk1, h1⟩ := ifg h1
  refine kV1 (ci := 1) (As := [.int 0, .int 4]) (rest := []) hC hE hS hM (mt_X1_number _ E x0 0 4 _ _ _ h1) (gwV qw_284 qw_286 qw_5 qw_43 qw_287) ⟨rfl, rfl, (Nat.le_of_ble_eq_true rfl), (Nat.le_of_ble_eq_true rfl)⟩ dd_X1_number rfl hk1 rfl rfl hl.1 (Nat.le_of_ble_eq_true rfl) dX1_runFirstLine_28 ⟨(Nat.le_of_ble_eq_true rfl), (Nat.le_of_ble_eq_true rfl)⟩ (fun H locs hM hS => ?_)
  refine lv_istore_n (lv' := [(2, .int v7), (1, .int v5), (0, .ref x0)]) hx hb dX1_runFirstLine_31 rfl hl (by decide) rfl (fun ls hl => ?_)
  refine lv_aload_n hx hb dX1_runFirstLine_32 rfl (lv_at hl 2 rfl) ?_
  refine lv_iconst (v := 0) hx hb dX1_runFirstLine_33 (by decide) ?_
  refine lv_iconst (v := 4) hx hb dX1_runFirstLine_34 (by decide) ?_
  obtain ⟨v9, M10, h1, h⟩ := ob2 h
  obtain ⟨hk1, h1⟩ := ifg h1
  refine kV1 (ci := 1) (As := [.int 0, .int 4]) (rest := []) hC hE hS hM (mt_X1_number _ E x0 0 4 _ _ _ h1) (gwV qw_284 qw_286 qw_5 qw_43 qw_287) ⟨rfl, rfl, (Nat.le_of_ble_eq_true rfl), (Nat.le_of_ble_eq_true rfl)⟩ dd_X1_number rfl hk1 rfl rfl hl.1 (Nat.le_of_ble_eq_true rfl) dX1_runFirstLine_35 ⟨(Nat.le_of_ble_eq_true rfl), (Nat.le_of_ble_eq_true rfl)⟩ (fun H locs hM hS => ?_)
  refine lv_istore_n (lv' := [(3, .int v9), (2, .int v7), (1, .int v5), (0, .ref x0)]) hx hb dX1_runFirstLine_38 rfl hl (by decide) rfl (fun ls hl => ?_)
  refine lv_aload_n hx hb dX1_runFirstLine_39 rfl (lv_at hl 3 rfl) ?_
  obtain ⟨v11, M12, h1, h⟩ := ob2 h
  obtain ⟨hk1, h1⟩ := ifg h1
  refine kV1 (ci := 1) (As := []) (rest := []) hC hE hS hM (mt_X1_failed _ E x0 _ _ _ h1) (gwV qw_244 qw_246 qw_2 qw_43 qw_247) ⟨rfl, rfl, (Nat.le_of_ble_eq_true rfl), (Nat.le_of_ble_eq_true rfl)⟩ dd_X1_failed rfl hk1 rfl rfl hl.1 (Nat.le_of_ble_eq_true rfl) dX1_runFirstLine_40 ⟨(Nat.le_of_ble_eq_true rfl), (Nat.le_of_ble_eq_true rfl)⟩ (fun H locs hM hS => ?_)
  refine lv_if_ne (tgt := 56) hx hb dX1_runFirstLine_43 (by decide) (fun c1 => ?_) (fun c1 => ?_)
  · have h := ifn c1 h
    refine W.widen (k := 0) (n := 0) (Nat.le_of_ble_eq_true rfl) (Nat.le_of_ble_eq_true rfl) ?_
    exact tj_X1_runFirstLine_56  hC hr hlocks hE  h hM hS (lv_sub hl [] rfl)
  · have h := ifp c1 h
    refine lv_aload_n hx hb dX1_runFirstLine_46 rfl (lv_at hl 3 rfl) ?_
    obtain ⟨v13, h1, h⟩ := ob h
    refine rgn_1_2 hx hb hts hown hE hM qw_206 h1 dX1_runFirstLine_47 ?_
    refine lv_iload_n hx hb dX1_runFirstLine_50 rfl (lv_at hl 2 rfl) ?_
    refine lv_iload_n hx hb dX1_runFirstLine_51 rfl (lv_at hl 1 rfl) ?_
    refine lv_iload_n hx hb dX1_runFirstLine_52 rfl (lv_at hl 0 rfl) ?_
    obtain ⟨M15, h1, h⟩ := ob h
    obtain ⟨hk1, h1⟩ := ifg h1
    refine kV0 (ci := 3) (As := [.int v5, .int v7, .int v9]) (rest := []) hC hE hS hM (mt_X3_reset _ E v13 v5 v7 v9 _ _ h1) (gwV qw_288 qw_289 qw_290 qw_40 qw_291) ⟨rfl, rfl, (Nat.le_of_ble_eq_true rfl), (Nat.le_of_ble_eq_true rfl)⟩ dd_X3_reset rfl hk1 rfl rfl hl.1 (Nat.le_of_ble_eq_true rfl) dX1_runFirstLine_53 ⟨(Nat.le_of_ble_eq_true rfl), (Nat.le_of_ble_eq_true rfl)⟩ (fun H locs hM hS => ?_)
    refine W.widen (k := 0) (n := 0) (Nat.le_of_ble_eq_true rfl) (Nat.le_of_ble_eq_true rfl) ?_
    exact tj_X1_runFirstLine_56  hC hr hlocks hE  h hM hS (lv_sub hl [] rfl)
noncomputable def f_X1_runFirstLine (this : Nat) (M : Mem) : Option Mem :=
  (cK 2 this M (f_X1_nextToken this M)).bind fun M2 =>
  bn (cK 2 this M2 (f_X1_isWord this 1 M2)) fun v3 M4 =>
  (if v3 = 0 then
  (cK 2 this M4 (f_X1_fail this 1 M4)).bind fun M17 =>
  fj_X1_runFirstLine_18 this M17
  else
  fj_X1_runFirstLine_18 this M4)
set_option maxHeartbeats 4000000 in
set_option maxRecDepth 100000 in
theorem mt_X1_runFirstLine (l : Launch) (E : KEnv) (this : Nat) (M M' : Mem) (h : f_X1_runFirstLine this M = some M') : Met l yX1_runFirstLine (Cond.code yX1_runFirstLine cX1_runFirstLine 4 none :: lw_G) rm_X1_runFirstLine (cPc E [.ref this] M) (cQ E none M') 0 0 (eA E) := by
  refine Met.ofW (cc := cX1_runFirstLine) (maxL := 4) (ret := none) (by decide) rfl ?_
  intro p e s m args below meth c s₁ B hml hv
  obtain ⟨rfl, hE, hM⟩ := hv
  have hx := B.exec
  have hb := B.bytes
  have hr := B.returns
  have hts0 := atoms_spec (ws := Cond.code yX1_runFirstLine cX1_runFirstLine 4 none :: lw_G) B.pre
  have hts : ∀ w ∈ lw_G, w.before _ s = true := fun w hw => hts0 w (List.mem_cons_of_mem _ hw)
  have hown : s.vm.findClass RX1 = some m.cls := findClass_of_methodNamed B.named
  have hlocks := B.notSynchronized
  have hC : CallFix p m c cX1_runFirstLine 4 s _ lw_G RX1 := ⟨hx, hb, hml, hown, hts⟩
  have hS : va_S (eA E) s.heap s.heap [] := va_S.rf
  have hl := lv_entry ([.ref this]) (n := 4) (Nat.le_of_ble_eq_true rfl)
  rw [lg_entry_eq]
  generalize (lg_sl ([.ref this]) ++ List.replicate (4 - (lg_sl ([.ref this])).length) Slot.unset).toArray = ls at hl ⊢
  have hl : lv_has ls 4 [(0, .ref this)] := hl
  unfold f_X1_runFirstLine at h
  show W p l e rm_X1_runFirstLine s m _ below meth c s.heap [] 0 0 _ _
  refine lv_aload_n hx hb dX1_runFirstLine_0 rfl (lv_at hl 0 rfl) ?_
  obtain ⟨M2, h1, h⟩ := ob h
  obtain ⟨hk1, h1⟩ := ifg h1
  refine kV0 (ci := 1) (As := []) (rest := []) hC hE hS hM (mt_X1_nextToken _ E this _ _ h1) (gwV qw_240 qw_242 qw_1 qw_43 qw_243) ⟨rfl, rfl, (Nat.le_of_ble_eq_true rfl), (Nat.le_of_ble_eq_true rfl)⟩ dd_X1_nextToken rfl hk1 rfl rfl hl.1 (Nat.le_of_ble_eq_true rfl) dX1_runFirstLine_1 ⟨(Nat.le_of_ble_eq_true rfl), (Nat.le_of_ble_eq_true rfl)⟩ (fun H locs hM hS => ?_)
  refine lv_aload_n hx hb dX1_runFirstLine_4 rfl (lv_at hl 0 rfl) ?_
  refine va_ldcS hx hb hown (sr_1 hE) dX1_runFirstLine_5 ?_
  obtain ⟨v3, M4, h1, h⟩ := ob2 h
  obtain ⟨hk1, h1⟩ := ifg h1
  refine kV1 (ci := 1) (As := [.ref (eS E 1)]) (rest := []) hC hE hS hM (mt_X1_isWord _ E this 1 _ _ _ h1) (gwV qw_255 qw_257 qw_3 qw_43 qw_258) ⟨rfl, rfl, (Nat.le_of_ble_eq_true rfl), (Nat.le_of_ble_eq_true rfl)⟩ dd_X1_isWord rfl hk1 rfl rfl hl.1 (Nat.le_of_ble_eq_true rfl) dX1_runFirstLine_7 ⟨(Nat.le_of_ble_eq_true rfl), (Nat.le_of_ble_eq_true rfl)⟩ (fun H locs hM hS => ?_)
  refine lv_if_ne (tgt := 18) hx hb dX1_runFirstLine_10 (by decide) (fun c1 => ?_) (fun c1 => ?_)
  · have h := ifn c1 h
    refine W.widen (k := 0) (n := 0) (Nat.le_of_ble_eq_true rfl) (Nat.le_of_ble_eq_true rfl) ?_
    exact tj_X1_runFirstLine_18  hC hr hlocks hE  h hM hS (lv_sub hl [0] rfl)
  · have h := ifp c1 h
    refine lv_aload_n hx hb dX1_runFirstLine_13 rfl (lv_at hl 0 rfl) ?_
    refine lv_iconst (v := 1) hx hb dX1_runFirstLine_14 (by decide) ?_
    obtain ⟨M17, h1, h⟩ := ob h
    obtain ⟨hk1, h1⟩ := ifg h1
    refine kV0 (ci := 1) (As := [.int 1]) (rest := []) hC hE hS hM (mt_X1_fail _ E this 1 _ _ h1) (gwV qw_280 qw_282 qw_4 qw_43 qw_283) ⟨rfl, rfl, (Nat.le_of_ble_eq_true rfl), (Nat.le_of_ble_eq_true rfl)⟩ dd_X1_fail rfl hk1 rfl rfl hl.1 (Nat.le_of_ble_eq_true rfl) dX1_runFirstLine_15 ⟨(Nat.le_of_ble_eq_true rfl), (Nat.le_of_ble_eq_true rfl)⟩ (fun H locs hM hS => ?_)
    refine W.widen (k := 0) (n := 0) (Nat.le_of_ble_eq_true rfl) (Nat.le_of_ble_eq_true rfl) ?_
    exact tj_X1_runFirstLine_18  hC hr hlocks hE  h hM hS (lv_sub hl [0] rfl)

theorem dd_X1_tag : yX1_tag.cls = RX1 ∧ yX1_tag.cls ≠ "java/lang/invoke/MethodHandle" ∧ yX1_tag.cls ≠ "java/lang/invoke/VarHandle" ∧ (parseMethodDescriptor yX1_tag.desc).map (fun d => d.parameters.length) = some 0 := by decide +kernel
abbrev rm_X1_tag : Room := ({ frames := 2, cells := 0, slots := 0, locals := 44 } : Room)
noncomputable def fj_X1_tag_39 (x0 : Nat) (M : Mem) : Option (Int32 × Mem) :=
  (cK 2 x0 M (f_X1_fail x0 1 M)).bind fun M5 =>
  some (0, M5)
set_option maxHeartbeats 4000000 in
set_option maxRecDepth 100000 in
theorem tj_X1_tag_39 {p : Program} {l : Launch} {e : Env} {s : State} {m : MethodId} {args : Array Value} {below : List Frame} {meth : Method} {c : Code} {E : KEnv} {H : Heap} {locs : List Loc} {ls : Array Slot} {x0 : Nat} {M : Mem} {v : Int32} {M' : Mem} (hC : CallFix p m c cX1_tag 1 s args lw_G RX1) (hr : meth.sig.returnType = (some .int)) (hlocks : meth.locks = false) (hE : EnvOK E s) (h : fj_X1_tag_39 x0 M = some (v, M')) (hM : MOK E M H) (hS : va_S (eA E) s.heap H locs) (hl : lv_has ls 1 [(0, .ref x0)]) : W p l e rm_X1_tag s m args below meth c H locs 0 0 (MQ below (cQ E (some (.int v)) M') args s 0 0 (eA E)) (F0 m 39 ls []) := by
  obtain ⟨hx, hb, hml, hown, hts⟩ := id hC
  unfold fj_X1_tag_39 at h
  refine lv_aload_n hx hb dX1_tag_39 rfl (lv_at hl 0 rfl) ?_
  refine lv_iconst (v := 1) hx hb dX1_tag_40 (by decide) ?_
  obtain ⟨M5, h1, h⟩ := ob h
  obtain ⟨hk1, h1⟩ := ifg h1
  refine kV0 (ci := 1) (As := [.int 1]) (rest := []) hC hE hS hM (mt_X1_fail _ E x0 1 _ _ h1) (gwV qw_280 qw_282 qw_4 qw_43 qw_283) ⟨rfl, rfl, (Nat.le_of_ble_eq_true rfl), (Nat.le_of_ble_eq_true rfl)⟩ dd_X1_fail rfl hk1 rfl rfl hl.1 (Nat.le_of_ble_eq_true rfl) dX1_tag_41 ⟨(Nat.le_of_ble_eq_true rfl), (Nat.le_of_ble_eq_true rfl)⟩ (fun H locs hM hS => ?_)
  refine lv_iconst (v := 0) hx hb dX1_tag_44 (by decide) ?_
  cases h
  exact eI hx hb hr hlocks hM hS dX1_tag_45 (Nat.le_of_ble_eq_true rfl) (Nat.le_of_ble_eq_true rfl)
noncomputable def f_X1_tag (this : Nat) (M : Mem) : Option (Int32 × Mem) :=
  (cK 2 this M (f_X1_nextToken this M)).bind fun M2 =>
  (gI 2 35 this M2).bind fun v3 =>
  (if v3 = 1 then
  (gI 2 37 this M2).bind fun v6 =>
  (gI 2 36 this M2).bind fun v7 =>
  (if (v6 - v7) = 1 then
  (gRn 2 32 this M2).bind fun v8 =>
  (gI 2 36 this M2).bind fun v9 =>
  (gA 8 v8 v9 M2).bind fun v10 =>
  (if v10 < 113 then
  (gRn 2 32 this M2).bind fun v11 =>
  (gI 2 36 this M2).bind fun v12 =>
  (gA 8 v11 v12 M2).bind fun v13 =>
  some (v13 - 97, M2)
  else
  fj_X1_tag_39 this M2)
  else
  fj_X1_tag_39 this M2)
  else
  fj_X1_tag_39 this M2)
set_option maxHeartbeats 4000000 in
set_option maxRecDepth 100000 in
theorem mt_X1_tag (l : Launch) (E : KEnv) (this : Nat) (M M' : Mem) (v : Int32) (h : f_X1_tag this M = some (v, M')) : Met l yX1_tag (Cond.code yX1_tag cX1_tag 1 (some .int) :: lw_G) rm_X1_tag (cPc E [.ref this] M) (cQ E (some (.int v)) M') 0 0 (eA E) := by
  refine Met.ofW (cc := cX1_tag) (maxL := 1) (ret := (some .int)) (by decide) rfl ?_
  intro p e s m args below meth c s₁ B hml hv
  obtain ⟨rfl, hE, hM⟩ := hv
  have hx := B.exec
  have hb := B.bytes
  have hr := B.returns
  have hts0 := atoms_spec (ws := Cond.code yX1_tag cX1_tag 1 (some .int) :: lw_G) B.pre
  have hts : ∀ w ∈ lw_G, w.before _ s = true := fun w hw => hts0 w (List.mem_cons_of_mem _ hw)
  have hown : s.vm.findClass RX1 = some m.cls := findClass_of_methodNamed B.named
  have hlocks := B.notSynchronized
  have hC : CallFix p m c cX1_tag 1 s _ lw_G RX1 := ⟨hx, hb, hml, hown, hts⟩
  have hS : va_S (eA E) s.heap s.heap [] := va_S.rf
  have hl := lv_entry ([.ref this]) (n := 1) (Nat.le_of_ble_eq_true rfl)
  rw [lg_entry_eq]
  generalize (lg_sl ([.ref this]) ++ List.replicate (1 - (lg_sl ([.ref this])).length) Slot.unset).toArray = ls at hl ⊢
  have hl : lv_has ls 1 [(0, .ref this)] := hl
  unfold f_X1_tag at h
  show W p l e rm_X1_tag s m _ below meth c s.heap [] 0 0 _ _
  refine lv_aload_n hx hb dX1_tag_0 rfl (lv_at hl 0 rfl) ?_
  obtain ⟨M2, h1, h⟩ := ob h
  obtain ⟨hk1, h1⟩ := ifg h1
  refine kV0 (ci := 1) (As := []) (rest := []) hC hE hS hM (mt_X1_nextToken _ E this _ _ h1) (gwV qw_240 qw_242 qw_1 qw_43 qw_243) ⟨rfl, rfl, (Nat.le_of_ble_eq_true rfl), (Nat.le_of_ble_eq_true rfl)⟩ dd_X1_nextToken rfl hk1 rfl rfl hl.1 (Nat.le_of_ble_eq_true rfl) dX1_tag_1 ⟨(Nat.le_of_ble_eq_true rfl), (Nat.le_of_ble_eq_true rfl)⟩ (fun H locs hM hS => ?_)
  refine lv_aload_n hx hb dX1_tag_4 rfl (lv_at hl 0 rfl) ?_
  obtain ⟨v3, h1, h⟩ := ob h
  refine rg_1_3 hx hb hts hown hE hM qw_207 h1 dX1_tag_5 ?_
  refine lv_iconst (v := 1) hx hb dX1_tag_8 (by decide) ?_
  refine lv_icmp_ne (tgt := 39) hx hb dX1_tag_9 (by decide) (fun c1 => ?_) (fun c1 => ?_)
  · have h := ifn c1 h
    refine W.widen (k := 0) (n := 0) (Nat.le_of_ble_eq_true rfl) (Nat.le_of_ble_eq_true rfl) ?_
    exact tj_X1_tag_39  hC hr hlocks hE  h hM hS (lv_sub hl [0] rfl)
  · have h := ifp c1 h
    refine lv_aload_n hx hb dX1_tag_12 rfl (lv_at hl 0 rfl) ?_
    obtain ⟨v6, h1, h⟩ := ob h
    refine rg_1_5 hx hb hts hown hE hM qw_209 h1 dX1_tag_13 ?_
    refine lv_aload_n hx hb dX1_tag_16 rfl (lv_at hl 0 rfl) ?_
    obtain ⟨v7, h1, h⟩ := ob h
    refine rg_1_4 hx hb hts hown hE hM qw_208 h1 dX1_tag_17 ?_
    refine lv_isub hx hb dX1_tag_20 ?_
    refine lv_iconst (v := 1) hx hb dX1_tag_21 (by decide) ?_
    refine lv_icmp_ne (tgt := 39) hx hb dX1_tag_22 (by decide) (fun c1 => ?_) (fun c1 => ?_)
    · have h := ifn c1 h
      refine W.widen (k := 0) (n := 0) (Nat.le_of_ble_eq_true rfl) (Nat.le_of_ble_eq_true rfl) ?_
      exact tj_X1_tag_39  hC hr hlocks hE  h hM hS (lv_sub hl [0] rfl)
    · have h := ifp c1 h
      refine lv_aload_n hx hb dX1_tag_25 rfl (lv_at hl 0 rfl) ?_
      obtain ⟨v8, h1, h⟩ := ob h
      refine rgn_1_0 hx hb hts hown hE hM qw_204 h1 dX1_tag_26 ?_
      refine lv_aload_n hx hb dX1_tag_29 rfl (lv_at hl 0 rfl) ?_
      obtain ⟨v9, h1, h⟩ := ob h
      refine rg_1_4 hx hb hts hown hE hM qw_208 h1 dX1_tag_30 ?_
      obtain ⟨v10, h1, h⟩ := ob h
      refine r_cald hx hb hE hM h1 dX1_tag_33 ?_
      refine lv_bipush (v := 113) hx hb dX1_tag_34 (by decide) ?_
      refine lv_icmp_lt (tgt := 46) hx hb dX1_tag_36 (by decide) (fun c1 => ?_) (fun c1 => ?_)
      · have h := ifp c1 h
        refine lv_aload_n hx hb dX1_tag_46 rfl (lv_at hl 0 rfl) ?_
        obtain ⟨v11, h1, h⟩ := ob h
        refine rgn_1_0 hx hb hts hown hE hM qw_204 h1 dX1_tag_47 ?_
        refine lv_aload_n hx hb dX1_tag_50 rfl (lv_at hl 0 rfl) ?_
        obtain ⟨v12, h1, h⟩ := ob h
        refine rg_1_4 hx hb hts hown hE hM qw_208 h1 dX1_tag_51 ?_
        obtain ⟨v13, h1, h⟩ := ob h
        refine r_cald hx hb hE hM h1 dX1_tag_54 ?_
        refine lv_bipush (v := 97) hx hb dX1_tag_55 (by decide) ?_
        refine lv_isub hx hb dX1_tag_57 ?_
        cases h
        exact eI hx hb hr hlocks hM hS dX1_tag_58 (Nat.le_of_ble_eq_true rfl) (Nat.le_of_ble_eq_true rfl)
      · have h := ifn c1 h
        refine W.widen (k := 0) (n := 0) (Nat.le_of_ble_eq_true rfl) (Nat.le_of_ble_eq_true rfl) ?_
        exact tj_X1_tag_39  hC hr hlocks hE  h hM hS (lv_sub hl [0] rfl)

theorem dd_X1_runAdd : yX1_runAdd.cls = RX1 ∧ yX1_runAdd.cls ≠ "java/lang/invoke/MethodHandle" ∧ yX1_runAdd.cls ≠ "java/lang/invoke/VarHandle" ∧ (parseMethodDescriptor yX1_runAdd.desc).map (fun d => d.parameters.length) = some 0 := by decide +kernel
abbrev rm_X1_runAdd : Room := ({ frames := 3, cells := 0, slots := 0, locals := 70 } : Room)
noncomputable def fj_X1_runAdd_41  (M : Mem) : Option Mem :=
  some M
set_option maxHeartbeats 4000000 in
set_option maxRecDepth 100000 in
theorem tj_X1_runAdd_41 {p : Program} {l : Launch} {e : Env} {s : State} {m : MethodId} {args : Array Value} {below : List Frame} {meth : Method} {c : Code} {E : KEnv} {H : Heap} {locs : List Loc} {ls : Array Slot}  {M : Mem} {M' : Mem} (hC : CallFix p m c cX1_runAdd 3 s args lw_G RX1) (hr : meth.sig.returnType = none) (hlocks : meth.locks = false) (hE : EnvOK E s) (h : fj_X1_runAdd_41  M = some M') (hM : MOK E M H) (hS : va_S (eA E) s.heap H locs) (hl : lv_has ls 3 []) : W p l e rm_X1_runAdd s m args below meth c H locs 0 0 (MQ below (cQ E none M') args s 0 0 (eA E)) (F0 m 41 ls []) := by
  obtain ⟨hx, hb, hml, hown, hts⟩ := id hC
  unfold fj_X1_runAdd_41 at h
  cases h
  exact eV_ hx hb hr hlocks hM hS dX1_runAdd_41 (Nat.le_of_ble_eq_true rfl) (Nat.le_of_ble_eq_true rfl)
noncomputable def f_X1_runAdd (this : Nat) (M : Mem) : Option Mem :=
  (gRn 2 34 this M).bind fun v1 =>
  (gI 4 96 v1 M).bind fun v2 =>
  bn (cK 2 this M (f_X1_number this 0 (v2 - 1) M)) fun v3 M4 =>
  bn (cK 2 this M4 (f_X1_tag this M4)) fun v5 M6 =>
  bn (cK 2 this M6 (f_X1_failed this M6)) fun v7 M8 =>
  (if v7 = 0 then
  (gRn 2 34 this M8).bind fun v9 =>
  (gRn 4 100 v9 M8).bind fun v10 =>
  (gBn 10 v10 v3 M8).bind fun v11 =>
  (cK 3 v11 M8 (f_X2_putTag v11 v3 v5 M8)).bind fun M13 =>
  fj_X1_runAdd_41 M13
  else
  fj_X1_runAdd_41 M8)
set_option maxHeartbeats 4000000 in
set_option maxRecDepth 100000 in
theorem mt_X1_runAdd (l : Launch) (E : KEnv) (this : Nat) (M M' : Mem) (h : f_X1_runAdd this M = some M') : Met l yX1_runAdd (Cond.code yX1_runAdd cX1_runAdd 3 none :: lw_G) rm_X1_runAdd (cPc E [.ref this] M) (cQ E none M') 0 0 (eA E) := by
  refine Met.ofW (cc := cX1_runAdd) (maxL := 3) (ret := none) (by decide) rfl ?_
  intro p e s m args below meth c s₁ B hml hv
  obtain ⟨rfl, hE, hM⟩ := hv
  have hx := B.exec
  have hb := B.bytes
  have hr := B.returns
  have hts0 := atoms_spec (ws := Cond.code yX1_runAdd cX1_runAdd 3 none :: lw_G) B.pre
  have hts : ∀ w ∈ lw_G, w.before _ s = true := fun w hw => hts0 w (List.mem_cons_of_mem _ hw)
  have hown : s.vm.findClass RX1 = some m.cls := findClass_of_methodNamed B.named
  have hlocks := B.notSynchronized
  have hC : CallFix p m c cX1_runAdd 3 s _ lw_G RX1 := ⟨hx, hb, hml, hown, hts⟩
  have hS : va_S (eA E) s.heap s.heap [] := va_S.rf
  have hl := lv_entry ([.ref this]) (n := 3) (Nat.le_of_ble_eq_true rfl)
  rw [lg_entry_eq]
  generalize (lg_sl ([.ref this]) ++ List.replicate (3 - (lg_sl ([.ref this])).length) Slot.unset).toArray = ls at hl ⊢
  have hl : lv_has ls 3 [(0, .ref this)] := hl
  unfold f_X1_runAdd at h
  show W p l e rm_X1_runAdd s m _ below meth c s.heap [] 0 0 _ _
  refine lv_aload_n hx hb dX1_runAdd_0 rfl (lv_at hl 0 rfl) ?_
  refine lv_iconst (v := 0) hx hb dX1_runAdd_1 (by decide) ?_
  refine lv_aload_n hx hb dX1_runAdd_2 rfl (lv_at hl 0 rfl) ?_
  obtain ⟨v1, h1, h⟩ := ob h
  refine rgn_1_2 hx hb hts hown hE hM qw_206 h1 dX1_runAdd_3 ?_
  obtain ⟨v2, h1, h⟩ := ob h
  refine rg_3_0 hx hb hts hown hE hM qw_90 h1 dX1_runAdd_6 ?_
  refine lv_iconst (v := 1) hx hb dX1_runAdd_9 (by decide) ?_
  refine lv_isub hx hb dX1_runAdd_10 ?_
  obtain ⟨v3, M4, h1, h⟩ := ob2 h
  obtain ⟨hk1, h1⟩ := ifg h1
  refine kV1 (ci := 1) (As := [.int 0, .int (v2 - 1)]) (rest := []) hC hE hS hM (mt_X1_number _ E this 0 (v2 - 1) _ _ _ h1) (gwV qw_284 qw_286 qw_5 qw_43 qw_287) ⟨rfl, rfl, (Nat.le_of_ble_eq_true rfl), (Nat.le_of_ble_eq_true rfl)⟩ dd_X1_number rfl hk1 rfl rfl hl.1 (Nat.le_of_ble_eq_true rfl) dX1_runAdd_11 ⟨(Nat.le_of_ble_eq_true rfl), (Nat.le_of_ble_eq_true rfl)⟩ (fun H locs hM hS => ?_)
  refine lv_istore_n (lv' := [(1, .int v3), (0, .ref this)]) hx hb dX1_runAdd_14 rfl hl (by decide) rfl (fun ls hl => ?_)
  refine lv_aload_n hx hb dX1_runAdd_15 rfl (lv_at hl 1 rfl) ?_
  obtain ⟨v5, M6, h1, h⟩ := ob2 h
  obtain ⟨hk1, h1⟩ := ifg h1
  refine kV1 (ci := 1) (As := []) (rest := []) hC hE hS hM (mt_X1_tag _ E this _ _ _ h1) (gwV qw_319 qw_321 qw_10 qw_43 qw_322) ⟨rfl, rfl, (Nat.le_of_ble_eq_true rfl), (Nat.le_of_ble_eq_true rfl)⟩ dd_X1_tag rfl hk1 rfl rfl hl.1 (Nat.le_of_ble_eq_true rfl) dX1_runAdd_16 ⟨(Nat.le_of_ble_eq_true rfl), (Nat.le_of_ble_eq_true rfl)⟩ (fun H locs hM hS => ?_)
  refine lv_istore_n (lv' := [(2, .int v5), (1, .int v3), (0, .ref this)]) hx hb dX1_runAdd_19 rfl hl (by decide) rfl (fun ls hl => ?_)
  refine lv_aload_n hx hb dX1_runAdd_20 rfl (lv_at hl 2 rfl) ?_
  obtain ⟨v7, M8, h1, h⟩ := ob2 h
  obtain ⟨hk1, h1⟩ := ifg h1
  refine kV1 (ci := 1) (As := []) (rest := []) hC hE hS hM (mt_X1_failed _ E this _ _ _ h1) (gwV qw_244 qw_246 qw_2 qw_43 qw_247) ⟨rfl, rfl, (Nat.le_of_ble_eq_true rfl), (Nat.le_of_ble_eq_true rfl)⟩ dd_X1_failed rfl hk1 rfl rfl hl.1 (Nat.le_of_ble_eq_true rfl) dX1_runAdd_21 ⟨(Nat.le_of_ble_eq_true rfl), (Nat.le_of_ble_eq_true rfl)⟩ (fun H locs hM hS => ?_)
  refine lv_if_ne (tgt := 41) hx hb dX1_runAdd_24 (by decide) (fun c1 => ?_) (fun c1 => ?_)
  · have h := ifn c1 h
    refine W.widen (k := 0) (n := 0) (Nat.le_of_ble_eq_true rfl) (Nat.le_of_ble_eq_true rfl) ?_
    exact tj_X1_runAdd_41  hC hr hlocks hE  h hM hS (lv_sub hl [] rfl)
  · have h := ifp c1 h
    refine lv_aload_n hx hb dX1_runAdd_27 rfl (lv_at hl 2 rfl) ?_
    obtain ⟨v9, h1, h⟩ := ob h
    refine rgn_1_2 hx hb hts hown hE hM qw_206 h1 dX1_runAdd_28 ?_
    obtain ⟨v10, h1, h⟩ := ob h
    refine rgn_3_4 hx hb hts hown hE hM qw_101 h1 dX1_runAdd_31 ?_
    refine lv_iload_n hx hb dX1_runAdd_34 rfl (lv_at hl 1 rfl) ?_
    obtain ⟨v11, h1, h⟩ := ob h
    refine r_aldnS hx hb hE hM h1 dX1_runAdd_35 ?_
    refine lv_iload_n hx hb dX1_runAdd_36 rfl (lv_at hl 1 rfl) ?_
    refine lv_iload_n hx hb dX1_runAdd_37 rfl (lv_at hl 0 rfl) ?_
    obtain ⟨M13, h1, h⟩ := ob h
    obtain ⟨hk1, h1⟩ := ifg h1
    refine kV0 (ci := 2) (As := [.int v3, .int v5]) (rest := []) hC hE hS hM (mt_X2_putTag _ E v11 v3 v5 _ _ h1) (gwV qw_323 qw_324 qw_325 qw_41 qw_326) ⟨rfl, rfl, (Nat.le_of_ble_eq_true rfl), (Nat.le_of_ble_eq_true rfl)⟩ dd_X2_putTag rfl hk1 rfl rfl hl.1 (Nat.le_of_ble_eq_true rfl) dX1_runAdd_38 ⟨(Nat.le_of_ble_eq_true rfl), (Nat.le_of_ble_eq_true rfl)⟩ (fun H locs hM hS => ?_)
    refine W.widen (k := 0) (n := 0) (Nat.le_of_ble_eq_true rfl) (Nat.le_of_ble_eq_true rfl) ?_
    exact tj_X1_runAdd_41  hC hr hlocks hE  h hM hS (lv_sub hl [] rfl)

theorem dd_X1_runCounterLine : yX1_runCounterLine.cls = RX1 ∧ yX1_runCounterLine.cls ≠ "java/lang/invoke/MethodHandle" ∧ yX1_runCounterLine.cls ≠ "java/lang/invoke/VarHandle" ∧ (parseMethodDescriptor yX1_runCounterLine.desc).map (fun d => d.parameters.length) = some 1 := by decide +kernel
abbrev rm_X1_runCounterLine : Room := ({ frames := 3, cells := 0, slots := 0, locals := 68 } : Room)
noncomputable def fj_X1_runCounterLine_63  (M : Mem) : Option Mem :=
  some M
set_option maxHeartbeats 4000000 in
set_option maxRecDepth 100000 in
theorem tj_X1_runCounterLine_63 {p : Program} {l : Launch} {e : Env} {s : State} {m : MethodId} {args : Array Value} {below : List Frame} {meth : Method} {c : Code} {E : KEnv} {H : Heap} {locs : List Loc} {ls : Array Slot}  {M : Mem} {M' : Mem} (hC : CallFix p m c cX1_runCounterLine 5 s args lw_G RX1) (hr : meth.sig.returnType = none) (hlocks : meth.locks = false) (hE : EnvOK E s) (h : fj_X1_runCounterLine_63  M = some M') (hM : MOK E M H) (hS : va_S (eA E) s.heap H locs) (hl : lv_has ls 5 []) : W p l e rm_X1_runCounterLine s m args below meth c H locs 0 0 (MQ below (cQ E none M') args s 0 0 (eA E)) (F0 m 63 ls []) := by
  obtain ⟨hx, hb, hml, hown, hts⟩ := id hC
  unfold fj_X1_runCounterLine_63 at h
  cases h
  exact eV_ hx hb hr hlocks hM hS dX1_runCounterLine_63 (Nat.le_of_ble_eq_true rfl) (Nat.le_of_ble_eq_true rfl)
noncomputable def f_X1_runCounterLine (this : Nat) (a1 : Int32) (M : Mem) : Option Mem :=
  (gRn 2 34 this M).bind fun v1 =>
  (gI 4 96 v1 M).bind fun v2 =>
  bn (cK 2 this M (f_X1_number this 0 (v2 - 1) M)) fun v3 M4 =>
  (gRn 2 34 this M4).bind fun v5 =>
  (gI 4 97 v5 M4).bind fun v6 =>
  bn (cK 2 this M4 (f_X1_number this 0 (v6 - 1) M4)) fun v7 M8 =>
  bn (cK 2 this M8 (f_X1_number this 1 99 M8)) fun v9 M10 =>
  bn (cK 2 this M10 (f_X1_failed this M10)) fun v11 M12 =>
  (if v11 = 0 then
  (gRn 2 34 this M12).bind fun v13 =>
  (gRn 4 100 v13 M12).bind fun v14 =>
  (gBn 10 v14 v3 M12).bind fun v15 =>
  (cK 3 v15 M12 (f_X2_addToSum v15 a1 v7 v3 v9 M12)).bind fun M17 =>
  fj_X1_runCounterLine_63 M17
  else
  fj_X1_runCounterLine_63 M12)
set_option maxHeartbeats 4000000 in
set_option maxRecDepth 100000 in
theorem mt_X1_runCounterLine (l : Launch) (E : KEnv) (this : Nat) (a1 : Int32) (M M' : Mem) (h : f_X1_runCounterLine this a1 M = some M') : Met l yX1_runCounterLine (Cond.code yX1_runCounterLine cX1_runCounterLine 5 none :: lw_G) rm_X1_runCounterLine (cPc E [.ref this, .int a1] M) (cQ E none M') 0 0 (eA E) := by
  refine Met.ofW (cc := cX1_runCounterLine) (maxL := 5) (ret := none) (by decide) rfl ?_
  intro p e s m args below meth c s₁ B hml hv
  obtain ⟨rfl, hE, hM⟩ := hv
  have hx := B.exec
  have hb := B.bytes
  have hr := B.returns
  have hts0 := atoms_spec (ws := Cond.code yX1_runCounterLine cX1_runCounterLine 5 none :: lw_G) B.pre
  have hts : ∀ w ∈ lw_G, w.before _ s = true := fun w hw => hts0 w (List.mem_cons_of_mem _ hw)
  have hown : s.vm.findClass RX1 = some m.cls := findClass_of_methodNamed B.named
  have hlocks := B.notSynchronized
  have hC : CallFix p m c cX1_runCounterLine 5 s _ lw_G RX1 := ⟨hx, hb, hml, hown, hts⟩
  have hS : va_S (eA E) s.heap s.heap [] := va_S.rf
  have hl := lv_entry ([.ref this, .int a1]) (n := 5) (Nat.le_of_ble_eq_true rfl)
  rw [lg_entry_eq]
  generalize (lg_sl ([.ref this, .int a1]) ++ List.replicate (5 - (lg_sl ([.ref this, .int a1])).length) Slot.unset).toArray = ls at hl ⊢
  have hl : lv_has ls 5 [(0, .ref this), (1, .int a1)] := hl
  unfold f_X1_runCounterLine at h
  show W p l e rm_X1_runCounterLine s m _ below meth c s.heap [] 0 0 _ _
  refine lv_aload_n hx hb dX1_runCounterLine_0 rfl (lv_at hl 0 rfl) ?_
  refine lv_iconst (v := 0) hx hb dX1_runCounterLine_1 (by decide) ?_
  refine lv_aload_n hx hb dX1_runCounterLine_2 rfl (lv_at hl 0 rfl) ?_
  obtain ⟨v1, h1, h⟩ := ob h
  refine rgn_1_2 hx hb hts hown hE hM qw_206 h1 dX1_runCounterLine_3 ?_
  obtain ⟨v2, h1, h⟩ := ob h
  refine rg_3_0 hx hb hts hown hE hM qw_90 h1 dX1_runCounterLine_6 ?_
  refine lv_iconst (v := 1) hx hb dX1_runCounterLine_9 (by decide) ?_
  refine lv_isub hx hb dX1_runCounterLine_10 ?_
  obtain ⟨v3, M4, h1, h⟩ := ob2 h
  obtain ⟨hk1, h1⟩ := ifg h1
  refine kV1 (ci := 1) (As := [.int 0, .int (v2 - 1)]) (rest := []) hC hE hS hM (mt_X1_number _ E this 0 (v2 - 1) _ _ _ h1) (gwV qw_284 qw_286 qw_5 qw_43 qw_287) ⟨rfl, rfl, (Nat.le_of_ble_eq_true rfl), (Nat.le_of_ble_eq_true rfl)⟩ dd_X1_number rfl hk1 rfl rfl hl.1 (Nat.le_of_ble_eq_true rfl) dX1_runCounterLine_11 ⟨(Nat.le_of_ble_eq_true rfl), (Nat.le_of_ble_eq_true rfl)⟩ (fun H locs hM hS => ?_)
  refine lv_istore_n (lv' := [(2, .int v3), (0, .ref this), (1, .int a1)]) hx hb dX1_runCounterLine_14 rfl hl (by decide) rfl (fun ls hl => ?_)
  refine lv_aload_n hx hb dX1_runCounterLine_15 rfl (lv_at hl 1 rfl) ?_
  refine lv_iconst (v := 0) hx hb dX1_runCounterLine_16 (by decide) ?_
  refine lv_aload_n hx hb dX1_runCounterLine_17 rfl (lv_at hl 1 rfl) ?_
  obtain ⟨v5, h1, h⟩ := ob h
  refine rgn_1_2 hx hb hts hown hE hM qw_206 h1 dX1_runCounterLine_18 ?_
  obtain ⟨v6, h1, h⟩ := ob h
  refine rg_3_1 hx hb hts hown hE hM qw_92 h1 dX1_runCounterLine_21 ?_
  refine lv_iconst (v := 1) hx hb dX1_runCounterLine_24 (by decide) ?_
  refine lv_isub hx hb dX1_runCounterLine_25 ?_
  obtain ⟨v7, M8, h1, h⟩ := ob2 h
  obtain ⟨hk1, h1⟩ := ifg h1
  refine kV1 (ci := 1) (As := [.int 0, .int (v6 - 1)]) (rest := []) hC hE hS hM (mt_X1_number _ E this 0 (v6 - 1) _ _ _ h1) (gwV qw_284 qw_286 qw_5 qw_43 qw_287) ⟨rfl, rfl, (Nat.le_of_ble_eq_true rfl), (Nat.le_of_ble_eq_true rfl)⟩ dd_X1_number rfl hk1 rfl rfl hl.1 (Nat.le_of_ble_eq_true rfl) dX1_runCounterLine_26 ⟨(Nat.le_of_ble_eq_true rfl), (Nat.le_of_ble_eq_true rfl)⟩ (fun H locs hM hS => ?_)
  refine lv_istore_n (lv' := [(3, .int v7), (2, .int v3), (0, .ref this), (1, .int a1)]) hx hb dX1_runCounterLine_29 rfl hl (by decide) rfl (fun ls hl => ?_)
  refine lv_aload_n hx hb dX1_runCounterLine_30 rfl (lv_at hl 2 rfl) ?_
  refine lv_iconst (v := 1) hx hb dX1_runCounterLine_31 (by decide) ?_
  refine lv_bipush (v := 99) hx hb dX1_runCounterLine_32 (by decide) ?_
  obtain ⟨v9, M10, h1, h⟩ := ob2 h
  obtain ⟨hk1, h1⟩ := ifg h1
  refine kV1 (ci := 1) (As := [.int 1, .int 99]) (rest := []) hC hE hS hM (mt_X1_number _ E this 1 99 _ _ _ h1) (gwV qw_284 qw_286 qw_5 qw_43 qw_287) ⟨rfl, rfl, (Nat.le_of_ble_eq_true rfl), (Nat.le_of_ble_eq_true rfl)⟩ dd_X1_number rfl hk1 rfl rfl hl.1 (Nat.le_of_ble_eq_true rfl) dX1_runCounterLine_34 ⟨(Nat.le_of_ble_eq_true rfl), (Nat.le_of_ble_eq_true rfl)⟩ (fun H locs hM hS => ?_)
  refine lv_istore (lv' := [(4, .int v9), (3, .int v7), (2, .int v3), (0, .ref this), (1, .int a1)]) hx hb dX1_runCounterLine_37 hl (by decide) rfl (fun ls hl => ?_)
  refine lv_aload_n hx hb dX1_runCounterLine_39 rfl (lv_at hl 3 rfl) ?_
  obtain ⟨v11, M12, h1, h⟩ := ob2 h
  obtain ⟨hk1, h1⟩ := ifg h1
  refine kV1 (ci := 1) (As := []) (rest := []) hC hE hS hM (mt_X1_failed _ E this _ _ _ h1) (gwV qw_244 qw_246 qw_2 qw_43 qw_247) ⟨rfl, rfl, (Nat.le_of_ble_eq_true rfl), (Nat.le_of_ble_eq_true rfl)⟩ dd_X1_failed rfl hk1 rfl rfl hl.1 (Nat.le_of_ble_eq_true rfl) dX1_runCounterLine_40 ⟨(Nat.le_of_ble_eq_true rfl), (Nat.le_of_ble_eq_true rfl)⟩ (fun H locs hM hS => ?_)
  refine lv_if_ne (tgt := 63) hx hb dX1_runCounterLine_43 (by decide) (fun c1 => ?_) (fun c1 => ?_)
  · have h := ifn c1 h
    refine W.widen (k := 0) (n := 0) (Nat.le_of_ble_eq_true rfl) (Nat.le_of_ble_eq_true rfl) ?_
    exact tj_X1_runCounterLine_63  hC hr hlocks hE  h hM hS (lv_sub hl [] rfl)
  · have h := ifp c1 h
    refine lv_aload_n hx hb dX1_runCounterLine_46 rfl (lv_at hl 3 rfl) ?_
    obtain ⟨v13, h1, h⟩ := ob h
    refine rgn_1_2 hx hb hts hown hE hM qw_206 h1 dX1_runCounterLine_47 ?_
    obtain ⟨v14, h1, h⟩ := ob h
    refine rgn_3_4 hx hb hts hown hE hM qw_101 h1 dX1_runCounterLine_50 ?_
    refine lv_iload_n hx hb dX1_runCounterLine_53 rfl (lv_at hl 2 rfl) ?_
    obtain ⟨v15, h1, h⟩ := ob h
    refine r_aldnS hx hb hE hM h1 dX1_runCounterLine_54 ?_
    refine lv_iload_n hx hb dX1_runCounterLine_55 rfl (lv_at hl 4 rfl) ?_
    refine lv_iload_n hx hb dX1_runCounterLine_56 rfl (lv_at hl 1 rfl) ?_
    refine lv_iload_n hx hb dX1_runCounterLine_57 rfl (lv_at hl 2 rfl) ?_
    refine lv_iload hx hb dX1_runCounterLine_58 (lv_at hl 0 rfl) ?_
    obtain ⟨M17, h1, h⟩ := ob h
    obtain ⟨hk1, h1⟩ := ifg h1
    refine kV0 (ci := 2) (As := [.int a1, .int v7, .int v3, .int v9]) (rest := []) hC hE hS hM (mt_X2_addToSum _ E v15 a1 v7 v3 v9 _ _ h1) (gwV qw_309 qw_310 qw_311 qw_41 qw_312) ⟨rfl, rfl, (Nat.le_of_ble_eq_true rfl), (Nat.le_of_ble_eq_true rfl)⟩ dd_X2_addToSum rfl hk1 rfl rfl hl.1 (Nat.le_of_ble_eq_true rfl) dX1_runCounterLine_60 ⟨(Nat.le_of_ble_eq_true rfl), (Nat.le_of_ble_eq_true rfl)⟩ (fun H locs hM hS => ?_)
    refine W.widen (k := 0) (n := 0) (Nat.le_of_ble_eq_true rfl) (Nat.le_of_ble_eq_true rfl) ?_
    exact tj_X1_runCounterLine_63  hC hr hlocks hE  h hM hS (lv_sub hl [] rfl)

theorem dd_X1_runDeliver : yX1_runDeliver.cls = RX1 ∧ yX1_runDeliver.cls ≠ "java/lang/invoke/MethodHandle" ∧ yX1_runDeliver.cls ≠ "java/lang/invoke/VarHandle" ∧ (parseMethodDescriptor yX1_runDeliver.desc).map (fun d => d.parameters.length) = some 0 := by decide +kernel
abbrev rm_X1_runDeliver : Room := ({ frames := 3, cells := 0, slots := 0, locals := 70 } : Room)
noncomputable def fj_X1_runDeliver_58  (M : Mem) : Option Mem :=
  some M
set_option maxHeartbeats 4000000 in
set_option maxRecDepth 100000 in
theorem tj_X1_runDeliver_58 {p : Program} {l : Launch} {e : Env} {s : State} {m : MethodId} {args : Array Value} {below : List Frame} {meth : Method} {c : Code} {E : KEnv} {H : Heap} {locs : List Loc} {ls : Array Slot}  {M : Mem} {M' : Mem} (hC : CallFix p m c cX1_runDeliver 3 s args lw_G RX1) (hr : meth.sig.returnType = none) (hlocks : meth.locks = false) (hE : EnvOK E s) (h : fj_X1_runDeliver_58  M = some M') (hM : MOK E M H) (hS : va_S (eA E) s.heap H locs) (hl : lv_has ls 3 []) : W p l e rm_X1_runDeliver s m args below meth c H locs 0 0 (MQ below (cQ E none M') args s 0 0 (eA E)) (F0 m 58 ls []) := by
  obtain ⟨hx, hb, hml, hown, hts⟩ := id hC
  unfold fj_X1_runDeliver_58 at h
  cases h
  exact eV_ hx hb hr hlocks hM hS dX1_runDeliver_58 (Nat.le_of_ble_eq_true rfl) (Nat.le_of_ble_eq_true rfl)
noncomputable def f_X1_runDeliver (this : Nat) (M : Mem) : Option Mem :=
  (gRn 2 34 this M).bind fun v1 =>
  (gI 4 99 v1 M).bind fun v2 =>
  bn (cK 2 this M (f_X1_number this 0 (v2 - 1) M)) fun v3 M4 =>
  (gRn 2 34 this M4).bind fun v5 =>
  (gI 4 96 v5 M4).bind fun v6 =>
  bn (cK 2 this M4 (f_X1_number this 0 (v6 - 1) M4)) fun v7 M8 =>
  bn (cK 2 this M8 (f_X1_failed this M8)) fun v9 M10 =>
  (if v9 = 0 then
  (gRn 2 34 this M10).bind fun v11 =>
  (gRn 4 100 v11 M10).bind fun v12 =>
  (gBn 10 v12 v7 M10).bind fun v13 =>
  (gRn 2 34 this M10).bind fun v14 =>
  (gRn 4 101 v14 M10).bind fun v15 =>
  (gBn 10 v15 v3 M10).bind fun v16 =>
  (cK 3 v13 M10 (f_X2_absorb v13 v16 M10)).bind fun M18 =>
  fj_X1_runDeliver_58 M18
  else
  fj_X1_runDeliver_58 M10)
set_option maxHeartbeats 4000000 in
set_option maxRecDepth 100000 in
theorem mt_X1_runDeliver (l : Launch) (E : KEnv) (this : Nat) (M M' : Mem) (h : f_X1_runDeliver this M = some M') : Met l yX1_runDeliver (Cond.code yX1_runDeliver cX1_runDeliver 3 none :: lw_G) rm_X1_runDeliver (cPc E [.ref this] M) (cQ E none M') 0 0 (eA E) := by
  refine Met.ofW (cc := cX1_runDeliver) (maxL := 3) (ret := none) (by decide) rfl ?_
  intro p e s m args below meth c s₁ B hml hv
  obtain ⟨rfl, hE, hM⟩ := hv
  have hx := B.exec
  have hb := B.bytes
  have hr := B.returns
  have hts0 := atoms_spec (ws := Cond.code yX1_runDeliver cX1_runDeliver 3 none :: lw_G) B.pre
  have hts : ∀ w ∈ lw_G, w.before _ s = true := fun w hw => hts0 w (List.mem_cons_of_mem _ hw)
  have hown : s.vm.findClass RX1 = some m.cls := findClass_of_methodNamed B.named
  have hlocks := B.notSynchronized
  have hC : CallFix p m c cX1_runDeliver 3 s _ lw_G RX1 := ⟨hx, hb, hml, hown, hts⟩
  have hS : va_S (eA E) s.heap s.heap [] := va_S.rf
  have hl := lv_entry ([.ref this]) (n := 3) (Nat.le_of_ble_eq_true rfl)
  rw [lg_entry_eq]
  generalize (lg_sl ([.ref this]) ++ List.replicate (3 - (lg_sl ([.ref this])).length) Slot.unset).toArray = ls at hl ⊢
  have hl : lv_has ls 3 [(0, .ref this)] := hl
  unfold f_X1_runDeliver at h
  show W p l e rm_X1_runDeliver s m _ below meth c s.heap [] 0 0 _ _
  refine lv_aload_n hx hb dX1_runDeliver_0 rfl (lv_at hl 0 rfl) ?_
  refine lv_iconst (v := 0) hx hb dX1_runDeliver_1 (by decide) ?_
  refine lv_aload_n hx hb dX1_runDeliver_2 rfl (lv_at hl 0 rfl) ?_
  obtain ⟨v1, h1, h⟩ := ob h
  refine rgn_1_2 hx hb hts hown hE hM qw_206 h1 dX1_runDeliver_3 ?_
  obtain ⟨v2, h1, h⟩ := ob h
  refine rg_3_3 hx hb hts hown hE hM qw_98 h1 dX1_runDeliver_6 ?_
  refine lv_iconst (v := 1) hx hb dX1_runDeliver_9 (by decide) ?_
  refine lv_isub hx hb dX1_runDeliver_10 ?_
  obtain ⟨v3, M4, h1, h⟩ := ob2 h
  obtain ⟨hk1, h1⟩ := ifg h1
  refine kV1 (ci := 1) (As := [.int 0, .int (v2 - 1)]) (rest := []) hC hE hS hM (mt_X1_number _ E this 0 (v2 - 1) _ _ _ h1) (gwV qw_284 qw_286 qw_5 qw_43 qw_287) ⟨rfl, rfl, (Nat.le_of_ble_eq_true rfl), (Nat.le_of_ble_eq_true rfl)⟩ dd_X1_number rfl hk1 rfl rfl hl.1 (Nat.le_of_ble_eq_true rfl) dX1_runDeliver_11 ⟨(Nat.le_of_ble_eq_true rfl), (Nat.le_of_ble_eq_true rfl)⟩ (fun H locs hM hS => ?_)
  refine lv_istore_n (lv' := [(1, .int v3), (0, .ref this)]) hx hb dX1_runDeliver_14 rfl hl (by decide) rfl (fun ls hl => ?_)
  refine lv_aload_n hx hb dX1_runDeliver_15 rfl (lv_at hl 1 rfl) ?_
  refine lv_iconst (v := 0) hx hb dX1_runDeliver_16 (by decide) ?_
  refine lv_aload_n hx hb dX1_runDeliver_17 rfl (lv_at hl 1 rfl) ?_
  obtain ⟨v5, h1, h⟩ := ob h
  refine rgn_1_2 hx hb hts hown hE hM qw_206 h1 dX1_runDeliver_18 ?_
  obtain ⟨v6, h1, h⟩ := ob h
  refine rg_3_0 hx hb hts hown hE hM qw_90 h1 dX1_runDeliver_21 ?_
  refine lv_iconst (v := 1) hx hb dX1_runDeliver_24 (by decide) ?_
  refine lv_isub hx hb dX1_runDeliver_25 ?_
  obtain ⟨v7, M8, h1, h⟩ := ob2 h
  obtain ⟨hk1, h1⟩ := ifg h1
  refine kV1 (ci := 1) (As := [.int 0, .int (v6 - 1)]) (rest := []) hC hE hS hM (mt_X1_number _ E this 0 (v6 - 1) _ _ _ h1) (gwV qw_284 qw_286 qw_5 qw_43 qw_287) ⟨rfl, rfl, (Nat.le_of_ble_eq_true rfl), (Nat.le_of_ble_eq_true rfl)⟩ dd_X1_number rfl hk1 rfl rfl hl.1 (Nat.le_of_ble_eq_true rfl) dX1_runDeliver_26 ⟨(Nat.le_of_ble_eq_true rfl), (Nat.le_of_ble_eq_true rfl)⟩ (fun H locs hM hS => ?_)
  refine lv_istore_n (lv' := [(2, .int v7), (1, .int v3), (0, .ref this)]) hx hb dX1_runDeliver_29 rfl hl (by decide) rfl (fun ls hl => ?_)
  refine lv_aload_n hx hb dX1_runDeliver_30 rfl (lv_at hl 2 rfl) ?_
  obtain ⟨v9, M10, h1, h⟩ := ob2 h
  obtain ⟨hk1, h1⟩ := ifg h1
  refine kV1 (ci := 1) (As := []) (rest := []) hC hE hS hM (mt_X1_failed _ E this _ _ _ h1) (gwV qw_244 qw_246 qw_2 qw_43 qw_247) ⟨rfl, rfl, (Nat.le_of_ble_eq_true rfl), (Nat.le_of_ble_eq_true rfl)⟩ dd_X1_failed rfl hk1 rfl rfl hl.1 (Nat.le_of_ble_eq_true rfl) dX1_runDeliver_31 ⟨(Nat.le_of_ble_eq_true rfl), (Nat.le_of_ble_eq_true rfl)⟩ (fun H locs hM hS => ?_)
  refine lv_if_ne (tgt := 58) hx hb dX1_runDeliver_34 (by decide) (fun c1 => ?_) (fun c1 => ?_)
  · have h := ifn c1 h
    refine W.widen (k := 0) (n := 0) (Nat.le_of_ble_eq_true rfl) (Nat.le_of_ble_eq_true rfl) ?_
    exact tj_X1_runDeliver_58  hC hr hlocks hE  h hM hS (lv_sub hl [] rfl)
  · have h := ifp c1 h
    refine lv_aload_n hx hb dX1_runDeliver_37 rfl (lv_at hl 2 rfl) ?_
    obtain ⟨v11, h1, h⟩ := ob h
    refine rgn_1_2 hx hb hts hown hE hM qw_206 h1 dX1_runDeliver_38 ?_
    obtain ⟨v12, h1, h⟩ := ob h
    refine rgn_3_4 hx hb hts hown hE hM qw_101 h1 dX1_runDeliver_41 ?_
    refine lv_iload_n hx hb dX1_runDeliver_44 rfl (lv_at hl 0 rfl) ?_
    obtain ⟨v13, h1, h⟩ := ob h
    refine r_aldnS hx hb hE hM h1 dX1_runDeliver_45 ?_
    refine lv_aload_n hx hb dX1_runDeliver_46 rfl (lv_at hl 2 rfl) ?_
    obtain ⟨v14, h1, h⟩ := ob h
    refine rgn_1_2 hx hb hts hown hE hM qw_206 h1 dX1_runDeliver_47 ?_
    obtain ⟨v15, h1, h⟩ := ob h
    refine rgn_3_5 hx hb hts hown hE hM qw_104 h1 dX1_runDeliver_50 ?_
    refine lv_iload_n hx hb dX1_runDeliver_53 rfl (lv_at hl 1 rfl) ?_
    obtain ⟨v16, h1, h⟩ := ob h
    refine r_aldnS hx hb hE hM h1 dX1_runDeliver_54 ?_
    obtain ⟨M18, h1, h⟩ := ob h
    obtain ⟨hk1, h1⟩ := ifg h1
    refine kV0 (ci := 2) (As := [.ref v16]) (rest := []) hC hE hS hM (mt_X2_absorb _ E v13 v16 _ _ h1) (gwV qw_366 qw_367 qw_368 qw_41 qw_369) ⟨rfl, rfl, (Nat.le_of_ble_eq_true rfl), (Nat.le_of_ble_eq_true rfl)⟩ dd_X2_absorb rfl hk1 rfl rfl hl.1 (Nat.le_of_ble_eq_true rfl) dX1_runDeliver_55 ⟨(Nat.le_of_ble_eq_true rfl), (Nat.le_of_ble_eq_true rfl)⟩ (fun H locs hM hS => ?_)
    refine W.widen (k := 0) (n := 0) (Nat.le_of_ble_eq_true rfl) (Nat.le_of_ble_eq_true rfl) ?_
    exact tj_X1_runDeliver_58  hC hr hlocks hE  h hM hS (lv_sub hl [] rfl)

theorem dd_X1_runMerge : yX1_runMerge.cls = RX1 ∧ yX1_runMerge.cls ≠ "java/lang/invoke/MethodHandle" ∧ yX1_runMerge.cls ≠ "java/lang/invoke/VarHandle" ∧ (parseMethodDescriptor yX1_runMerge.desc).map (fun d => d.parameters.length) = some 0 := by decide +kernel
abbrev rm_X1_runMerge : Room := ({ frames := 3, cells := 0, slots := 0, locals := 70 } : Room)
noncomputable def fj_X1_runMerge_58  (M : Mem) : Option Mem :=
  some M
set_option maxHeartbeats 4000000 in
set_option maxRecDepth 100000 in
theorem tj_X1_runMerge_58 {p : Program} {l : Launch} {e : Env} {s : State} {m : MethodId} {args : Array Value} {below : List Frame} {meth : Method} {c : Code} {E : KEnv} {H : Heap} {locs : List Loc} {ls : Array Slot}  {M : Mem} {M' : Mem} (hC : CallFix p m c cX1_runMerge 3 s args lw_G RX1) (hr : meth.sig.returnType = none) (hlocks : meth.locks = false) (hE : EnvOK E s) (h : fj_X1_runMerge_58  M = some M') (hM : MOK E M H) (hS : va_S (eA E) s.heap H locs) (hl : lv_has ls 3 []) : W p l e rm_X1_runMerge s m args below meth c H locs 0 0 (MQ below (cQ E none M') args s 0 0 (eA E)) (F0 m 58 ls []) := by
  obtain ⟨hx, hb, hml, hown, hts⟩ := id hC
  unfold fj_X1_runMerge_58 at h
  cases h
  exact eV_ hx hb hr hlocks hM hS dX1_runMerge_58 (Nat.le_of_ble_eq_true rfl) (Nat.le_of_ble_eq_true rfl)
noncomputable def f_X1_runMerge (this : Nat) (M : Mem) : Option Mem :=
  (gRn 2 34 this M).bind fun v1 =>
  (gI 4 96 v1 M).bind fun v2 =>
  bn (cK 2 this M (f_X1_number this 0 (v2 - 1) M)) fun v3 M4 =>
  (gRn 2 34 this M4).bind fun v5 =>
  (gI 4 96 v5 M4).bind fun v6 =>
  bn (cK 2 this M4 (f_X1_number this 0 (v6 - 1) M4)) fun v7 M8 =>
  bn (cK 2 this M8 (f_X1_failed this M8)) fun v9 M10 =>
  (if v9 = 0 then
  (gRn 2 34 this M10).bind fun v11 =>
  (gRn 4 100 v11 M10).bind fun v12 =>
  (gBn 10 v12 v3 M10).bind fun v13 =>
  (gRn 2 34 this M10).bind fun v14 =>
  (gRn 4 100 v14 M10).bind fun v15 =>
  (gBn 10 v15 v7 M10).bind fun v16 =>
  (cK 3 v13 M10 (f_X2_absorb v13 v16 M10)).bind fun M18 =>
  fj_X1_runMerge_58 M18
  else
  fj_X1_runMerge_58 M10)
set_option maxHeartbeats 4000000 in
set_option maxRecDepth 100000 in
theorem mt_X1_runMerge (l : Launch) (E : KEnv) (this : Nat) (M M' : Mem) (h : f_X1_runMerge this M = some M') : Met l yX1_runMerge (Cond.code yX1_runMerge cX1_runMerge 3 none :: lw_G) rm_X1_runMerge (cPc E [.ref this] M) (cQ E none M') 0 0 (eA E) := by
  refine Met.ofW (cc := cX1_runMerge) (maxL := 3) (ret := none) (by decide) rfl ?_
  intro p e s m args below meth c s₁ B hml hv
  obtain ⟨rfl, hE, hM⟩ := hv
  have hx := B.exec
  have hb := B.bytes
  have hr := B.returns
  have hts0 := atoms_spec (ws := Cond.code yX1_runMerge cX1_runMerge 3 none :: lw_G) B.pre
  have hts : ∀ w ∈ lw_G, w.before _ s = true := fun w hw => hts0 w (List.mem_cons_of_mem _ hw)
  have hown : s.vm.findClass RX1 = some m.cls := findClass_of_methodNamed B.named
  have hlocks := B.notSynchronized
  have hC : CallFix p m c cX1_runMerge 3 s _ lw_G RX1 := ⟨hx, hb, hml, hown, hts⟩
  have hS : va_S (eA E) s.heap s.heap [] := va_S.rf
  have hl := lv_entry ([.ref this]) (n := 3) (Nat.le_of_ble_eq_true rfl)
  rw [lg_entry_eq]
  generalize (lg_sl ([.ref this]) ++ List.replicate (3 - (lg_sl ([.ref this])).length) Slot.unset).toArray = ls at hl ⊢
  have hl : lv_has ls 3 [(0, .ref this)] := hl
  unfold f_X1_runMerge at h
  show W p l e rm_X1_runMerge s m _ below meth c s.heap [] 0 0 _ _
  refine lv_aload_n hx hb dX1_runMerge_0 rfl (lv_at hl 0 rfl) ?_
  refine lv_iconst (v := 0) hx hb dX1_runMerge_1 (by decide) ?_
  refine lv_aload_n hx hb dX1_runMerge_2 rfl (lv_at hl 0 rfl) ?_
  obtain ⟨v1, h1, h⟩ := ob h
  refine rgn_1_2 hx hb hts hown hE hM qw_206 h1 dX1_runMerge_3 ?_
  obtain ⟨v2, h1, h⟩ := ob h
  refine rg_3_0 hx hb hts hown hE hM qw_90 h1 dX1_runMerge_6 ?_
  refine lv_iconst (v := 1) hx hb dX1_runMerge_9 (by decide) ?_
  refine lv_isub hx hb dX1_runMerge_10 ?_
  obtain ⟨v3, M4, h1, h⟩ := ob2 h
  obtain ⟨hk1, h1⟩ := ifg h1
  refine kV1 (ci := 1) (As := [.int 0, .int (v2 - 1)]) (rest := []) hC hE hS hM (mt_X1_number _ E this 0 (v2 - 1) _ _ _ h1) (gwV qw_284 qw_286 qw_5 qw_43 qw_287) ⟨rfl, rfl, (Nat.le_of_ble_eq_true rfl), (Nat.le_of_ble_eq_true rfl)⟩ dd_X1_number rfl hk1 rfl rfl hl.1 (Nat.le_of_ble_eq_true rfl) dX1_runMerge_11 ⟨(Nat.le_of_ble_eq_true rfl), (Nat.le_of_ble_eq_true rfl)⟩ (fun H locs hM hS => ?_)
  refine lv_istore_n (lv' := [(1, .int v3), (0, .ref this)]) hx hb dX1_runMerge_14 rfl hl (by decide) rfl (fun ls hl => ?_)
  refine lv_aload_n hx hb dX1_runMerge_15 rfl (lv_at hl 1 rfl) ?_
  refine lv_iconst (v := 0) hx hb dX1_runMerge_16 (by decide) ?_
  refine lv_aload_n hx hb dX1_runMerge_17 rfl (lv_at hl 1 rfl) ?_
  obtain ⟨v5, h1, h⟩ := ob h
  refine rgn_1_2 hx hb hts hown hE hM qw_206 h1 dX1_runMerge_18 ?_
  obtain ⟨v6, h1, h⟩ := ob h
  refine rg_3_0 hx hb hts hown hE hM qw_90 h1 dX1_runMerge_21 ?_
  refine lv_iconst (v := 1) hx hb dX1_runMerge_24 (by decide) ?_
  refine lv_isub hx hb dX1_runMerge_25 ?_
  obtain ⟨v7, M8, h1, h⟩ := ob2 h
  obtain ⟨hk1, h1⟩ := ifg h1
  refine kV1 (ci := 1) (As := [.int 0, .int (v6 - 1)]) (rest := []) hC hE hS hM (mt_X1_number _ E this 0 (v6 - 1) _ _ _ h1) (gwV qw_284 qw_286 qw_5 qw_43 qw_287) ⟨rfl, rfl, (Nat.le_of_ble_eq_true rfl), (Nat.le_of_ble_eq_true rfl)⟩ dd_X1_number rfl hk1 rfl rfl hl.1 (Nat.le_of_ble_eq_true rfl) dX1_runMerge_26 ⟨(Nat.le_of_ble_eq_true rfl), (Nat.le_of_ble_eq_true rfl)⟩ (fun H locs hM hS => ?_)
  refine lv_istore_n (lv' := [(2, .int v7), (1, .int v3), (0, .ref this)]) hx hb dX1_runMerge_29 rfl hl (by decide) rfl (fun ls hl => ?_)
  refine lv_aload_n hx hb dX1_runMerge_30 rfl (lv_at hl 2 rfl) ?_
  obtain ⟨v9, M10, h1, h⟩ := ob2 h
  obtain ⟨hk1, h1⟩ := ifg h1
  refine kV1 (ci := 1) (As := []) (rest := []) hC hE hS hM (mt_X1_failed _ E this _ _ _ h1) (gwV qw_244 qw_246 qw_2 qw_43 qw_247) ⟨rfl, rfl, (Nat.le_of_ble_eq_true rfl), (Nat.le_of_ble_eq_true rfl)⟩ dd_X1_failed rfl hk1 rfl rfl hl.1 (Nat.le_of_ble_eq_true rfl) dX1_runMerge_31 ⟨(Nat.le_of_ble_eq_true rfl), (Nat.le_of_ble_eq_true rfl)⟩ (fun H locs hM hS => ?_)
  refine lv_if_ne (tgt := 58) hx hb dX1_runMerge_34 (by decide) (fun c1 => ?_) (fun c1 => ?_)
  · have h := ifn c1 h
    refine W.widen (k := 0) (n := 0) (Nat.le_of_ble_eq_true rfl) (Nat.le_of_ble_eq_true rfl) ?_
    exact tj_X1_runMerge_58  hC hr hlocks hE  h hM hS (lv_sub hl [] rfl)
  · have h := ifp c1 h
    refine lv_aload_n hx hb dX1_runMerge_37 rfl (lv_at hl 2 rfl) ?_
    obtain ⟨v11, h1, h⟩ := ob h
    refine rgn_1_2 hx hb hts hown hE hM qw_206 h1 dX1_runMerge_38 ?_
    obtain ⟨v12, h1, h⟩ := ob h
    refine rgn_3_4 hx hb hts hown hE hM qw_101 h1 dX1_runMerge_41 ?_
    refine lv_iload_n hx hb dX1_runMerge_44 rfl (lv_at hl 1 rfl) ?_
    obtain ⟨v13, h1, h⟩ := ob h
    refine r_aldnS hx hb hE hM h1 dX1_runMerge_45 ?_
    refine lv_aload_n hx hb dX1_runMerge_46 rfl (lv_at hl 2 rfl) ?_
    obtain ⟨v14, h1, h⟩ := ob h
    refine rgn_1_2 hx hb hts hown hE hM qw_206 h1 dX1_runMerge_47 ?_
    obtain ⟨v15, h1, h⟩ := ob h
    refine rgn_3_4 hx hb hts hown hE hM qw_101 h1 dX1_runMerge_50 ?_
    refine lv_iload_n hx hb dX1_runMerge_53 rfl (lv_at hl 0 rfl) ?_
    obtain ⟨v16, h1, h⟩ := ob h
    refine r_aldnS hx hb hE hM h1 dX1_runMerge_54 ?_
    obtain ⟨M18, h1, h⟩ := ob h
    obtain ⟨hk1, h1⟩ := ifg h1
    refine kV0 (ci := 2) (As := [.ref v16]) (rest := []) hC hE hS hM (mt_X2_absorb _ E v13 v16 _ _ h1) (gwV qw_366 qw_367 qw_368 qw_41 qw_369) ⟨rfl, rfl, (Nat.le_of_ble_eq_true rfl), (Nat.le_of_ble_eq_true rfl)⟩ dd_X2_absorb rfl hk1 rfl rfl hl.1 (Nat.le_of_ble_eq_true rfl) dX1_runMerge_55 ⟨(Nat.le_of_ble_eq_true rfl), (Nat.le_of_ble_eq_true rfl)⟩ (fun H locs hM hS => ?_)
    refine W.widen (k := 0) (n := 0) (Nat.le_of_ble_eq_true rfl) (Nat.le_of_ble_eq_true rfl) ?_
    exact tj_X1_runMerge_58  hC hr hlocks hE  h hM hS (lv_sub hl [] rfl)

theorem dd_X1_runRemove : yX1_runRemove.cls = RX1 ∧ yX1_runRemove.cls ≠ "java/lang/invoke/MethodHandle" ∧ yX1_runRemove.cls ≠ "java/lang/invoke/VarHandle" ∧ (parseMethodDescriptor yX1_runRemove.desc).map (fun d => d.parameters.length) = some 0 := by decide +kernel
abbrev rm_X1_runRemove : Room := ({ frames := 3, cells := 0, slots := 0, locals := 68 } : Room)
noncomputable def fj_X1_runRemove_51 (x2 : Int32) (x3 : Nat) (M : Mem) : Option Mem :=
  (cK 3 x3 M (f_X2_clearTag x3 x2 M)).bind fun M15 =>
  some M15
set_option maxHeartbeats 4000000 in
set_option maxRecDepth 100000 in
theorem tj_X1_runRemove_51 {p : Program} {l : Launch} {e : Env} {s : State} {m : MethodId} {args : Array Value} {below : List Frame} {meth : Method} {c : Code} {E : KEnv} {H : Heap} {locs : List Loc} {ls : Array Slot} {x2 : Int32} {x3 : Nat} {M : Mem} {M' : Mem} (hC : CallFix p m c cX1_runRemove 4 s args lw_G RX1) (hr : meth.sig.returnType = none) (hlocks : meth.locks = false) (hE : EnvOK E s) (h : fj_X1_runRemove_51 x2 x3 M = some M') (hM : MOK E M H) (hS : va_S (eA E) s.heap H locs) (hl : lv_has ls 4 [(2, .int x2), (3, .ref x3)]) : W p l e rm_X1_runRemove s m args below meth c H locs 0 0 (MQ below (cQ E none M') args s 0 0 (eA E)) (F0 m 51 ls []) := by
  obtain ⟨hx, hb, hml, hown, hts⟩ := id hC
  unfold fj_X1_runRemove_51 at h
  refine lv_aload_n hx hb dX1_runRemove_51 rfl (lv_at hl 1 rfl) ?_
  refine lv_iload_n hx hb dX1_runRemove_52 rfl (lv_at hl 0 rfl) ?_
  obtain ⟨M15, h1, h⟩ := ob h
  obtain ⟨hk1, h1⟩ := ifg h1
  refine kV0 (ci := 2) (As := [.int x2]) (rest := []) hC hE hS hM (mt_X2_clearTag _ E x3 x2 _ _ h1) (gwV qw_348 qw_349 qw_350 qw_41 qw_351) ⟨rfl, rfl, (Nat.le_of_ble_eq_true rfl), (Nat.le_of_ble_eq_true rfl)⟩ dd_X2_clearTag rfl hk1 rfl rfl hl.1 (Nat.le_of_ble_eq_true rfl) dX1_runRemove_53 ⟨(Nat.le_of_ble_eq_true rfl), (Nat.le_of_ble_eq_true rfl)⟩ (fun H locs hM hS => ?_)
  cases h
  exact eV_ hx hb hr hlocks hM hS dX1_runRemove_56 (Nat.le_of_ble_eq_true rfl) (Nat.le_of_ble_eq_true rfl)
noncomputable def f_X1_runRemove (this : Nat) (M : Mem) : Option Mem :=
  (gRn 2 34 this M).bind fun v1 =>
  (gI 4 96 v1 M).bind fun v2 =>
  bn (cK 2 this M (f_X1_number this 0 (v2 - 1) M)) fun v3 M4 =>
  bn (cK 2 this M4 (f_X1_tag this M4)) fun v5 M6 =>
  bn (cK 2 this M6 (f_X1_failed this M6)) fun v7 M8 =>
  (if v7 = 0 then
  (gRn 2 34 this M8).bind fun v9 =>
  (gRn 4 100 v9 M8).bind fun v10 =>
  (gBn 10 v10 v3 M8).bind fun v11 =>
  bn (cK 3 v11 M8 (f_X2_dotsOfTag v11 v5 M8)) fun v12 M13 =>
  (if v12 = 0 then
  (cK 2 this M13 (f_X1_fail this 3 M13)).bind fun M17 =>
  fj_X1_runRemove_51 v5 v11 M17
  else
  fj_X1_runRemove_51 v5 v11 M13)
  else
  some M8)
set_option maxHeartbeats 4000000 in
set_option maxRecDepth 100000 in
theorem mt_X1_runRemove (l : Launch) (E : KEnv) (this : Nat) (M M' : Mem) (h : f_X1_runRemove this M = some M') : Met l yX1_runRemove (Cond.code yX1_runRemove cX1_runRemove 4 none :: lw_G) rm_X1_runRemove (cPc E [.ref this] M) (cQ E none M') 0 0 (eA E) := by
  refine Met.ofW (cc := cX1_runRemove) (maxL := 4) (ret := none) (by decide) rfl ?_
  intro p e s m args below meth c s₁ B hml hv
  obtain ⟨rfl, hE, hM⟩ := hv
  have hx := B.exec
  have hb := B.bytes
  have hr := B.returns
  have hts0 := atoms_spec (ws := Cond.code yX1_runRemove cX1_runRemove 4 none :: lw_G) B.pre
  have hts : ∀ w ∈ lw_G, w.before _ s = true := fun w hw => hts0 w (List.mem_cons_of_mem _ hw)
  have hown : s.vm.findClass RX1 = some m.cls := findClass_of_methodNamed B.named
  have hlocks := B.notSynchronized
  have hC : CallFix p m c cX1_runRemove 4 s _ lw_G RX1 := ⟨hx, hb, hml, hown, hts⟩
  have hS : va_S (eA E) s.heap s.heap [] := va_S.rf
  have hl := lv_entry ([.ref this]) (n := 4) (Nat.le_of_ble_eq_true rfl)
  rw [lg_entry_eq]
  generalize (lg_sl ([.ref this]) ++ List.replicate (4 - (lg_sl ([.ref this])).length) Slot.unset).toArray = ls at hl ⊢
  have hl : lv_has ls 4 [(0, .ref this)] := hl
  unfold f_X1_runRemove at h
  show W p l e rm_X1_runRemove s m _ below meth c s.heap [] 0 0 _ _
  refine lv_aload_n hx hb dX1_runRemove_0 rfl (lv_at hl 0 rfl) ?_
  refine lv_iconst (v := 0) hx hb dX1_runRemove_1 (by decide) ?_
  refine lv_aload_n hx hb dX1_runRemove_2 rfl (lv_at hl 0 rfl) ?_
  obtain ⟨v1, h1, h⟩ := ob h
  refine rgn_1_2 hx hb hts hown hE hM qw_206 h1 dX1_runRemove_3 ?_
  obtain ⟨v2, h1, h⟩ := ob h
  refine rg_3_0 hx hb hts hown hE hM qw_90 h1 dX1_runRemove_6 ?_
  refine lv_iconst (v := 1) hx hb dX1_runRemove_9 (by decide) ?_
  refine lv_isub hx hb dX1_runRemove_10 ?_
  obtain ⟨v3, M4, h1, h⟩ := ob2 h
  obtain ⟨hk1, h1⟩ := ifg h1
  refine kV1 (ci := 1) (As := [.int 0, .int (v2 - 1)]) (rest := []) hC hE hS hM (mt_X1_number _ E this 0 (v2 - 1) _ _ _ h1) (gwV qw_284 qw_286 qw_5 qw_43 qw_287) ⟨rfl, rfl, (Nat.le_of_ble_eq_true rfl), (Nat.le_of_ble_eq_true rfl)⟩ dd_X1_number rfl hk1 rfl rfl hl.1 (Nat.le_of_ble_eq_true rfl) dX1_runRemove_11 ⟨(Nat.le_of_ble_eq_true rfl), (Nat.le_of_ble_eq_true rfl)⟩ (fun H locs hM hS => ?_)
  refine lv_istore_n (lv' := [(1, .int v3), (0, .ref this)]) hx hb dX1_runRemove_14 rfl hl (by decide) rfl (fun ls hl => ?_)
  refine lv_aload_n hx hb dX1_runRemove_15 rfl (lv_at hl 1 rfl) ?_
  obtain ⟨v5, M6, h1, h⟩ := ob2 h
  obtain ⟨hk1, h1⟩ := ifg h1
  refine kV1 (ci := 1) (As := []) (rest := []) hC hE hS hM (mt_X1_tag _ E this _ _ _ h1) (gwV qw_319 qw_321 qw_10 qw_43 qw_322) ⟨rfl, rfl, (Nat.le_of_ble_eq_true rfl), (Nat.le_of_ble_eq_true rfl)⟩ dd_X1_tag rfl hk1 rfl rfl hl.1 (Nat.le_of_ble_eq_true rfl) dX1_runRemove_16 ⟨(Nat.le_of_ble_eq_true rfl), (Nat.le_of_ble_eq_true rfl)⟩ (fun H locs hM hS => ?_)
  refine lv_istore_n (lv' := [(2, .int v5), (1, .int v3), (0, .ref this)]) hx hb dX1_runRemove_19 rfl hl (by decide) rfl (fun ls hl => ?_)
  refine lv_aload_n hx hb dX1_runRemove_20 rfl (lv_at hl 2 rfl) ?_
  obtain ⟨v7, M8, h1, h⟩ := ob2 h
  obtain ⟨hk1, h1⟩ := ifg h1
  refine kV1 (ci := 1) (As := []) (rest := []) hC hE hS hM (mt_X1_failed _ E this _ _ _ h1) (gwV qw_244 qw_246 qw_2 qw_43 qw_247) ⟨rfl, rfl, (Nat.le_of_ble_eq_true rfl), (Nat.le_of_ble_eq_true rfl)⟩ dd_X1_failed rfl hk1 rfl rfl hl.1 (Nat.le_of_ble_eq_true rfl) dX1_runRemove_21 ⟨(Nat.le_of_ble_eq_true rfl), (Nat.le_of_ble_eq_true rfl)⟩ (fun H locs hM hS => ?_)
  refine lv_if_eq (tgt := 28) hx hb dX1_runRemove_24 (by decide) (fun c1 => ?_) (fun c1 => ?_)
  · have h := ifp c1 h
    refine lv_aload_n hx hb dX1_runRemove_28 rfl (lv_at hl 2 rfl) ?_
    obtain ⟨v9, h1, h⟩ := ob h
    refine rgn_1_2 hx hb hts hown hE hM qw_206 h1 dX1_runRemove_29 ?_
    obtain ⟨v10, h1, h⟩ := ob h
    refine rgn_3_4 hx hb hts hown hE hM qw_101 h1 dX1_runRemove_32 ?_
    refine lv_iload_n hx hb dX1_runRemove_35 rfl (lv_at hl 1 rfl) ?_
    obtain ⟨v11, h1, h⟩ := ob h
    refine r_aldnS hx hb hE hM h1 dX1_runRemove_36 ?_
    refine lv_astore_n (lv' := [(3, .ref v11), (2, .int v5), (1, .int v3), (0, .ref this)]) hx hb dX1_runRemove_37 rfl hl (by decide) rfl (fun ls hl => ?_)
    refine lv_aload_n hx hb dX1_runRemove_38 rfl (lv_at hl 0 rfl) ?_
    refine lv_iload_n hx hb dX1_runRemove_39 rfl (lv_at hl 1 rfl) ?_
    obtain ⟨v12, M13, h1, h⟩ := ob2 h
    obtain ⟨hk1, h1⟩ := ifg h1
    refine kV1 (ci := 2) (As := [.int v5]) (rest := []) hC hE hS hM (mt_X2_dotsOfTag _ E v11 v5 _ _ _ h1) (gwV qw_340 qw_341 qw_342 qw_41 qw_343) ⟨rfl, rfl, (Nat.le_of_ble_eq_true rfl), (Nat.le_of_ble_eq_true rfl)⟩ dd_X2_dotsOfTag rfl hk1 rfl rfl hl.1 (Nat.le_of_ble_eq_true rfl) dX1_runRemove_40 ⟨(Nat.le_of_ble_eq_true rfl), (Nat.le_of_ble_eq_true rfl)⟩ (fun H locs hM hS => ?_)
    refine lv_if_ne (tgt := 51) hx hb dX1_runRemove_43 (by decide) (fun c1 => ?_) (fun c1 => ?_)
    · have h := ifn c1 h
      refine W.widen (k := 0) (n := 0) (Nat.le_of_ble_eq_true rfl) (Nat.le_of_ble_eq_true rfl) ?_
      exact tj_X1_runRemove_51  hC hr hlocks hE  h hM hS (lv_sub hl [1, 0] rfl)
    · have h := ifp c1 h
      refine lv_aload_n hx hb dX1_runRemove_46 rfl (lv_at hl 3 rfl) ?_
      refine lv_iconst (v := 3) hx hb dX1_runRemove_47 (by decide) ?_
      obtain ⟨M17, h1, h⟩ := ob h
      obtain ⟨hk1, h1⟩ := ifg h1
      refine kV0 (ci := 1) (As := [.int 3]) (rest := []) hC hE hS hM (mt_X1_fail _ E this 3 _ _ h1) (gwV qw_280 qw_282 qw_4 qw_43 qw_283) ⟨rfl, rfl, (Nat.le_of_ble_eq_true rfl), (Nat.le_of_ble_eq_true rfl)⟩ dd_X1_fail rfl hk1 rfl rfl hl.1 (Nat.le_of_ble_eq_true rfl) dX1_runRemove_48 ⟨(Nat.le_of_ble_eq_true rfl), (Nat.le_of_ble_eq_true rfl)⟩ (fun H locs hM hS => ?_)
      refine W.widen (k := 0) (n := 0) (Nat.le_of_ble_eq_true rfl) (Nat.le_of_ble_eq_true rfl) ?_
      exact tj_X1_runRemove_51  hC hr hlocks hE  h hM hS (lv_sub hl [1, 0] rfl)
  · have h := ifn c1 h
    cases h
    exact eV_ hx hb hr hlocks hM hS dX1_runRemove_27 (Nat.le_of_ble_eq_true rfl) (Nat.le_of_ble_eq_true rfl)

theorem dd_X1_runSend : yX1_runSend.cls = RX1 ∧ yX1_runSend.cls ≠ "java/lang/invoke/MethodHandle" ∧ yX1_runSend.cls ≠ "java/lang/invoke/VarHandle" ∧ (parseMethodDescriptor yX1_runSend.desc).map (fun d => d.parameters.length) = some 0 := by decide +kernel
abbrev rm_X1_runSend : Room := ({ frames := 3, cells := 0, slots := 0, locals := 102 } : Room)
noncomputable def fj_X1_runSend_47  (M : Mem) : Option Mem :=
  some M
set_option maxHeartbeats 4000000 in
set_option maxRecDepth 100000 in
theorem tj_X1_runSend_47 {p : Program} {l : Launch} {e : Env} {s : State} {m : MethodId} {args : Array Value} {below : List Frame} {meth : Method} {c : Code} {E : KEnv} {H : Heap} {locs : List Loc} {ls : Array Slot}  {M : Mem} {M' : Mem} (hC : CallFix p m c cX1_runSend 2 s args lw_G RX1) (hr : meth.sig.returnType = none) (hlocks : meth.locks = false) (hE : EnvOK E s) (h : fj_X1_runSend_47  M = some M') (hM : MOK E M H) (hS : va_S (eA E) s.heap H locs) (hl : lv_has ls 2 []) : W p l e rm_X1_runSend s m args below meth c H locs 0 0 (MQ below (cQ E none M') args s 0 0 (eA E)) (F0 m 47 ls []) := by
  obtain ⟨hx, hb, hml, hown, hts⟩ := id hC
  unfold fj_X1_runSend_47 at h
  cases h
  exact eV_ hx hb hr hlocks hM hS dX1_runSend_47 (Nat.le_of_ble_eq_true rfl) (Nat.le_of_ble_eq_true rfl)
noncomputable def fj_X1_runSend_17 (x0 : Nat) (M : Mem) : Option Mem :=
  (gRn 2 34 x0 M).bind fun v3 =>
  (gI 4 96 v3 M).bind fun v4 =>
  bn (cK 2 x0 M (f_X1_number x0 0 (v4 - 1) M)) fun v5 M6 =>
  bn (cK 2 x0 M6 (f_X1_failed x0 M6)) fun v7 M8 =>
  (if v7 = 0 then
  (gRn 2 34 x0 M8).bind fun v9 =>
  (cK 4 v9 M8 (f_X3_addMessage v9 v5 M8)).bind fun M11 =>
  fj_X1_runSend_47 M11
  else
  fj_X1_runSend_47 M8)
set_option maxHeartbeats 4000000 in
set_option maxRecDepth 100000 in
theorem tj_X1_runSend_17 {p : Program} {l : Launch} {e : Env} {s : State} {m : MethodId} {args : Array Value} {below : List Frame} {meth : Method} {c : Code} {E : KEnv} {H : Heap} {locs : List Loc} {ls : Array Slot} {x0 : Nat} {M : Mem} {M' : Mem} (hC : CallFix p m c cX1_runSend 2 s args lw_G RX1) (hr : meth.sig.returnType = none) (hlocks : meth.locks = false) (hE : EnvOK E s) (h : fj_X1_runSend_17 x0 M = some M') (hM : MOK E M H) (hS : va_S (eA E) s.heap H locs) (hl : lv_has ls 2 [(0, .ref x0)]) : W p l e rm_X1_runSend s m args below meth c H locs 0 0 (MQ below (cQ E none M') args s 0 0 (eA E)) (F0 m 17 ls []) := by
  obtain ⟨hx, hb, hml, hown, hts⟩ := id hC
  unfold fj_X1_runSend_17 at h
  refine lv_aload_n hx hb dX1_runSend_17 rfl (lv_at hl 0 rfl) ?_
  refine lv_iconst (v := 0) hx hb dX1_runSend_18 (by decide) ?_
  refine lv_aload_n hx hb dX1_runSend_19 rfl (lv_at hl 0 rfl) ?_
  obtain ⟨v3, h1, h⟩ := ob h
  refine rgn_1_2 hx hb hts hown hE hM qw_206 h1 dX1_runSend_20 ?_
  obtain ⟨v4, h1, h⟩ := ob h
  refine rg_3_0 hx hb hts hown hE hM qw_90 h1 dX1_runSend_23 ?_
  refine lv_iconst (v := 1) hx hb dX1_runSend_26 (by decide) ?_
  refine lv_isub hx hb dX1_runSend_27 ?_
  obtain ⟨v5, M6, h1, h⟩ := ob2 h
  obtain ⟨hk1, h1⟩ := ifg h1
  refine kV1 (ci := 1) (As := [.int 0, .int (v4 - 1)]) (rest := []) hC hE hS hM (mt_X1_number _ E x0 0 (v4 - 1) _ _ _ h1) (gwV qw_284 qw_286 qw_5 qw_43 qw_287) ⟨rfl, rfl, (Nat.le_of_ble_eq_true rfl), (Nat.le_of_ble_eq_true rfl)⟩ dd_X1_number rfl hk1 rfl rfl hl.1 (Nat.le_of_ble_eq_true rfl) dX1_runSend_28 ⟨(Nat.le_of_ble_eq_true rfl), (Nat.le_of_ble_eq_true rfl)⟩ (fun H locs hM hS => ?_)
  refine lv_istore_n (lv' := [(1, .int v5), (0, .ref x0)]) hx hb dX1_runSend_31 rfl hl (by decide) rfl (fun ls hl => ?_)
  refine lv_aload_n hx hb dX1_runSend_32 rfl (lv_at hl 1 rfl) ?_
  obtain ⟨v7, M8, h1, h⟩ := ob2 h
  obtain ⟨hk1, h1⟩ := ifg h1
  refine kV1 (ci := 1) (As := []) (rest := []) hC hE hS hM (mt_X1_failed _ E x0 _ _ _ h1) (gwV qw_244 qw_246 qw_2 qw_43 qw_247) ⟨rfl, rfl, (Nat.le_of_ble_eq_true rfl), (Nat.le_of_ble_eq_true rfl)⟩ dd_X1_failed rfl hk1 rfl rfl hl.1 (Nat.le_of_ble_eq_true rfl) dX1_runSend_33 ⟨(Nat.le_of_ble_eq_true rfl), (Nat.le_of_ble_eq_true rfl)⟩ (fun H locs hM hS => ?_)
  refine lv_if_ne (tgt := 47) hx hb dX1_runSend_36 (by decide) (fun c1 => ?_) (fun c1 => ?_)
  · have h := ifn c1 h
    refine W.widen (k := 0) (n := 0) (Nat.le_of_ble_eq_true rfl) (Nat.le_of_ble_eq_true rfl) ?_
    exact tj_X1_runSend_47  hC hr hlocks hE  h hM hS (lv_sub hl [] rfl)
  · have h := ifp c1 h
    refine lv_aload_n hx hb dX1_runSend_39 rfl (lv_at hl 1 rfl) ?_
    obtain ⟨v9, h1, h⟩ := ob h
    refine rgn_1_2 hx hb hts hown hE hM qw_206 h1 dX1_runSend_40 ?_
    refine lv_iload_n hx hb dX1_runSend_43 rfl (lv_at hl 0 rfl) ?_
    obtain ⟨M11, h1, h⟩ := ob h
    obtain ⟨hk1, h1⟩ := ifg h1
    refine kV0 (ci := 3) (As := [.int v5]) (rest := []) hC hE hS hM (mt_X3_addMessage _ E v9 v5 _ _ h1) (gwV qw_382 qw_383 qw_384 qw_40 qw_385) ⟨rfl, rfl, (Nat.le_of_ble_eq_true rfl), (Nat.le_of_ble_eq_true rfl)⟩ dd_X3_addMessage rfl hk1 rfl rfl hl.1 (Nat.le_of_ble_eq_true rfl) dX1_runSend_44 ⟨(Nat.le_of_ble_eq_true rfl), (Nat.le_of_ble_eq_true rfl)⟩ (fun H locs hM hS => ?_)
    refine W.widen (k := 0) (n := 0) (Nat.le_of_ble_eq_true rfl) (Nat.le_of_ble_eq_true rfl) ?_
    exact tj_X1_runSend_47  hC hr hlocks hE  h hM hS (lv_sub hl [] rfl)
noncomputable def f_X1_runSend (this : Nat) (M : Mem) : Option Mem :=
  (gRn 2 34 this M).bind fun v1 =>
  (gI 4 99 v1 M).bind fun v2 =>
  (if v2 < 6 then
  fj_X1_runSend_17 this M
  else
  (cK 2 this M (f_X1_fail this 4 M)).bind fun M13 =>
  fj_X1_runSend_17 this M13)
set_option maxHeartbeats 4000000 in
set_option maxRecDepth 100000 in
theorem mt_X1_runSend (l : Launch) (E : KEnv) (this : Nat) (M M' : Mem) (h : f_X1_runSend this M = some M') : Met l yX1_runSend (Cond.code yX1_runSend cX1_runSend 2 none :: lw_G) rm_X1_runSend (cPc E [.ref this] M) (cQ E none M') 0 0 (eA E) := by
  refine Met.ofW (cc := cX1_runSend) (maxL := 2) (ret := none) (by decide) rfl ?_
  intro p e s m args below meth c s₁ B hml hv
  obtain ⟨rfl, hE, hM⟩ := hv
  have hx := B.exec
  have hb := B.bytes
  have hr := B.returns
  have hts0 := atoms_spec (ws := Cond.code yX1_runSend cX1_runSend 2 none :: lw_G) B.pre
  have hts : ∀ w ∈ lw_G, w.before _ s = true := fun w hw => hts0 w (List.mem_cons_of_mem _ hw)
  have hown : s.vm.findClass RX1 = some m.cls := findClass_of_methodNamed B.named
  have hlocks := B.notSynchronized
  have hC : CallFix p m c cX1_runSend 2 s _ lw_G RX1 := ⟨hx, hb, hml, hown, hts⟩
  have hS : va_S (eA E) s.heap s.heap [] := va_S.rf
  have hl := lv_entry ([.ref this]) (n := 2) (Nat.le_of_ble_eq_true rfl)
  rw [lg_entry_eq]
  generalize (lg_sl ([.ref this]) ++ List.replicate (2 - (lg_sl ([.ref this])).length) Slot.unset).toArray = ls at hl ⊢
  have hl : lv_has ls 2 [(0, .ref this)] := hl
  unfold f_X1_runSend at h
  show W p l e rm_X1_runSend s m _ below meth c s.heap [] 0 0 _ _
  refine lv_aload_n hx hb dX1_runSend_0 rfl (lv_at hl 0 rfl) ?_
  obtain ⟨v1, h1, h⟩ := ob h
  refine rgn_1_2 hx hb hts hown hE hM qw_206 h1 dX1_runSend_1 ?_
  obtain ⟨v2, h1, h⟩ := ob h
  refine rg_3_3 hx hb hts hown hE hM qw_98 h1 dX1_runSend_4 ?_
  refine lv_bipush (v := 6) hx hb dX1_runSend_7 (by decide) ?_
  refine lv_icmp_lt (tgt := 17) hx hb dX1_runSend_9 (by decide) (fun c1 => ?_) (fun c1 => ?_)
  · have h := ifp c1 h
    refine W.widen (k := 0) (n := 0) (Nat.le_of_ble_eq_true rfl) (Nat.le_of_ble_eq_true rfl) ?_
    exact tj_X1_runSend_17  hC hr hlocks hE  h hM hS (lv_sub hl [0] rfl)
  · have h := ifn c1 h
    refine lv_aload_n hx hb dX1_runSend_12 rfl (lv_at hl 0 rfl) ?_
    refine lv_iconst (v := 4) hx hb dX1_runSend_13 (by decide) ?_
    obtain ⟨M13, h1, h⟩ := ob h
    obtain ⟨hk1, h1⟩ := ifg h1
    refine kV0 (ci := 1) (As := [.int 4]) (rest := []) hC hE hS hM (mt_X1_fail _ E this 4 _ _ h1) (gwV qw_280 qw_282 qw_4 qw_43 qw_283) ⟨rfl, rfl, (Nat.le_of_ble_eq_true rfl), (Nat.le_of_ble_eq_true rfl)⟩ dd_X1_fail rfl hk1 rfl rfl hl.1 (Nat.le_of_ble_eq_true rfl) dX1_runSend_14 ⟨(Nat.le_of_ble_eq_true rfl), (Nat.le_of_ble_eq_true rfl)⟩ (fun H locs hM hS => ?_)
    refine W.widen (k := 0) (n := 0) (Nat.le_of_ble_eq_true rfl) (Nat.le_of_ble_eq_true rfl) ?_
    exact tj_X1_runSend_17  hC hr hlocks hE  h hM hS (lv_sub hl [0] rfl)

theorem dd_X1_runWrite : yX1_runWrite.cls = RX1 ∧ yX1_runWrite.cls ≠ "java/lang/invoke/MethodHandle" ∧ yX1_runWrite.cls ≠ "java/lang/invoke/VarHandle" ∧ (parseMethodDescriptor yX1_runWrite.desc).map (fun d => d.parameters.length) = some 0 := by decide +kernel
abbrev rm_X1_runWrite : Room := ({ frames := 3, cells := 0, slots := 0, locals := 71 } : Room)
noncomputable def fj_X1_runWrite_60  (M : Mem) : Option Mem :=
  some M
set_option maxHeartbeats 4000000 in
set_option maxRecDepth 100000 in
theorem tj_X1_runWrite_60 {p : Program} {l : Launch} {e : Env} {s : State} {m : MethodId} {args : Array Value} {below : List Frame} {meth : Method} {c : Code} {E : KEnv} {H : Heap} {locs : List Loc} {ls : Array Slot}  {M : Mem} {M' : Mem} (hC : CallFix p m c cX1_runWrite 4 s args lw_G RX1) (hr : meth.sig.returnType = none) (hlocks : meth.locks = false) (hE : EnvOK E s) (h : fj_X1_runWrite_60  M = some M') (hM : MOK E M H) (hS : va_S (eA E) s.heap H locs) (hl : lv_has ls 4 []) : W p l e rm_X1_runWrite s m args below meth c H locs 0 0 (MQ below (cQ E none M') args s 0 0 (eA E)) (F0 m 60 ls []) := by
  obtain ⟨hx, hb, hml, hown, hts⟩ := id hC
  unfold fj_X1_runWrite_60 at h
  cases h
  exact eV_ hx hb hr hlocks hM hS dX1_runWrite_60 (Nat.le_of_ble_eq_true rfl) (Nat.le_of_ble_eq_true rfl)
noncomputable def f_X1_runWrite (this : Nat) (M : Mem) : Option Mem :=
  (gRn 2 34 this M).bind fun v1 =>
  (gI 4 96 v1 M).bind fun v2 =>
  bn (cK 2 this M (f_X1_number this 0 (v2 - 1) M)) fun v3 M4 =>
  (gRn 2 34 this M4).bind fun v5 =>
  (gI 4 98 v5 M4).bind fun v6 =>
  bn (cK 2 this M4 (f_X1_number this 0 (v6 - 1) M4)) fun v7 M8 =>
  bn (cK 2 this M8 (f_X1_number this 0 99 M8)) fun v9 M10 =>
  bn (cK 2 this M10 (f_X1_failed this M10)) fun v11 M12 =>
  (if v11 = 0 then
  (gRn 2 34 this M12).bind fun v13 =>
  (gRn 4 100 v13 M12).bind fun v14 =>
  (gBn 10 v14 v3 M12).bind fun v15 =>
  (cK 3 v15 M12 (f_X2_putEntry v15 v3 v7 v9 M12)).bind fun M17 =>
  fj_X1_runWrite_60 M17
  else
  fj_X1_runWrite_60 M12)
set_option maxHeartbeats 4000000 in
set_option maxRecDepth 100000 in
theorem mt_X1_runWrite (l : Launch) (E : KEnv) (this : Nat) (M M' : Mem) (h : f_X1_runWrite this M = some M') : Met l yX1_runWrite (Cond.code yX1_runWrite cX1_runWrite 4 none :: lw_G) rm_X1_runWrite (cPc E [.ref this] M) (cQ E none M') 0 0 (eA E) := by
  refine Met.ofW (cc := cX1_runWrite) (maxL := 4) (ret := none) (by decide) rfl ?_
  intro p e s m args below meth c s₁ B hml hv
  obtain ⟨rfl, hE, hM⟩ := hv
  have hx := B.exec
  have hb := B.bytes
  have hr := B.returns
  have hts0 := atoms_spec (ws := Cond.code yX1_runWrite cX1_runWrite 4 none :: lw_G) B.pre
  have hts : ∀ w ∈ lw_G, w.before _ s = true := fun w hw => hts0 w (List.mem_cons_of_mem _ hw)
  have hown : s.vm.findClass RX1 = some m.cls := findClass_of_methodNamed B.named
  have hlocks := B.notSynchronized
  have hC : CallFix p m c cX1_runWrite 4 s _ lw_G RX1 := ⟨hx, hb, hml, hown, hts⟩
  have hS : va_S (eA E) s.heap s.heap [] := va_S.rf
  have hl := lv_entry ([.ref this]) (n := 4) (Nat.le_of_ble_eq_true rfl)
  rw [lg_entry_eq]
  generalize (lg_sl ([.ref this]) ++ List.replicate (4 - (lg_sl ([.ref this])).length) Slot.unset).toArray = ls at hl ⊢
  have hl : lv_has ls 4 [(0, .ref this)] := hl
  unfold f_X1_runWrite at h
  show W p l e rm_X1_runWrite s m _ below meth c s.heap [] 0 0 _ _
  refine lv_aload_n hx hb dX1_runWrite_0 rfl (lv_at hl 0 rfl) ?_
  refine lv_iconst (v := 0) hx hb dX1_runWrite_1 (by decide) ?_
  refine lv_aload_n hx hb dX1_runWrite_2 rfl (lv_at hl 0 rfl) ?_
  obtain ⟨v1, h1, h⟩ := ob h
  refine rgn_1_2 hx hb hts hown hE hM qw_206 h1 dX1_runWrite_3 ?_
  obtain ⟨v2, h1, h⟩ := ob h
  refine rg_3_0 hx hb hts hown hE hM qw_90 h1 dX1_runWrite_6 ?_
  refine lv_iconst (v := 1) hx hb dX1_runWrite_9 (by decide) ?_
  refine lv_isub hx hb dX1_runWrite_10 ?_
  obtain ⟨v3, M4, h1, h⟩ := ob2 h
  obtain ⟨hk1, h1⟩ := ifg h1
  refine kV1 (ci := 1) (As := [.int 0, .int (v2 - 1)]) (rest := []) hC hE hS hM (mt_X1_number _ E this 0 (v2 - 1) _ _ _ h1) (gwV qw_284 qw_286 qw_5 qw_43 qw_287) ⟨rfl, rfl, (Nat.le_of_ble_eq_true rfl), (Nat.le_of_ble_eq_true rfl)⟩ dd_X1_number rfl hk1 rfl rfl hl.1 (Nat.le_of_ble_eq_true rfl) dX1_runWrite_11 ⟨(Nat.le_of_ble_eq_true rfl), (Nat.le_of_ble_eq_true rfl)⟩ (fun H locs hM hS => ?_)
  refine lv_istore_n (lv' := [(1, .int v3), (0, .ref this)]) hx hb dX1_runWrite_14 rfl hl (by decide) rfl (fun ls hl => ?_)
  refine lv_aload_n hx hb dX1_runWrite_15 rfl (lv_at hl 1 rfl) ?_
  refine lv_iconst (v := 0) hx hb dX1_runWrite_16 (by decide) ?_
  refine lv_aload_n hx hb dX1_runWrite_17 rfl (lv_at hl 1 rfl) ?_
  obtain ⟨v5, h1, h⟩ := ob h
  refine rgn_1_2 hx hb hts hown hE hM qw_206 h1 dX1_runWrite_18 ?_
  obtain ⟨v6, h1, h⟩ := ob h
  refine rg_3_2 hx hb hts hown hE hM qw_96 h1 dX1_runWrite_21 ?_
  refine lv_iconst (v := 1) hx hb dX1_runWrite_24 (by decide) ?_
  refine lv_isub hx hb dX1_runWrite_25 ?_
  obtain ⟨v7, M8, h1, h⟩ := ob2 h
  obtain ⟨hk1, h1⟩ := ifg h1
  refine kV1 (ci := 1) (As := [.int 0, .int (v6 - 1)]) (rest := []) hC hE hS hM (mt_X1_number _ E this 0 (v6 - 1) _ _ _ h1) (gwV qw_284 qw_286 qw_5 qw_43 qw_287) ⟨rfl, rfl, (Nat.le_of_ble_eq_true rfl), (Nat.le_of_ble_eq_true rfl)⟩ dd_X1_number rfl hk1 rfl rfl hl.1 (Nat.le_of_ble_eq_true rfl) dX1_runWrite_26 ⟨(Nat.le_of_ble_eq_true rfl), (Nat.le_of_ble_eq_true rfl)⟩ (fun H locs hM hS => ?_)
  refine lv_istore_n (lv' := [(2, .int v7), (1, .int v3), (0, .ref this)]) hx hb dX1_runWrite_29 rfl hl (by decide) rfl (fun ls hl => ?_)
  refine lv_aload_n hx hb dX1_runWrite_30 rfl (lv_at hl 2 rfl) ?_
  refine lv_iconst (v := 0) hx hb dX1_runWrite_31 (by decide) ?_
  refine lv_bipush (v := 99) hx hb dX1_runWrite_32 (by decide) ?_
  obtain ⟨v9, M10, h1, h⟩ := ob2 h
  obtain ⟨hk1, h1⟩ := ifg h1
  refine kV1 (ci := 1) (As := [.int 0, .int 99]) (rest := []) hC hE hS hM (mt_X1_number _ E this 0 99 _ _ _ h1) (gwV qw_284 qw_286 qw_5 qw_43 qw_287) ⟨rfl, rfl, (Nat.le_of_ble_eq_true rfl), (Nat.le_of_ble_eq_true rfl)⟩ dd_X1_number rfl hk1 rfl rfl hl.1 (Nat.le_of_ble_eq_true rfl) dX1_runWrite_34 ⟨(Nat.le_of_ble_eq_true rfl), (Nat.le_of_ble_eq_true rfl)⟩ (fun H locs hM hS => ?_)
  refine lv_istore_n (lv' := [(3, .int v9), (2, .int v7), (1, .int v3), (0, .ref this)]) hx hb dX1_runWrite_37 rfl hl (by decide) rfl (fun ls hl => ?_)
  refine lv_aload_n hx hb dX1_runWrite_38 rfl (lv_at hl 3 rfl) ?_
  obtain ⟨v11, M12, h1, h⟩ := ob2 h
  obtain ⟨hk1, h1⟩ := ifg h1
  refine kV1 (ci := 1) (As := []) (rest := []) hC hE hS hM (mt_X1_failed _ E this _ _ _ h1) (gwV qw_244 qw_246 qw_2 qw_43 qw_247) ⟨rfl, rfl, (Nat.le_of_ble_eq_true rfl), (Nat.le_of_ble_eq_true rfl)⟩ dd_X1_failed rfl hk1 rfl rfl hl.1 (Nat.le_of_ble_eq_true rfl) dX1_runWrite_39 ⟨(Nat.le_of_ble_eq_true rfl), (Nat.le_of_ble_eq_true rfl)⟩ (fun H locs hM hS => ?_)
  refine lv_if_ne (tgt := 60) hx hb dX1_runWrite_42 (by decide) (fun c1 => ?_) (fun c1 => ?_)
  · have h := ifn c1 h
    refine W.widen (k := 0) (n := 0) (Nat.le_of_ble_eq_true rfl) (Nat.le_of_ble_eq_true rfl) ?_
    exact tj_X1_runWrite_60  hC hr hlocks hE  h hM hS (lv_sub hl [] rfl)
  · have h := ifp c1 h
    refine lv_aload_n hx hb dX1_runWrite_45 rfl (lv_at hl 3 rfl) ?_
    obtain ⟨v13, h1, h⟩ := ob h
    refine rgn_1_2 hx hb hts hown hE hM qw_206 h1 dX1_runWrite_46 ?_
    obtain ⟨v14, h1, h⟩ := ob h
    refine rgn_3_4 hx hb hts hown hE hM qw_101 h1 dX1_runWrite_49 ?_
    refine lv_iload_n hx hb dX1_runWrite_52 rfl (lv_at hl 2 rfl) ?_
    obtain ⟨v15, h1, h⟩ := ob h
    refine r_aldnS hx hb hE hM h1 dX1_runWrite_53 ?_
    refine lv_iload_n hx hb dX1_runWrite_54 rfl (lv_at hl 2 rfl) ?_
    refine lv_iload_n hx hb dX1_runWrite_55 rfl (lv_at hl 1 rfl) ?_
    refine lv_iload_n hx hb dX1_runWrite_56 rfl (lv_at hl 0 rfl) ?_
    obtain ⟨M17, h1, h⟩ := ob h
    obtain ⟨hk1, h1⟩ := ifg h1
    refine kV0 (ci := 2) (As := [.int v3, .int v7, .int v9]) (rest := []) hC hE hS hM (mt_X2_putEntry _ E v15 v3 v7 v9 _ _ h1) (gwV qw_357 qw_358 qw_359 qw_41 qw_360) ⟨rfl, rfl, (Nat.le_of_ble_eq_true rfl), (Nat.le_of_ble_eq_true rfl)⟩ dd_X2_putEntry rfl hk1 rfl rfl hl.1 (Nat.le_of_ble_eq_true rfl) dX1_runWrite_57 ⟨(Nat.le_of_ble_eq_true rfl), (Nat.le_of_ble_eq_true rfl)⟩ (fun H locs hM hS => ?_)
    refine W.widen (k := 0) (n := 0) (Nat.le_of_ble_eq_true rfl) (Nat.le_of_ble_eq_true rfl) ?_
    exact tj_X1_runWrite_60  hC hr hlocks hE  h hM hS (lv_sub hl [] rfl)

theorem dd_X1_runLine : yX1_runLine.cls = RX1 ∧ yX1_runLine.cls ≠ "java/lang/invoke/MethodHandle" ∧ yX1_runLine.cls ≠ "java/lang/invoke/VarHandle" ∧ (parseMethodDescriptor yX1_runLine.desc).map (fun d => d.parameters.length) = some 0 := by decide +kernel
abbrev rm_X1_runLine : Room := ({ frames := 5, cells := 0, slots := 0, locals := 182 } : Room)
noncomputable def fj_X1_runLine_140  (M : Mem) : Option Mem :=
  some M
set_option maxHeartbeats 4000000 in
set_option maxRecDepth 100000 in
theorem tj_X1_runLine_140 {p : Program} {l : Launch} {e : Env} {s : State} {m : MethodId} {args : Array Value} {below : List Frame} {meth : Method} {c : Code} {E : KEnv} {H : Heap} {locs : List Loc} {ls : Array Slot}  {M : Mem} {M' : Mem} (hC : CallFix p m c cX1_runLine 1 s args lw_G RX1) (hr : meth.sig.returnType = none) (hlocks : meth.locks = false) (hE : EnvOK E s) (h : fj_X1_runLine_140  M = some M') (hM : MOK E M H) (hS : va_S (eA E) s.heap H locs) (hl : lv_has ls 1 []) : W p l e rm_X1_runLine s m args below meth c H locs 0 0 (MQ below (cQ E none M') args s 0 0 (eA E)) (F0 m 140 ls []) := by
  obtain ⟨hx, hb, hml, hown, hts⟩ := id hC
  unfold fj_X1_runLine_140 at h
  cases h
  exact eV_ hx hb hr hlocks hM hS dX1_runLine_140 (Nat.le_of_ble_eq_true rfl) (Nat.le_of_ble_eq_true rfl)
noncomputable def f_X1_runLine (this : Nat) (M : Mem) : Option Mem :=
  (cK 2 this M (f_X1_nextToken this M)).bind fun M2 =>
  bn (cK 2 this M2 (f_X1_isWord this 2 M2)) fun v3 M4 =>
  (if v3 = 0 then
  bn (cK 2 this M4 (f_X1_isWord this 3 M4)) fun v5 M6 =>
  (if v5 = 0 then
  bn (cK 2 this M6 (f_X1_isWord this 4 M6)) fun v7 M8 =>
  (if v7 = 0 then
  bn (cK 2 this M8 (f_X1_isWord this 5 M8)) fun v9 M10 =>
  (if v9 = 0 then
  bn (cK 2 this M10 (f_X1_isWord this 6 M10)) fun v11 M12 =>
  (if v11 = 0 then
  bn (cK 2 this M12 (f_X1_isWord this 7 M12)) fun v13 M14 =>
  (if v13 = 0 then
  bn (cK 2 this M14 (f_X1_isWord this 8 M14)) fun v15 M16 =>
  (if v15 = 0 then
  bn (cK 2 this M16 (f_X1_isWord this 9 M16)) fun v17 M18 =>
  (if v17 = 0 then
  (cK 2 this M18 (f_X1_fail this 1 M18)).bind fun M20 =>
  fj_X1_runLine_140 M20
  else
  (cK 2 this M18 (f_X1_runDeliver this M18)).bind fun M22 =>
  fj_X1_runLine_140 M22)
  else
  (cK 2 this M16 (f_X1_runSend this M16)).bind fun M24 =>
  fj_X1_runLine_140 M24)
  else
  (cK 2 this M14 (f_X1_runMerge this M14)).bind fun M26 =>
  fj_X1_runLine_140 M26)
  else
  (cK 2 this M12 (f_X1_runWrite this M12)).bind fun M28 =>
  fj_X1_runLine_140 M28)
  else
  (cK 2 this M10 (f_X1_runRemove this M10)).bind fun M30 =>
  fj_X1_runLine_140 M30)
  else
  (cK 2 this M8 (f_X1_runAdd this M8)).bind fun M32 =>
  fj_X1_runLine_140 M32)
  else
  (cK 2 this M6 (f_X1_runCounterLine this 20 M6)).bind fun M34 =>
  fj_X1_runLine_140 M34)
  else
  (cK 2 this M4 (f_X1_runCounterLine this 4 M4)).bind fun M36 =>
  fj_X1_runLine_140 M36)
set_option maxHeartbeats 4000000 in
set_option maxRecDepth 100000 in
theorem mt_X1_runLine (l : Launch) (E : KEnv) (this : Nat) (M M' : Mem) (h : f_X1_runLine this M = some M') : Met l yX1_runLine (Cond.code yX1_runLine cX1_runLine 1 none :: lw_G) rm_X1_runLine (cPc E [.ref this] M) (cQ E none M') 0 0 (eA E) := by
  refine Met.ofW (cc := cX1_runLine) (maxL := 1) (ret := none) (by decide) rfl ?_
  intro p e s m args below meth c s₁ B hml hv
  obtain ⟨rfl, hE, hM⟩ := hv
  have hx := B.exec
  have hb := B.bytes
  have hr := B.returns
  have hts0 := atoms_spec (ws := Cond.code yX1_runLine cX1_runLine 1 none :: lw_G) B.pre
  have hts : ∀ w ∈ lw_G, w.before _ s = true := fun w hw => hts0 w (List.mem_cons_of_mem _ hw)
  have hown : s.vm.findClass RX1 = some m.cls := findClass_of_methodNamed B.named
  have hlocks := B.notSynchronized
  have hC : CallFix p m c cX1_runLine 1 s _ lw_G RX1 := ⟨hx, hb, hml, hown, hts⟩
  have hS : va_S (eA E) s.heap s.heap [] := va_S.rf
  have hl := lv_entry ([.ref this]) (n := 1) (Nat.le_of_ble_eq_true rfl)
  rw [lg_entry_eq]
  generalize (lg_sl ([.ref this]) ++ List.replicate (1 - (lg_sl ([.ref this])).length) Slot.unset).toArray = ls at hl ⊢
  have hl : lv_has ls 1 [(0, .ref this)] := hl
  unfold f_X1_runLine at h
  show W p l e rm_X1_runLine s m _ below meth c s.heap [] 0 0 _ _
  refine lv_aload_n hx hb dX1_runLine_0 rfl (lv_at hl 0 rfl) ?_
  obtain ⟨M2, h1, h⟩ := ob h
  obtain ⟨hk1, h1⟩ := ifg h1
  refine kV0 (ci := 1) (As := []) (rest := []) hC hE hS hM (mt_X1_nextToken _ E this _ _ h1) (gwV qw_240 qw_242 qw_1 qw_43 qw_243) ⟨rfl, rfl, (Nat.le_of_ble_eq_true rfl), (Nat.le_of_ble_eq_true rfl)⟩ dd_X1_nextToken rfl hk1 rfl rfl hl.1 (Nat.le_of_ble_eq_true rfl) dX1_runLine_1 ⟨(Nat.le_of_ble_eq_true rfl), (Nat.le_of_ble_eq_true rfl)⟩ (fun H locs hM hS => ?_)
  refine lv_aload_n hx hb dX1_runLine_4 rfl (lv_at hl 0 rfl) ?_
  refine va_ldcS hx hb hown (sr_2 hE) dX1_runLine_5 ?_
  obtain ⟨v3, M4, h1, h⟩ := ob2 h
  obtain ⟨hk1, h1⟩ := ifg h1
  refine kV1 (ci := 1) (As := [.ref (eS E 2)]) (rest := []) hC hE hS hM (mt_X1_isWord _ E this 2 _ _ _ h1) (gwV qw_255 qw_257 qw_3 qw_43 qw_258) ⟨rfl, rfl, (Nat.le_of_ble_eq_true rfl), (Nat.le_of_ble_eq_true rfl)⟩ dd_X1_isWord rfl hk1 rfl rfl hl.1 (Nat.le_of_ble_eq_true rfl) dX1_runLine_7 ⟨(Nat.le_of_ble_eq_true rfl), (Nat.le_of_ble_eq_true rfl)⟩ (fun H locs hM hS => ?_)
  refine lv_if_eq (tgt := 21) hx hb dX1_runLine_10 (by decide) (fun c1 => ?_) (fun c1 => ?_)
  · have h := ifp c1 h
    refine lv_aload_n hx hb dX1_runLine_21 rfl (lv_at hl 0 rfl) ?_
    refine va_ldcS hx hb hown (sr_3 hE) dX1_runLine_22 ?_
    obtain ⟨v5, M6, h1, h⟩ := ob2 h
    obtain ⟨hk1, h1⟩ := ifg h1
    refine kV1 (ci := 1) (As := [.ref (eS E 3)]) (rest := []) hC hE hS hM (mt_X1_isWord _ E this 3 _ _ _ h1) (gwV qw_255 qw_257 qw_3 qw_43 qw_258) ⟨rfl, rfl, (Nat.le_of_ble_eq_true rfl), (Nat.le_of_ble_eq_true rfl)⟩ dd_X1_isWord rfl hk1 rfl rfl hl.1 (Nat.le_of_ble_eq_true rfl) dX1_runLine_24 ⟨(Nat.le_of_ble_eq_true rfl), (Nat.le_of_ble_eq_true rfl)⟩ (fun H locs hM hS => ?_)
    refine lv_if_eq (tgt := 39) hx hb dX1_runLine_27 (by decide) (fun c1 => ?_) (fun c1 => ?_)
    · have h := ifp c1 h
      refine lv_aload_n hx hb dX1_runLine_39 rfl (lv_at hl 0 rfl) ?_
      refine va_ldcS hx hb hown (sr_4 hE) dX1_runLine_40 ?_
      obtain ⟨v7, M8, h1, h⟩ := ob2 h
      obtain ⟨hk1, h1⟩ := ifg h1
      refine kV1 (ci := 1) (As := [.ref (eS E 4)]) (rest := []) hC hE hS hM (mt_X1_isWord _ E this 4 _ _ _ h1) (gwV qw_255 qw_257 qw_3 qw_43 qw_258) ⟨rfl, rfl, (Nat.le_of_ble_eq_true rfl), (Nat.le_of_ble_eq_true rfl)⟩ dd_X1_isWord rfl hk1 rfl rfl hl.1 (Nat.le_of_ble_eq_true rfl) dX1_runLine_42 ⟨(Nat.le_of_ble_eq_true rfl), (Nat.le_of_ble_eq_true rfl)⟩ (fun H locs hM hS => ?_)
      refine lv_if_eq (tgt := 55) hx hb dX1_runLine_45 (by decide) (fun c1 => ?_) (fun c1 => ?_)
      · have h := ifp c1 h
        refine lv_aload_n hx hb dX1_runLine_55 rfl (lv_at hl 0 rfl) ?_
        refine va_ldcS hx hb hown (sr_5 hE) dX1_runLine_56 ?_
        obtain ⟨v9, M10, h1, h⟩ := ob2 h
        obtain ⟨hk1, h1⟩ := ifg h1
        refine kV1 (ci := 1) (As := [.ref (eS E 5)]) (rest := []) hC hE hS hM (mt_X1_isWord _ E this 5 _ _ _ h1) (gwV qw_255 qw_257 qw_3 qw_43 qw_258) ⟨rfl, rfl, (Nat.le_of_ble_eq_true rfl), (Nat.le_of_ble_eq_true rfl)⟩ dd_X1_isWord rfl hk1 rfl rfl hl.1 (Nat.le_of_ble_eq_true rfl) dX1_runLine_58 ⟨(Nat.le_of_ble_eq_true rfl), (Nat.le_of_ble_eq_true rfl)⟩ (fun H locs hM hS => ?_)
        refine lv_if_eq (tgt := 71) hx hb dX1_runLine_61 (by decide) (fun c1 => ?_) (fun c1 => ?_)
        · have h := ifp c1 h
          refine lv_aload_n hx hb dX1_runLine_71 rfl (lv_at hl 0 rfl) ?_
          refine va_ldcS hx hb hown (sr_6 hE) dX1_runLine_72 ?_
          obtain ⟨v11, M12, h1, h⟩ := ob2 h
          obtain ⟨hk1, h1⟩ := ifg h1
          refine kV1 (ci := 1) (As := [.ref (eS E 6)]) (rest := []) hC hE hS hM (mt_X1_isWord _ E this 6 _ _ _ h1) (gwV qw_255 qw_257 qw_3 qw_43 qw_258) ⟨rfl, rfl, (Nat.le_of_ble_eq_true rfl), (Nat.le_of_ble_eq_true rfl)⟩ dd_X1_isWord rfl hk1 rfl rfl hl.1 (Nat.le_of_ble_eq_true rfl) dX1_runLine_74 ⟨(Nat.le_of_ble_eq_true rfl), (Nat.le_of_ble_eq_true rfl)⟩ (fun H locs hM hS => ?_)
          refine lv_if_eq (tgt := 87) hx hb dX1_runLine_77 (by decide) (fun c1 => ?_) (fun c1 => ?_)
          · have h := ifp c1 h
            refine lv_aload_n hx hb dX1_runLine_87 rfl (lv_at hl 0 rfl) ?_
            refine va_ldcS hx hb hown (sr_7 hE) dX1_runLine_88 ?_
            obtain ⟨v13, M14, h1, h⟩ := ob2 h
            obtain ⟨hk1, h1⟩ := ifg h1
            refine kV1 (ci := 1) (As := [.ref (eS E 7)]) (rest := []) hC hE hS hM (mt_X1_isWord _ E this 7 _ _ _ h1) (gwV qw_255 qw_257 qw_3 qw_43 qw_258) ⟨rfl, rfl, (Nat.le_of_ble_eq_true rfl), (Nat.le_of_ble_eq_true rfl)⟩ dd_X1_isWord rfl hk1 rfl rfl hl.1 (Nat.le_of_ble_eq_true rfl) dX1_runLine_90 ⟨(Nat.le_of_ble_eq_true rfl), (Nat.le_of_ble_eq_true rfl)⟩ (fun H locs hM hS => ?_)
            refine lv_if_eq (tgt := 103) hx hb dX1_runLine_93 (by decide) (fun c1 => ?_) (fun c1 => ?_)
            · have h := ifp c1 h
              refine lv_aload_n hx hb dX1_runLine_103 rfl (lv_at hl 0 rfl) ?_
              refine va_ldcS hx hb hown (sr_8 hE) dX1_runLine_104 ?_
              obtain ⟨v15, M16, h1, h⟩ := ob2 h
              obtain ⟨hk1, h1⟩ := ifg h1
              refine kV1 (ci := 1) (As := [.ref (eS E 8)]) (rest := []) hC hE hS hM (mt_X1_isWord _ E this 8 _ _ _ h1) (gwV qw_255 qw_257 qw_3 qw_43 qw_258) ⟨rfl, rfl, (Nat.le_of_ble_eq_true rfl), (Nat.le_of_ble_eq_true rfl)⟩ dd_X1_isWord rfl hk1 rfl rfl hl.1 (Nat.le_of_ble_eq_true rfl) dX1_runLine_106 ⟨(Nat.le_of_ble_eq_true rfl), (Nat.le_of_ble_eq_true rfl)⟩ (fun H locs hM hS => ?_)
              refine lv_if_eq (tgt := 119) hx hb dX1_runLine_109 (by decide) (fun c1 => ?_) (fun c1 => ?_)
              · have h := ifp c1 h
                refine lv_aload_n hx hb dX1_runLine_119 rfl (lv_at hl 0 rfl) ?_
                refine va_ldcS hx hb hown (sr_9 hE) dX1_runLine_120 ?_
                obtain ⟨v17, M18, h1, h⟩ := ob2 h
                obtain ⟨hk1, h1⟩ := ifg h1
                refine kV1 (ci := 1) (As := [.ref (eS E 9)]) (rest := []) hC hE hS hM (mt_X1_isWord _ E this 9 _ _ _ h1) (gwV qw_255 qw_257 qw_3 qw_43 qw_258) ⟨rfl, rfl, (Nat.le_of_ble_eq_true rfl), (Nat.le_of_ble_eq_true rfl)⟩ dd_X1_isWord rfl hk1 rfl rfl hl.1 (Nat.le_of_ble_eq_true rfl) dX1_runLine_122 ⟨(Nat.le_of_ble_eq_true rfl), (Nat.le_of_ble_eq_true rfl)⟩ (fun H locs hM hS => ?_)
                refine lv_if_eq (tgt := 135) hx hb dX1_runLine_125 (by decide) (fun c1 => ?_) (fun c1 => ?_)
                · have h := ifp c1 h
                  refine lv_aload_n hx hb dX1_runLine_135 rfl (lv_at hl 0 rfl) ?_
                  refine lv_iconst (v := 1) hx hb dX1_runLine_136 (by decide) ?_
                  obtain ⟨M20, h1, h⟩ := ob h
                  obtain ⟨hk1, h1⟩ := ifg h1
                  refine kV0 (ci := 1) (As := [.int 1]) (rest := []) hC hE hS hM (mt_X1_fail _ E this 1 _ _ h1) (gwV qw_280 qw_282 qw_4 qw_43 qw_283) ⟨rfl, rfl, (Nat.le_of_ble_eq_true rfl), (Nat.le_of_ble_eq_true rfl)⟩ dd_X1_fail rfl hk1 rfl rfl hl.1 (Nat.le_of_ble_eq_true rfl) dX1_runLine_137 ⟨(Nat.le_of_ble_eq_true rfl), (Nat.le_of_ble_eq_true rfl)⟩ (fun H locs hM hS => ?_)
                  refine W.widen (k := 0) (n := 0) (Nat.le_of_ble_eq_true rfl) (Nat.le_of_ble_eq_true rfl) ?_
                  exact tj_X1_runLine_140  hC hr hlocks hE  h hM hS (lv_sub hl [] rfl)
                · have h := ifn c1 h
                  refine lv_aload_n hx hb dX1_runLine_128 rfl (lv_at hl 0 rfl) ?_
                  obtain ⟨M22, h1, h⟩ := ob h
                  obtain ⟨hk1, h1⟩ := ifg h1
                  refine kV0 (ci := 1) (As := []) (rest := []) hC hE hS hM (mt_X1_runDeliver _ E this _ _ h1) (gwV qw_394 qw_396 qw_19 qw_43 qw_397) ⟨rfl, rfl, (Nat.le_of_ble_eq_true rfl), (Nat.le_of_ble_eq_true rfl)⟩ dd_X1_runDeliver rfl hk1 rfl rfl hl.1 (Nat.le_of_ble_eq_true rfl) dX1_runLine_129 ⟨(Nat.le_of_ble_eq_true rfl), (Nat.le_of_ble_eq_true rfl)⟩ (fun H locs hM hS => ?_)
                  refine lv_goto (tgt := 140) hx hb dX1_runLine_132 (by decide) ?_
                  refine W.widen (k := 0) (n := 0) (Nat.le_of_ble_eq_true rfl) (Nat.le_of_ble_eq_true rfl) ?_
                  exact tj_X1_runLine_140  hC hr hlocks hE  h hM hS (lv_sub hl [] rfl)
              · have h := ifn c1 h
                refine lv_aload_n hx hb dX1_runLine_112 rfl (lv_at hl 0 rfl) ?_
                obtain ⟨M24, h1, h⟩ := ob h
                obtain ⟨hk1, h1⟩ := ifg h1
                refine kV0 (ci := 1) (As := []) (rest := []) hC hE hS hM (mt_X1_runSend _ E this _ _ h1) (gwV qw_378 qw_380 qw_18 qw_43 qw_381) ⟨rfl, rfl, (Nat.le_of_ble_eq_true rfl), (Nat.le_of_ble_eq_true rfl)⟩ dd_X1_runSend rfl hk1 rfl rfl hl.1 (Nat.le_of_ble_eq_true rfl) dX1_runLine_113 ⟨(Nat.le_of_ble_eq_true rfl), (Nat.le_of_ble_eq_true rfl)⟩ (fun H locs hM hS => ?_)
                refine lv_goto (tgt := 140) hx hb dX1_runLine_116 (by decide) ?_
                refine W.widen (k := 0) (n := 0) (Nat.le_of_ble_eq_true rfl) (Nat.le_of_ble_eq_true rfl) ?_
                exact tj_X1_runLine_140  hC hr hlocks hE  h hM hS (lv_sub hl [] rfl)
            · have h := ifn c1 h
              refine lv_aload_n hx hb dX1_runLine_96 rfl (lv_at hl 0 rfl) ?_
              obtain ⟨M26, h1, h⟩ := ob h
              obtain ⟨hk1, h1⟩ := ifg h1
              refine kV0 (ci := 1) (As := []) (rest := []) hC hE hS hM (mt_X1_runMerge _ E this _ _ h1) (gwV qw_362 qw_364 qw_16 qw_43 qw_365) ⟨rfl, rfl, (Nat.le_of_ble_eq_true rfl), (Nat.le_of_ble_eq_true rfl)⟩ dd_X1_runMerge rfl hk1 rfl rfl hl.1 (Nat.le_of_ble_eq_true rfl) dX1_runLine_97 ⟨(Nat.le_of_ble_eq_true rfl), (Nat.le_of_ble_eq_true rfl)⟩ (fun H locs hM hS => ?_)
              refine lv_goto (tgt := 140) hx hb dX1_runLine_100 (by decide) ?_
              refine W.widen (k := 0) (n := 0) (Nat.le_of_ble_eq_true rfl) (Nat.le_of_ble_eq_true rfl) ?_
              exact tj_X1_runLine_140  hC hr hlocks hE  h hM hS (lv_sub hl [] rfl)
          · have h := ifn c1 h
            refine lv_aload_n hx hb dX1_runLine_80 rfl (lv_at hl 0 rfl) ?_
            obtain ⟨M28, h1, h⟩ := ob h
            obtain ⟨hk1, h1⟩ := ifg h1
            refine kV0 (ci := 1) (As := []) (rest := []) hC hE hS hM (mt_X1_runWrite _ E this _ _ h1) (gwV qw_353 qw_355 qw_15 qw_43 qw_356) ⟨rfl, rfl, (Nat.le_of_ble_eq_true rfl), (Nat.le_of_ble_eq_true rfl)⟩ dd_X1_runWrite rfl hk1 rfl rfl hl.1 (Nat.le_of_ble_eq_true rfl) dX1_runLine_81 ⟨(Nat.le_of_ble_eq_true rfl), (Nat.le_of_ble_eq_true rfl)⟩ (fun H locs hM hS => ?_)
            refine lv_goto (tgt := 140) hx hb dX1_runLine_84 (by decide) ?_
            refine W.widen (k := 0) (n := 0) (Nat.le_of_ble_eq_true rfl) (Nat.le_of_ble_eq_true rfl) ?_
            exact tj_X1_runLine_140  hC hr hlocks hE  h hM hS (lv_sub hl [] rfl)
        · have h := ifn c1 h
          refine lv_aload_n hx hb dX1_runLine_64 rfl (lv_at hl 0 rfl) ?_
          obtain ⟨M30, h1, h⟩ := ob h
          obtain ⟨hk1, h1⟩ := ifg h1
          refine kV0 (ci := 1) (As := []) (rest := []) hC hE hS hM (mt_X1_runRemove _ E this _ _ h1) (gwV qw_336 qw_338 qw_13 qw_43 qw_339) ⟨rfl, rfl, (Nat.le_of_ble_eq_true rfl), (Nat.le_of_ble_eq_true rfl)⟩ dd_X1_runRemove rfl hk1 rfl rfl hl.1 (Nat.le_of_ble_eq_true rfl) dX1_runLine_65 ⟨(Nat.le_of_ble_eq_true rfl), (Nat.le_of_ble_eq_true rfl)⟩ (fun H locs hM hS => ?_)
          refine lv_goto (tgt := 140) hx hb dX1_runLine_68 (by decide) ?_
          refine W.widen (k := 0) (n := 0) (Nat.le_of_ble_eq_true rfl) (Nat.le_of_ble_eq_true rfl) ?_
          exact tj_X1_runLine_140  hC hr hlocks hE  h hM hS (lv_sub hl [] rfl)
      · have h := ifn c1 h
        refine lv_aload_n hx hb dX1_runLine_48 rfl (lv_at hl 0 rfl) ?_
        obtain ⟨M32, h1, h⟩ := ob h
        obtain ⟨hk1, h1⟩ := ifg h1
        refine kV0 (ci := 1) (As := []) (rest := []) hC hE hS hM (mt_X1_runAdd _ E this _ _ h1) (gwV qw_315 qw_317 qw_9 qw_43 qw_318) ⟨rfl, rfl, (Nat.le_of_ble_eq_true rfl), (Nat.le_of_ble_eq_true rfl)⟩ dd_X1_runAdd rfl hk1 rfl rfl hl.1 (Nat.le_of_ble_eq_true rfl) dX1_runLine_49 ⟨(Nat.le_of_ble_eq_true rfl), (Nat.le_of_ble_eq_true rfl)⟩ (fun H locs hM hS => ?_)
        refine lv_goto (tgt := 140) hx hb dX1_runLine_52 (by decide) ?_
        refine W.widen (k := 0) (n := 0) (Nat.le_of_ble_eq_true rfl) (Nat.le_of_ble_eq_true rfl) ?_
        exact tj_X1_runLine_140  hC hr hlocks hE  h hM hS (lv_sub hl [] rfl)
    · have h := ifn c1 h
      refine lv_aload_n hx hb dX1_runLine_30 rfl (lv_at hl 0 rfl) ?_
      refine lv_bipush (v := 20) hx hb dX1_runLine_31 (by decide) ?_
      obtain ⟨M34, h1, h⟩ := ob h
      obtain ⟨hk1, h1⟩ := ifg h1
      refine kV0 (ci := 1) (As := [.int 20]) (rest := []) hC hE hS hM (mt_X1_runCounterLine _ E this 20 _ _ h1) (gwV qw_305 qw_307 qw_8 qw_43 qw_308) ⟨rfl, rfl, (Nat.le_of_ble_eq_true rfl), (Nat.le_of_ble_eq_true rfl)⟩ dd_X1_runCounterLine rfl hk1 rfl rfl hl.1 (Nat.le_of_ble_eq_true rfl) dX1_runLine_33 ⟨(Nat.le_of_ble_eq_true rfl), (Nat.le_of_ble_eq_true rfl)⟩ (fun H locs hM hS => ?_)
      refine lv_goto (tgt := 140) hx hb dX1_runLine_36 (by decide) ?_
      refine W.widen (k := 0) (n := 0) (Nat.le_of_ble_eq_true rfl) (Nat.le_of_ble_eq_true rfl) ?_
      exact tj_X1_runLine_140  hC hr hlocks hE  h hM hS (lv_sub hl [] rfl)
  · have h := ifn c1 h
    refine lv_aload_n hx hb dX1_runLine_13 rfl (lv_at hl 0 rfl) ?_
    refine lv_iconst (v := 4) hx hb dX1_runLine_14 (by decide) ?_
    obtain ⟨M36, h1, h⟩ := ob h
    obtain ⟨hk1, h1⟩ := ifg h1
    refine kV0 (ci := 1) (As := [.int 4]) (rest := []) hC hE hS hM (mt_X1_runCounterLine _ E this 4 _ _ h1) (gwV qw_305 qw_307 qw_8 qw_43 qw_308) ⟨rfl, rfl, (Nat.le_of_ble_eq_true rfl), (Nat.le_of_ble_eq_true rfl)⟩ dd_X1_runCounterLine rfl hk1 rfl rfl hl.1 (Nat.le_of_ble_eq_true rfl) dX1_runLine_15 ⟨(Nat.le_of_ble_eq_true rfl), (Nat.le_of_ble_eq_true rfl)⟩ (fun H locs hM hS => ?_)
    refine lv_goto (tgt := 140) hx hb dX1_runLine_18 (by decide) ?_
    refine W.widen (k := 0) (n := 0) (Nat.le_of_ble_eq_true rfl) (Nat.le_of_ble_eq_true rfl) ?_
    exact tj_X1_runLine_140  hC hr hlocks hE  h hM hS (lv_sub hl [] rfl)

theorem dd_X1_parse : yX1_parse.cls = RX1 ∧ yX1_parse.cls ≠ "java/lang/invoke/MethodHandle" ∧ yX1_parse.cls ≠ "java/lang/invoke/VarHandle" ∧ (parseMethodDescriptor yX1_parse.desc).map (fun d => d.parameters.length) = some 0 := by decide +kernel
abbrev rm_X1_parse : Room := ({ frames := 6, cells := 0, slots := 0, locals := 205 } : Room)
noncomputable def fj_X1_parse_38  (M : Mem) : Option Mem :=
  some M
set_option maxHeartbeats 4000000 in
set_option maxRecDepth 100000 in
theorem tj_X1_parse_38 {p : Program} {l : Launch} {e : Env} {s : State} {m : MethodId} {args : Array Value} {below : List Frame} {meth : Method} {c : Code} {E : KEnv} {H : Heap} {locs : List Loc} {ls : Array Slot}  {M : Mem} {M' : Mem} (hC : CallFix p m c cX1_parse 3 s args lw_G RX1) (hr : meth.sig.returnType = none) (hlocks : meth.locks = false) (hE : EnvOK E s) (h : fj_X1_parse_38  M = some M') (hM : MOK E M H) (hS : va_S (eA E) s.heap H locs) (hl : lv_has ls 3 []) : W p l e rm_X1_parse s m args below meth c H locs 0 0 (MQ below (cQ E none M') args s 0 0 (eA E)) (F0 m 38 ls []) := by
  obtain ⟨hx, hb, hml, hown, hts⟩ := id hC
  unfold fj_X1_parse_38 at h
  cases h
  exact eV_ hx hb hr hlocks hM hS dX1_parse_38 (Nat.le_of_ble_eq_true rfl) (Nat.le_of_ble_eq_true rfl)
noncomputable def fc_X1_parse_11 (x0 : Nat) (x1 : Int32) (x2 : Int32) (M : Mem) : Option ((Int32 × Int32 × Mem) ⊕ Mem) :=
  (gI 2 33 x0 M).bind fun v5 =>
  (if v5 ≤ x2 then
  (fj_X1_parse_38 M).map Sum.inr
  else
  (if x1 = 0 then
  (fj_X1_parse_38 M).map Sum.inr
  else
  (cK 2 x0 M (f_X1_runLine x0 M)).bind fun M7 =>
  bn (cK 2 x0 M7 (f_X1_lineFollows x0 M7)) fun v8 M9 =>
  some (.inl (v8, x2 + 1, M9))))
noncomputable def fj_X1_parse_11 (x0 : Nat) (x1 : Int32) (x2 : Int32) (M : Mem) : Option Mem := loopM (fun q : (Int32 × Int32 × Mem) => fc_X1_parse_11 x0 q.1 q.2.1 q.2.2) FU (x1, x2, M)
set_option maxHeartbeats 4000000 in
set_option maxRecDepth 100000 in
theorem tj_X1_parse_11 {p : Program} {l : Launch} {e : Env} {s : State} {m : MethodId} {args : Array Value} {below : List Frame} {meth : Method} {c : Code} {E : KEnv} {H : Heap} {locs : List Loc} {ls : Array Slot} {x0 : Nat} {x1 : Int32} {x2 : Int32} {M : Mem} {M' : Mem} (hC : CallFix p m c cX1_parse 3 s args lw_G RX1) (hr : meth.sig.returnType = none) (hlocks : meth.locks = false) (hE : EnvOK E s) (h : fj_X1_parse_11 x0 x1 x2 M = some M') (hM : MOK E M H) (hS : va_S (eA E) s.heap H locs) (hl : lv_has ls 3 [(0, .ref x0), (1, .int x1), (2, .int x2)]) : W p l e rm_X1_parse s m args below meth c H locs 0 0 (MQ below (cQ E none M') args s 0 0 (eA E)) (F0 m 11 ls []) := by
  refine loopM_ind (body := fun q : (Int32 × Int32 × Mem) => fc_X1_parse_11 x0 q.1 q.2.1 q.2.2) (x0 := M') (Wd := fun q : (Int32 × Int32 × Mem) => ∀ (H : Heap) (locs : List Loc) (ls : Array Slot), MOK E (q.2.2) H → va_S (eA E) s.heap H locs → lv_has ls 3 [(0, .ref x0), (1, .int q.1), (2, .int q.2.1)] → W p l e rm_X1_parse s m args below meth c H locs 0 0 (MQ below (cQ E none M') args s 0 0 (eA E)) (F0 m 11 ls [])) ?_ FU (x1, x2, M) h H locs ls hM hS hl
  clear h hM hS hl H locs ls M x1 x2
  obtain ⟨hx, hb, hml, hown, hts⟩ := id hC
  intro q y1 h hy1 H locs ls hM hS hl
  obtain ⟨x1, x2, M⟩ := q
  have h : fc_X1_parse_11 x0 x1 x2 M = some y1 := h
  have hM : MOK E M H := hM
  have hl : lv_has ls 3 [(0, .ref x0), (1, .int x1), (2, .int x2)] := hl
  unfold fc_X1_parse_11 at h
  show W p l e rm_X1_parse s m args below meth c H locs _ _ _ _
  refine lv_iload_n hx hb dX1_parse_11 rfl (lv_at hl 2 rfl) ?_
  refine lv_aload_n hx hb dX1_parse_12 rfl (lv_at hl 0 rfl) ?_
  obtain ⟨v5, h1, h⟩ := ob h
  refine rg_1_1 hx hb hts hown hE hM qw_205 h1 dX1_parse_13 ?_
  refine lv_icmp_ge (tgt := 38) hx hb dX1_parse_16 (by decide) (fun c1 => ?_) (fun c1 => ?_)
  · have h := ifp c1 h
    obtain ⟨z0, h9, rfl⟩ := om h
    have e0 := hy1.2 _ rfl
    subst e0
    have h := h9
    refine W.widen (k := 0) (n := 0) (Nat.le_of_ble_eq_true rfl) (Nat.le_of_ble_eq_true rfl) ?_
    exact tj_X1_parse_38  hC hr hlocks hE  h hM hS (lv_sub hl [] rfl)
  · have h := ifn c1 h
    refine lv_iload_n hx hb dX1_parse_19 rfl (lv_at hl 1 rfl) ?_
    refine lv_if_eq (tgt := 38) hx hb dX1_parse_20 (by decide) (fun c1 => ?_) (fun c1 => ?_)
    · have h := ifp c1 h
      obtain ⟨z0, h9, rfl⟩ := om h
      have e0 := hy1.2 _ rfl
      subst e0
      have h := h9
      refine W.widen (k := 0) (n := 0) (Nat.le_of_ble_eq_true rfl) (Nat.le_of_ble_eq_true rfl) ?_
      exact tj_X1_parse_38  hC hr hlocks hE  h hM hS (lv_sub hl [] rfl)
    · have h := ifn c1 h
      refine lv_aload_n hx hb dX1_parse_23 rfl (lv_at hl 0 rfl) ?_
      obtain ⟨M7, h1, h⟩ := ob h
      obtain ⟨hk1, h1⟩ := ifg h1
      refine kV0 (ci := 1) (As := []) (rest := []) hC hE hS hM (mt_X1_runLine _ E x0 _ _ h1) (gwV qw_300 qw_302 qw_7 qw_43 qw_303) ⟨rfl, rfl, (Nat.le_of_ble_eq_true rfl), (Nat.le_of_ble_eq_true rfl)⟩ dd_X1_runLine rfl hk1 rfl rfl hl.1 (Nat.le_of_ble_eq_true rfl) dX1_parse_24 ⟨(Nat.le_of_ble_eq_true rfl), (Nat.le_of_ble_eq_true rfl)⟩ (fun H locs hM hS => ?_)
      refine lv_aload_n hx hb dX1_parse_27 rfl (lv_at hl 0 rfl) ?_
      obtain ⟨v8, M9, h1, h⟩ := ob2 h
      obtain ⟨hk1, h1⟩ := ifg h1
      refine kV1 (ci := 1) (As := []) (rest := []) hC hE hS hM (mt_X1_lineFollows _ E x0 _ _ _ h1) (gwV qw_296 qw_298 qw_6 qw_43 qw_299) ⟨rfl, rfl, (Nat.le_of_ble_eq_true rfl), (Nat.le_of_ble_eq_true rfl)⟩ dd_X1_lineFollows rfl hk1 rfl rfl hl.1 (Nat.le_of_ble_eq_true rfl) dX1_parse_28 ⟨(Nat.le_of_ble_eq_true rfl), (Nat.le_of_ble_eq_true rfl)⟩ (fun H locs hM hS => ?_)
      refine lv_istore_n (lv' := [(1, .int v8), (0, .ref x0), (2, .int x2)]) hx hb dX1_parse_31 rfl hl (by decide) rfl (fun ls hl => ?_)
      refine lv_iinc (v := x2 + 1) (lv' := [(2, .int (x2 + 1)), (1, .int v8), (0, .ref x0)]) hx hb dX1_parse_32 hl (k := 2) rfl rfl (by decide) rfl (fun ls hl => ?_)
      refine lv_goto (tgt := 11) hx hb dX1_parse_35 (by decide) ?_
      cases h
      exact hy1.1 _ rfl _ _ _ hM hS (lv_sub hl [2, 1, 0] rfl)
noncomputable def f_X1_parse (this : Nat) (M : Mem) : Option Mem :=
  (cK 2 this M (f_X1_runFirstLine this M)).bind fun M2 =>
  bn (cK 2 this M2 (f_X1_lineFollows this M2)) fun v3 M4 =>
  fj_X1_parse_11 this v3 0 M4
set_option maxHeartbeats 4000000 in
set_option maxRecDepth 100000 in
theorem mt_X1_parse (l : Launch) (E : KEnv) (this : Nat) (M M' : Mem) (h : f_X1_parse this M = some M') : Met l yX1_parse (Cond.code yX1_parse cX1_parse 3 none :: lw_G) rm_X1_parse (cPc E [.ref this] M) (cQ E none M') 0 0 (eA E) := by
  refine Met.ofW (cc := cX1_parse) (maxL := 3) (ret := none) (by decide) rfl ?_
  intro p e s m args below meth c s₁ B hml hv
  obtain ⟨rfl, hE, hM⟩ := hv
  have hx := B.exec
  have hb := B.bytes
  have hr := B.returns
  have hts0 := atoms_spec (ws := Cond.code yX1_parse cX1_parse 3 none :: lw_G) B.pre
  have hts : ∀ w ∈ lw_G, w.before _ s = true := fun w hw => hts0 w (List.mem_cons_of_mem _ hw)
  have hown : s.vm.findClass RX1 = some m.cls := findClass_of_methodNamed B.named
  have hlocks := B.notSynchronized
  have hC : CallFix p m c cX1_parse 3 s _ lw_G RX1 := ⟨hx, hb, hml, hown, hts⟩
  have hS : va_S (eA E) s.heap s.heap [] := va_S.rf
  have hl := lv_entry ([.ref this]) (n := 3) (Nat.le_of_ble_eq_true rfl)
  rw [lg_entry_eq]
  generalize (lg_sl ([.ref this]) ++ List.replicate (3 - (lg_sl ([.ref this])).length) Slot.unset).toArray = ls at hl ⊢
  have hl : lv_has ls 3 [(0, .ref this)] := hl
  unfold f_X1_parse at h
  show W p l e rm_X1_parse s m _ below meth c s.heap [] 0 0 _ _
  refine lv_aload_n hx hb dX1_parse_0 rfl (lv_at hl 0 rfl) ?_
  obtain ⟨M2, h1, h⟩ := ob h
  obtain ⟨hk1, h1⟩ := ifg h1
  refine kV0 (ci := 1) (As := []) (rest := []) hC hE hS hM (mt_X1_runFirstLine _ E this _ _ h1) (gwV qw_236 qw_238 qw_0 qw_43 qw_239) ⟨rfl, rfl, (Nat.le_of_ble_eq_true rfl), (Nat.le_of_ble_eq_true rfl)⟩ dd_X1_runFirstLine rfl hk1 rfl rfl hl.1 (Nat.le_of_ble_eq_true rfl) dX1_parse_1 ⟨(Nat.le_of_ble_eq_true rfl), (Nat.le_of_ble_eq_true rfl)⟩ (fun H locs hM hS => ?_)
  refine lv_aload_n hx hb dX1_parse_4 rfl (lv_at hl 0 rfl) ?_
  obtain ⟨v3, M4, h1, h⟩ := ob2 h
  obtain ⟨hk1, h1⟩ := ifg h1
  refine kV1 (ci := 1) (As := []) (rest := []) hC hE hS hM (mt_X1_lineFollows _ E this _ _ _ h1) (gwV qw_296 qw_298 qw_6 qw_43 qw_299) ⟨rfl, rfl, (Nat.le_of_ble_eq_true rfl), (Nat.le_of_ble_eq_true rfl)⟩ dd_X1_lineFollows rfl hk1 rfl rfl hl.1 (Nat.le_of_ble_eq_true rfl) dX1_parse_5 ⟨(Nat.le_of_ble_eq_true rfl), (Nat.le_of_ble_eq_true rfl)⟩ (fun H locs hM hS => ?_)
  refine lv_istore_n (lv' := [(1, .int v3), (0, .ref this)]) hx hb dX1_parse_8 rfl hl (by decide) rfl (fun ls hl => ?_)
  refine lv_iconst (v := 0) hx hb dX1_parse_9 (by decide) ?_
  refine lv_istore_n (lv' := [(2, .int 0), (1, .int v3), (0, .ref this)]) hx hb dX1_parse_10 rfl hl (by decide) rfl (fun ls hl => ?_)
  refine W.widen (k := 0) (n := 0) (Nat.le_of_ble_eq_true rfl) (Nat.le_of_ble_eq_true rfl) ?_
  exact tj_X1_parse_11  hC hr hlocks hE  h hM hS (lv_sub hl [2, 1, 0] rfl)
