/-! printed by wip/p56/gen2.py: methods as functions over the memory, and that the code does what they say -/
theorem dd_X0_init : yX0_init.cls = RX0 ∧ yX0_init.cls ≠ "java/lang/invoke/MethodHandle" ∧ yX0_init.cls ≠ "java/lang/invoke/VarHandle" ∧ (parseMethodDescriptor yX0_init.desc).map (fun d => d.parameters.length) = some 0 := by decide +kernel
abbrev rm_X0_init : Room := ({ frames := 1, cells := 1, slots := 10, locals := 24 } : Room)
noncomputable def f_X0_init (this : Nat) (M : Mem) : Option Mem :=
  bnewa 11 10 M fun v1 M2 =>
  (sR 1 0 this (some v1) M2).bind fun M3 =>
  (sI 1 1 this 0 M3).bind fun M4 =>
  (sI 1 2 this 0 M4).bind fun M5 =>
  some M5
set_option maxHeartbeats 4000000 in
set_option maxRecDepth 100000 in
theorem mt_X0_init (l : Launch) (E : KEnv) (this : Nat) (M M' : Mem) (h : f_X0_init this M = some M') : Met l yX0_init (Cond.code yX0_init cX0_init 1 none :: lw_G) rm_X0_init (cPc E [.ref this] M) (cQ E none M') 1 10 (eA E) := by
  refine Met.ofW (cc := cX0_init) (maxL := 1) (ret := none) (by decide) rfl ?_
  intro p e s m args below meth c s₁ B hml hv
  obtain ⟨rfl, hE, hM⟩ := hv
  have hx := B.exec
  have hb := B.bytes
  have hr := B.returns
  have hts0 := atoms_spec (ws := Cond.code yX0_init cX0_init 1 none :: lw_G) B.pre
  have hts : ∀ w ∈ lw_G, w.before _ s = true := fun w hw => hts0 w (List.mem_cons_of_mem _ hw)
  have hown : s.vm.findClass RX0 = some m.cls := findClass_of_methodNamed B.named
  have hlocks := B.notSynchronized
  have hin : meth.name = "<init>" := (name_of_methodNamed B.named B.method).1
  have hC : CallFix p m c cX0_init 1 s _ lw_G RX0 := ⟨hx, hb, hml, hown, hts⟩
  have hS : va_S (eA E) s.heap s.heap [] := va_S.rf
  have hl := lv_entry ([.ref this]) (n := 1) (Nat.le_of_ble_eq_true rfl)
  rw [lg_entry_eq]
  generalize (lg_sl ([.ref this]) ++ List.replicate (1 - (lg_sl ([.ref this])).length) Slot.unset).toArray = ls at hl ⊢
  have hl : lv_has ls 1 [(0, .ref this)] := hl
  unfold f_X0_init at h
  show W p l e rm_X0_init s m _ below meth c s.heap [] 0 0 _ _
  refine lv_aload_n hx hb dX0_init_0 rfl (lv_at hl 0 rfl) ?_
  refine oInit hx hb hown (hts _ qw_128) (hts _ qw_67) (hts _ qw_68) (hl.1.trans hml.symm) dX0_init_1 (Nat.le_of_ble_eq_true rfl) (Nat.le_of_ble_eq_true rfl) ?_
  refine lv_aload_n hx hb dX0_init_4 rfl (lv_at hl 0 rfl) ?_
  refine lv_bipush (v := 10) hx hb dX0_init_5 (by decide) ?_
  obtain ⟨v1, M2, eq, eM, h⟩ := obnewa h
  refine rna_W (N' := 10) hx hb hts hown qw_129 hE hM hS (by decide) (by decide) (Nat.le_of_ble_eq_true rfl) (Nat.le_of_ble_eq_true rfl) (Nat.le_of_ble_eq_true rfl) eq eM dX0_init_7 (fun H hM hS => ?_)
  obtain ⟨M3, h1, h⟩ := ob h
  refine rp_0_0 hx hb hts hown hE hM qw_131 hin rfl hS h1 dX0_init_10 (fun H locs hM hS => ?_)
  refine lv_aload_n hx hb dX0_init_13 rfl (lv_at hl 0 rfl) ?_
  refine lv_iconst (v := 0) hx hb dX0_init_14 (by decide) ?_
  obtain ⟨M4, h1, h⟩ := ob h
  refine rp_0_1 hx hb hts hown hE hM qw_132 hS h1 dX0_init_15 (fun H locs hM hS => ?_)
  refine lv_aload_n hx hb dX0_init_18 rfl (lv_at hl 0 rfl) ?_
  refine lv_iconst (v := 0) hx hb dX0_init_19 (by decide) ?_
  obtain ⟨M5, h1, h⟩ := ob h
  refine rp_0_2 hx hb hts hown hE hM qw_133 hS h1 dX0_init_20 (fun H locs hM hS => ?_)
  cases h
  exact eV_ hx hb hr hlocks hM hS dX0_init_23 (Nat.le_of_ble_eq_true rfl) (Nat.le_of_ble_eq_true rfl)

theorem dd_X0_forget : yX0_forget.cls = RX0 ∧ yX0_forget.cls ≠ "java/lang/invoke/MethodHandle" ∧ yX0_forget.cls ≠ "java/lang/invoke/VarHandle" ∧ (parseMethodDescriptor yX0_forget.desc).map (fun d => d.parameters.length) = some 0 := by decide +kernel
abbrev rm_X0_forget : Room := ({ frames := 0, cells := 0, slots := 0, locals := 0 } : Room)
noncomputable def f_X0_forget (this : Nat) (M : Mem) : Option Mem :=
  (sI 1 2 this 0 M).bind fun M1 =>
  some M1
set_option maxHeartbeats 4000000 in
set_option maxRecDepth 100000 in
theorem mt_X0_forget (l : Launch) (E : KEnv) (this : Nat) (M M' : Mem) (h : f_X0_forget this M = some M') : Met l yX0_forget (Cond.code yX0_forget cX0_forget 1 none :: lw_G) rm_X0_forget (cPc E [.ref this] M) (cQ E none M') 0 0 (eA E) := by
  refine Met.ofW (cc := cX0_forget) (maxL := 1) (ret := none) (by decide) rfl ?_
  intro p e s m args below meth c s₁ B hml hv
  obtain ⟨rfl, hE, hM⟩ := hv
  have hx := B.exec
  have hb := B.bytes
  have hr := B.returns
  have hts0 := atoms_spec (ws := Cond.code yX0_forget cX0_forget 1 none :: lw_G) B.pre
  have hts : ∀ w ∈ lw_G, w.before _ s = true := fun w hw => hts0 w (List.mem_cons_of_mem _ hw)
  have hown : s.vm.findClass RX0 = some m.cls := findClass_of_methodNamed B.named
  have hlocks := B.notSynchronized
  have hC : CallFix p m c cX0_forget 1 s _ lw_G RX0 := ⟨hx, hb, hml, hown, hts⟩
  have hS : va_S (eA E) s.heap s.heap [] := va_S.rf
  have hl := lv_entry ([.ref this]) (n := 1) (Nat.le_of_ble_eq_true rfl)
  rw [lg_entry_eq]
  generalize (lg_sl ([.ref this]) ++ List.replicate (1 - (lg_sl ([.ref this])).length) Slot.unset).toArray = ls at hl ⊢
  have hl : lv_has ls 1 [(0, .ref this)] := hl
  unfold f_X0_forget at h
  show W p l e rm_X0_forget s m _ below meth c s.heap [] 0 0 _ _
  refine lv_aload_n hx hb dX0_forget_0 rfl (lv_at hl 0 rfl) ?_
  refine lv_iconst (v := 0) hx hb dX0_forget_1 (by decide) ?_
  obtain ⟨M1, h1, h⟩ := ob h
  refine rp_0_2 hx hb hts hown hE hM qw_133 hS h1 dX0_forget_2 (fun H locs hM hS => ?_)
  cases h
  exact eV_ hx hb hr hlocks hM hS dX0_forget_5 (Nat.le_of_ble_eq_true rfl) (Nat.le_of_ble_eq_true rfl)

theorem dd_X0_rowAt : yX0_rowAt.cls = RX0 ∧ yX0_rowAt.cls ≠ "java/lang/invoke/MethodHandle" ∧ yX0_rowAt.cls ≠ "java/lang/invoke/VarHandle" ∧ (parseMethodDescriptor yX0_rowAt.desc).map (fun d => d.parameters.length) = some 1 := by decide +kernel
abbrev rm_X0_rowAt : Room := ({ frames := 3, cells := 24, slots := 1353, locals := 65 } : Room)
noncomputable def fj_X0_rowAt_22 (x0 : Nat) (x1 : Int32) (M : Mem) : Option (Nat × Mem) :=
  (gRn 1 0 x0 M).bind fun v10 =>
  (gBn 11 v10 x1 M).bind fun v11 =>
  some (v11, M)
set_option maxHeartbeats 4000000 in
set_option maxRecDepth 100000 in
theorem tj_X0_rowAt_22 {p : Program} {l : Launch} {e : Env} {s : State} {m : MethodId} {args : Array Value} {below : List Frame} {meth : Method} {c : Code} {E : KEnv} {H : Heap} {locs : List Loc} {ls : Array Slot} {x0 : Nat} {x1 : Int32} {M : Mem} {v : Nat} {M' : Mem} (hC : CallFix p m c cX0_rowAt 2 s args lw_G RX0) (hr : meth.sig.returnType = (some (.object "OfflineNotes$World"))) (hlocks : meth.locks = false) (hE : EnvOK E s) (h : fj_X0_rowAt_22 x0 x1 M = some (v, M')) (hM : MOK E M H) (hS : va_S (eA E) s.heap H locs) (hl : lv_has ls 2 [(0, .ref x0), (1, .int x1)]) : W p l e rm_X0_rowAt s m args below meth c H locs 24 1353 (MQ below (cQ E (some (.ref v)) M') args s 24 1353 (eA E)) (F0 m 22 ls []) := by
  obtain ⟨hx, hb, hml, hown, hts⟩ := id hC
  unfold fj_X0_rowAt_22 at h
  refine lv_aload_n hx hb dX0_rowAt_22 rfl (lv_at hl 0 rfl) ?_
  obtain ⟨v10, h1, h⟩ := ob h
  refine rgn_0_0 hx hb hts hown hE hM qw_131 h1 dX0_rowAt_23 ?_
  refine lv_iload_n hx hb dX0_rowAt_26 rfl (lv_at hl 1 rfl) ?_
  obtain ⟨v11, h1, h⟩ := ob h
  refine r_aldnW hx hb hE hM h1 dX0_rowAt_27 ?_
  cases h
  exact eR hx hb hr (by first | exact Or.inl ⟨_, rfl⟩ | exact Or.inr ⟨_, rfl⟩) hlocks hM hS dX0_rowAt_28 (Nat.le_of_ble_eq_true rfl) (Nat.le_of_ble_eq_true rfl)
noncomputable def f_X0_rowAt (this : Nat) (a1 : Int32) (M : Mem) : Option (Nat × Mem) :=
  (gRn 1 0 this M).bind fun v1 =>
  (gB 11 v1 a1 M).bind fun v2 =>
  (match v2 with
  | none =>
  (gRn 1 0 this M).bind fun v4 =>
  bnew 4 M fun v5 M6 =>
  (f_X3_init v5 M6).bind fun M8 =>
  (sBn 11 4 v4 a1 v5 M8).bind fun M9 =>
  fj_X0_rowAt_22 this a1 M9
  | some v3 =>
  fj_X0_rowAt_22 this a1 M)
set_option maxHeartbeats 4000000 in
set_option maxRecDepth 100000 in
theorem mt_X0_rowAt (l : Launch) (E : KEnv) (this : Nat) (a1 : Int32) (M M' : Mem) (v : Nat) (h : f_X0_rowAt this a1 M = some (v, M')) : Met l yX0_rowAt (Cond.code yX0_rowAt cX0_rowAt 2 (some (.object "OfflineNotes$World")) :: lw_G) rm_X0_rowAt (cPc E [.ref this, .int a1] M) (cQ E (some (.ref v)) M') 24 1353 (eA E) := by
  refine Met.ofW (cc := cX0_rowAt) (maxL := 2) (ret := (some (.object "OfflineNotes$World"))) (by decide) rfl ?_
  intro p e s m args below meth c s₁ B hml hv
  obtain ⟨rfl, hE, hM⟩ := hv
  have hx := B.exec
  have hb := B.bytes
  have hr := B.returns
  have hts0 := atoms_spec (ws := Cond.code yX0_rowAt cX0_rowAt 2 (some (.object "OfflineNotes$World")) :: lw_G) B.pre
  have hts : ∀ w ∈ lw_G, w.before _ s = true := fun w hw => hts0 w (List.mem_cons_of_mem _ hw)
  have hown : s.vm.findClass RX0 = some m.cls := findClass_of_methodNamed B.named
  have hlocks := B.notSynchronized
  have hC : CallFix p m c cX0_rowAt 2 s _ lw_G RX0 := ⟨hx, hb, hml, hown, hts⟩
  have hS : va_S (eA E) s.heap s.heap [] := va_S.rf
  have hl := lv_entry ([.ref this, .int a1]) (n := 2) (Nat.le_of_ble_eq_true rfl)
  rw [lg_entry_eq]
  generalize (lg_sl ([.ref this, .int a1]) ++ List.replicate (2 - (lg_sl ([.ref this, .int a1])).length) Slot.unset).toArray = ls at hl ⊢
  have hl : lv_has ls 2 [(0, .ref this), (1, .int a1)] := hl
  unfold f_X0_rowAt at h
  show W p l e rm_X0_rowAt s m _ below meth c s.heap [] 0 0 _ _
  refine lv_aload_n hx hb dX0_rowAt_0 rfl (lv_at hl 0 rfl) ?_
  obtain ⟨v1, h1, h⟩ := ob h
  refine rgn_0_0 hx hb hts hown hE hM qw_131 h1 dX0_rowAt_1 ?_
  refine lv_iload_n hx hb dX0_rowAt_4 rfl (lv_at hl 1 rfl) ?_
  obtain ⟨v2, h1, h⟩ := ob h
  refine r_aldW hx hb hE hM h1 dX0_rowAt_5 ?_
  cases v2 with
  | none =>
    refine lv_ifnonnullN hx hb dX0_rowAt_6 ?_
    refine lv_aload_n hx hb dX0_rowAt_9 rfl (lv_at hl 0 rfl) ?_
    obtain ⟨v4, h1, h⟩ := ob h
    refine rgn_0_0 hx hb hts hown hE hM qw_131 h1 dX0_rowAt_10 ?_
    refine lv_iload_n hx hb dX0_rowAt_13 rfl (lv_at hl 1 rfl) ?_
    obtain ⟨v5, M6, eq, eM, h⟩ := obnew h
    refine rn_3 hx hb hts hown hE hM hS qw_129 qw_70 qw_40 eq eM (Nat.le_of_ble_eq_true rfl) (Nat.le_of_ble_eq_true rfl) dX0_rowAt_14 (fun H hM hS => ?_)
    refine lv_dup hx hb dX0_rowAt_17 rfl ?_
    obtain ⟨M8, h1, h⟩ := ob h
    refine kI (As := []) (rest := [.ref v5, .int a1, .ref v4]) hC hE hS hM (mt_X3_init _ E v5 _ _ h1) qw_73 qw_534 qw_72 qw_40 ⟨rfl, rfl, (Nat.le_of_ble_eq_true rfl), (Nat.le_of_ble_eq_true rfl)⟩ dd_X3_init.2 rfl rfl rfl hl.1 (Nat.le_of_ble_eq_true rfl) dX0_rowAt_18 ⟨(Nat.le_of_ble_eq_true rfl), (Nat.le_of_ble_eq_true rfl)⟩ (fun H locs hM hS => ?_)
    obtain ⟨M9, h1, h⟩ := ob h
    refine r_astW hx hb hE hM hS h1 dX0_rowAt_21 (fun H locs hM hS => ?_)
    refine W.widen (k := 24) (n := 1353) (Nat.le_of_ble_eq_true rfl) (Nat.le_of_ble_eq_true rfl) ?_
    exact tj_X0_rowAt_22  hC hr hlocks hE  h hM hS (lv_sub hl [0, 1] rfl)
  | some v3 =>
    refine lv_ifnonnull (tgt := 22) hx hb dX0_rowAt_6 (by decide) ?_
    refine W.widen (k := 24) (n := 1353) (Nat.le_of_ble_eq_true rfl) (Nat.le_of_ble_eq_true rfl) ?_
    exact tj_X0_rowAt_22  hC hr hlocks hE  h hM hS (lv_sub hl [0, 1] rfl)

theorem dd_X0_record : yX0_record.cls = RX0 ∧ yX0_record.cls ≠ "java/lang/invoke/MethodHandle" ∧ yX0_record.cls ≠ "java/lang/invoke/VarHandle" ∧ (parseMethodDescriptor yX0_record.desc).map (fun d => d.parameters.length) = some 1 := by decide +kernel
abbrev rm_X0_record : Room := ({ frames := 4, cells := 24, slots := 1353, locals := 103 } : Room)
noncomputable def f_X0_record (this : Nat) (a1 : Nat) (M : Mem) : Option Mem :=
  (gI 1 1 this M).bind fun v1 =>
  bn (cK 1 this M (f_X0_rowAt this v1 M)) fun v2 M3 =>
  (cK 4 v2 M3 (f_X3_copyFrom v2 a1 M3)).bind fun M5 =>
  (gI 1 1 this M5).bind fun v6 =>
  (sI 1 1 this ((v6 + 1) - (v6 + 1) / 10 * 10) M5).bind fun M7 =>
  (gI 1 2 this M7).bind fun v8 =>
  (sI 1 2 this (if 10 < (v8 + 1) then 10 else (v8 + 1)) M7).bind fun M10 =>
  some M10
set_option maxHeartbeats 4000000 in
set_option maxRecDepth 100000 in
theorem mt_X0_record (l : Launch) (E : KEnv) (this : Nat) (a1 : Nat) (M M' : Mem) (h : f_X0_record this a1 M = some M') : Met l yX0_record (Cond.code yX0_record cX0_record 2 none :: lw_G) rm_X0_record (cPc E [.ref this, .ref a1] M) (cQ E none M') 24 1353 (eA E) := by
  refine Met.ofW (cc := cX0_record) (maxL := 2) (ret := none) (by decide) rfl ?_
  intro p e s m args below meth c s₁ B hml hv
  obtain ⟨rfl, hE, hM⟩ := hv
  have hx := B.exec
  have hb := B.bytes
  have hr := B.returns
  have hts0 := atoms_spec (ws := Cond.code yX0_record cX0_record 2 none :: lw_G) B.pre
  have hts : ∀ w ∈ lw_G, w.before _ s = true := fun w hw => hts0 w (List.mem_cons_of_mem _ hw)
  have hown : s.vm.findClass RX0 = some m.cls := findClass_of_methodNamed B.named
  have hlocks := B.notSynchronized
  have hC : CallFix p m c cX0_record 2 s _ lw_G RX0 := ⟨hx, hb, hml, hown, hts⟩
  have hS : va_S (eA E) s.heap s.heap [] := va_S.rf
  have hl := lv_entry ([.ref this, .ref a1]) (n := 2) (Nat.le_of_ble_eq_true rfl)
  rw [lg_entry_eq]
  generalize (lg_sl ([.ref this, .ref a1]) ++ List.replicate (2 - (lg_sl ([.ref this, .ref a1])).length) Slot.unset).toArray = ls at hl ⊢
  have hl : lv_has ls 2 [(0, .ref this), (1, .ref a1)] := hl
  unfold f_X0_record at h
  show W p l e rm_X0_record s m _ below meth c s.heap [] 0 0 _ _
  refine lv_aload_n hx hb dX0_record_0 rfl (lv_at hl 0 rfl) ?_
  refine lv_aload_n hx hb dX0_record_1 rfl (lv_at hl 0 rfl) ?_
  obtain ⟨v1, h1, h⟩ := ob h
  refine rg_0_1 hx hb hts hown hE hM qw_132 h1 dX0_record_2 ?_
  obtain ⟨v2, M3, h1, h⟩ := ob2 h
  obtain ⟨hk1, h1⟩ := ifg h1
  refine kV1 (ci := 0) (As := [.int v1]) (rest := []) hC hE hS hM (mt_X0_rowAt _ E this v1 _ _ _ h1) (gwV qw_530 qw_532 qw_22 qw_42 qw_533) ⟨rfl, rfl, (Nat.le_of_ble_eq_true rfl), (Nat.le_of_ble_eq_true rfl)⟩ dd_X0_rowAt rfl hk1 rfl rfl hl.1 (Nat.le_of_ble_eq_true rfl) dX0_record_5 ⟨(Nat.le_of_ble_eq_true rfl), (Nat.le_of_ble_eq_true rfl)⟩ (fun H locs hM hS => ?_)
  refine lv_aload_n hx hb dX0_record_8 rfl (lv_at hl 1 rfl) ?_
  obtain ⟨M5, h1, h⟩ := ob h
  obtain ⟨hk1, h1⟩ := ifg h1
  refine kV0 (ci := 3) (As := [.ref a1]) (rest := []) hC hE hS hM (mt_X3_copyFrom _ E v2 a1 _ _ h1) (gwV qw_535 qw_536 qw_537 qw_40 qw_538) ⟨rfl, rfl, (Nat.le_of_ble_eq_true rfl), (Nat.le_of_ble_eq_true rfl)⟩ dd_X3_copyFrom rfl hk1 rfl rfl hl.1 (Nat.le_of_ble_eq_true rfl) dX0_record_9 ⟨(Nat.le_of_ble_eq_true rfl), (Nat.le_of_ble_eq_true rfl)⟩ (fun H locs hM hS => ?_)
  refine lv_aload_n hx hb dX0_record_12 rfl (lv_at hl 0 rfl) ?_
  refine lv_aload_n hx hb dX0_record_13 rfl (lv_at hl 0 rfl) ?_
  obtain ⟨v6, h1, h⟩ := ob h
  refine rg_0_1 hx hb hts hown hE hM qw_132 h1 dX0_record_14 ?_
  refine lv_iconst (v := 1) hx hb dX0_record_17 (by decide) ?_
  refine lv_iadd hx hb dX0_record_18 ?_
  refine lv_bipush (v := 10) hx hb dX0_record_19 (by decide) ?_
  refine lv_irem hx hb dX0_record_21 (by decide) ?_
  obtain ⟨M7, h1, h⟩ := ob h
  refine rp_0_1 hx hb hts hown hE hM qw_132 hS h1 dX0_record_22 (fun H locs hM hS => ?_)
  refine lv_aload_n hx hb dX0_record_25 rfl (lv_at hl 0 rfl) ?_
  refine lv_aload_n hx hb dX0_record_26 rfl (lv_at hl 0 rfl) ?_
  obtain ⟨v8, h1, h⟩ := ob h
  refine rg_0_2 hx hb hts hown hE hM qw_133 h1 dX0_record_27 ?_
  refine lv_iconst (v := 1) hx hb dX0_record_30 (by decide) ?_
  refine lv_iadd hx hb dX0_record_31 ?_
  refine lv_bipush (v := 10) hx hb dX0_record_32 (by decide) ?_
  refine va_mmin hx hb (hml.trans hl.1.symm) hown (hts _ qw_539) (hts _ qw_540) (hts _ qw_48) (hts _ qw_541) (Nat.le_of_ble_eq_true rfl) (Nat.le_of_ble_eq_true rfl) (Nat.le_of_ble_eq_true rfl) (Nat.le_of_ble_eq_true rfl) dX0_record_34 ?_
  obtain ⟨M10, h1, h⟩ := ob h
  refine rp_0_2 hx hb hts hown hE hM qw_133 hS h1 dX0_record_37 (fun H locs hM hS => ?_)
  cases h
  exact eV_ hx hb hr hlocks hM hS dX0_record_40 (Nat.le_of_ble_eq_true rfl) (Nat.le_of_ble_eq_true rfl)

theorem dd_X0_exchange : yX0_exchange.cls = RX0 ∧ yX0_exchange.cls ≠ "java/lang/invoke/MethodHandle" ∧ yX0_exchange.cls ≠ "java/lang/invoke/VarHandle" ∧ (parseMethodDescriptor yX0_exchange.desc).map (fun d => d.parameters.length) = some 1 := by decide +kernel
abbrev rm_X0_exchange : Room := ({ frames := 4, cells := 24, slots := 1353, locals := 86 } : Room)
noncomputable def f_X0_exchange (this : Nat) (a1 : Nat) (M : Mem) : Option (Nat × Mem) :=
  (gI 1 1 this M).bind fun v1 =>
  (sI 1 1 this (((v1 + 10) - 1) - ((v1 + 10) - 1) / 10 * 10) M).bind fun M2 =>
  (gI 1 2 this M2).bind fun v3 =>
  (sI 1 2 this (v3 - 1) M2).bind fun M4 =>
  (gI 1 1 this M4).bind fun v5 =>
  bn (cK 1 this M4 (f_X0_rowAt this v5 M4)) fun v6 M7 =>
  (gRn 1 0 this M7).bind fun v8 =>
  (gI 1 1 this M7).bind fun v9 =>
  (sBn 11 4 v8 v9 a1 M7).bind fun M10 =>
  some (v6, M10)
set_option maxHeartbeats 4000000 in
set_option maxRecDepth 100000 in
theorem mt_X0_exchange (l : Launch) (E : KEnv) (this : Nat) (a1 : Nat) (M M' : Mem) (v : Nat) (h : f_X0_exchange this a1 M = some (v, M')) : Met l yX0_exchange (Cond.code yX0_exchange cX0_exchange 3 (some (.object "OfflineNotes$World")) :: lw_G) rm_X0_exchange (cPc E [.ref this, .ref a1] M) (cQ E (some (.ref v)) M') 24 1353 (eA E) := by
  refine Met.ofW (cc := cX0_exchange) (maxL := 3) (ret := (some (.object "OfflineNotes$World"))) (by decide) rfl ?_
  intro p e s m args below meth c s₁ B hml hv
  obtain ⟨rfl, hE, hM⟩ := hv
  have hx := B.exec
  have hb := B.bytes
  have hr := B.returns
  have hts0 := atoms_spec (ws := Cond.code yX0_exchange cX0_exchange 3 (some (.object "OfflineNotes$World")) :: lw_G) B.pre
  have hts : ∀ w ∈ lw_G, w.before _ s = true := fun w hw => hts0 w (List.mem_cons_of_mem _ hw)
  have hown : s.vm.findClass RX0 = some m.cls := findClass_of_methodNamed B.named
  have hlocks := B.notSynchronized
  have hC : CallFix p m c cX0_exchange 3 s _ lw_G RX0 := ⟨hx, hb, hml, hown, hts⟩
  have hS : va_S (eA E) s.heap s.heap [] := va_S.rf
  have hl := lv_entry ([.ref this, .ref a1]) (n := 3) (Nat.le_of_ble_eq_true rfl)
  rw [lg_entry_eq]
  generalize (lg_sl ([.ref this, .ref a1]) ++ List.replicate (3 - (lg_sl ([.ref this, .ref a1])).length) Slot.unset).toArray = ls at hl ⊢
  have hl : lv_has ls 3 [(0, .ref this), (1, .ref a1)] := hl
  unfold f_X0_exchange at h
  show W p l e rm_X0_exchange s m _ below meth c s.heap [] 0 0 _ _
  refine lv_aload_n hx hb dX0_exchange_0 rfl (lv_at hl 0 rfl) ?_
  refine lv_aload_n hx hb dX0_exchange_1 rfl (lv_at hl 0 rfl) ?_
  obtain ⟨v1, h1, h⟩ := ob h
  refine rg_0_1 hx hb hts hown hE hM qw_132 h1 dX0_exchange_2 ?_
  refine lv_bipush (v := 10) hx hb dX0_exchange_5 (by decide) ?_
  refine lv_iadd hx hb dX0_exchange_7 ?_
  refine lv_iconst (v := 1) hx hb dX0_exchange_8 (by decide) ?_
  refine lv_isub hx hb dX0_exchange_9 ?_
  refine lv_bipush (v := 10) hx hb dX0_exchange_10 (by decide) ?_
  refine lv_irem hx hb dX0_exchange_12 (by decide) ?_
  obtain ⟨M2, h1, h⟩ := ob h
  refine rp_0_1 hx hb hts hown hE hM qw_132 hS h1 dX0_exchange_13 (fun H locs hM hS => ?_)
  refine lv_aload_n hx hb dX0_exchange_16 rfl (lv_at hl 0 rfl) ?_
  refine lv_dup hx hb dX0_exchange_17 rfl ?_
  obtain ⟨v3, h1, h⟩ := ob h
  refine rg_0_2 hx hb hts hown hE hM qw_133 h1 dX0_exchange_18 ?_
  refine lv_iconst (v := 1) hx hb dX0_exchange_21 (by decide) ?_
  refine lv_isub hx hb dX0_exchange_22 ?_
  obtain ⟨M4, h1, h⟩ := ob h
  refine rp_0_2 hx hb hts hown hE hM qw_133 hS h1 dX0_exchange_23 (fun H locs hM hS => ?_)
  refine lv_aload_n hx hb dX0_exchange_26 rfl (lv_at hl 0 rfl) ?_
  refine lv_aload_n hx hb dX0_exchange_27 rfl (lv_at hl 0 rfl) ?_
  obtain ⟨v5, h1, h⟩ := ob h
  refine rg_0_1 hx hb hts hown hE hM qw_132 h1 dX0_exchange_28 ?_
  obtain ⟨v6, M7, h1, h⟩ := ob2 h
  obtain ⟨hk1, h1⟩ := ifg h1
  refine kV1 (ci := 0) (As := [.int v5]) (rest := []) hC hE hS hM (mt_X0_rowAt _ E this v5 _ _ _ h1) (gwV qw_530 qw_532 qw_22 qw_42 qw_533) ⟨rfl, rfl, (Nat.le_of_ble_eq_true rfl), (Nat.le_of_ble_eq_true rfl)⟩ dd_X0_rowAt rfl hk1 rfl rfl hl.1 (Nat.le_of_ble_eq_true rfl) dX0_exchange_31 ⟨(Nat.le_of_ble_eq_true rfl), (Nat.le_of_ble_eq_true rfl)⟩ (fun H locs hM hS => ?_)
  refine lv_astore_n (lv' := [(2, .ref v6), (0, .ref this), (1, .ref a1)]) hx hb dX0_exchange_34 rfl hl (by decide) rfl (fun ls hl => ?_)
  refine lv_aload_n hx hb dX0_exchange_35 rfl (lv_at hl 1 rfl) ?_
  obtain ⟨v8, h1, h⟩ := ob h
  refine rgn_0_0 hx hb hts hown hE hM qw_131 h1 dX0_exchange_36 ?_
  refine lv_aload_n hx hb dX0_exchange_39 rfl (lv_at hl 1 rfl) ?_
  obtain ⟨v9, h1, h⟩ := ob h
  refine rg_0_1 hx hb hts hown hE hM qw_132 h1 dX0_exchange_40 ?_
  refine lv_aload_n hx hb dX0_exchange_43 rfl (lv_at hl 2 rfl) ?_
  obtain ⟨M10, h1, h⟩ := ob h
  refine r_astW hx hb hE hM hS h1 dX0_exchange_44 (fun H locs hM hS => ?_)
  refine lv_aload_n hx hb dX0_exchange_45 rfl (lv_at hl 0 rfl) ?_
  cases h
  exact eR hx hb hr (by first | exact Or.inl ⟨_, rfl⟩ | exact Or.inr ⟨_, rfl⟩) hlocks hM hS dX0_exchange_46 (Nat.le_of_ble_eq_true rfl) (Nat.le_of_ble_eq_true rfl)
