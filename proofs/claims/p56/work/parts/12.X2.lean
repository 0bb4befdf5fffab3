/-! printed by wip/p56/gen2.py: methods as functions over the memory, and that the code does what they say -/
theorem dd_X2_init : yX2_init.cls = RX2 ∧ yX2_init.cls ≠ "java/lang/invoke/MethodHandle" ∧ yX2_init.cls ≠ "java/lang/invoke/VarHandle" ∧ (parseMethodDescriptor yX2_init.desc).map (fun d => d.parameters.length) = some 0 := by decide +kernel
abbrev rm_X2_init : Room := ({ frames := 1, cells := 1, slots := 132, locals := 24 } : Room)
noncomputable def f_X2_init (this : Nat) (M : Mem) : Option Mem :=
  bnewa 9 132 M fun v1 M2 =>
  (sR 3 64 this (some v1) M2).bind fun M3 =>
  some M3
set_option maxHeartbeats 4000000 in
set_option maxRecDepth 100000 in
theorem mt_X2_init (l : Launch) (E : KEnv) (this : Nat) (M M' : Mem) (h : f_X2_init this M = some M') : Met l yX2_init (Cond.code yX2_init cX2_init 1 none :: lw_G) rm_X2_init (cPc E [.ref this] M) (cQ E none M') 1 132 (eA E) := by
  refine Met.ofW (cc := cX2_init) (maxL := 1) (ret := none) (by decide) rfl ?_
  intro p e s m args below meth c s₁ B hml hv
  obtain ⟨rfl, hE, hM⟩ := hv
  have hx := B.exec
  have hb := B.bytes
  have hr := B.returns
  have hts0 := atoms_spec (ws := Cond.code yX2_init cX2_init 1 none :: lw_G) B.pre
  have hts : ∀ w ∈ lw_G, w.before _ s = true := fun w hw => hts0 w (List.mem_cons_of_mem _ hw)
  have hown : s.vm.findClass RX2 = some m.cls := findClass_of_methodNamed B.named
  have hlocks := B.notSynchronized
  have hin : meth.name = "<init>" := (name_of_methodNamed B.named B.method).1
  have hC : CallFix p m c cX2_init 1 s _ lw_G RX2 := ⟨hx, hb, hml, hown, hts⟩
  have hS : va_S (eA E) s.heap s.heap [] := va_S.rf
  have hl := lv_entry ([.ref this]) (n := 1) (Nat.le_of_ble_eq_true rfl)
  rw [lg_entry_eq]
  generalize (lg_sl ([.ref this]) ++ List.replicate (1 - (lg_sl ([.ref this])).length) Slot.unset).toArray = ls at hl ⊢
  have hl : lv_has ls 1 [(0, .ref this)] := hl
  unfold f_X2_init at h
  show W p l e rm_X2_init s m _ below meth c s.heap [] 0 0 _ _
  refine lv_aload_n hx hb dX2_init_0 rfl (lv_at hl 0 rfl) ?_
  refine oInit hx hb hown (hts _ qw_81) (hts _ qw_67) (hts _ qw_68) (hl.1.trans hml.symm) dX2_init_1 (Nat.le_of_ble_eq_true rfl) (Nat.le_of_ble_eq_true rfl) ?_
  refine lv_aload_n hx hb dX2_init_4 rfl (lv_at hl 0 rfl) ?_
  refine lv_sipush (v := 132) hx hb dX2_init_5 (by decide) ?_
  obtain ⟨v1, M2, eq, eM, h⟩ := obnewa h
  refine rna_int (N' := 132) hx hb hts qw_87 hE hM hS (by decide) (by decide) (Nat.le_of_ble_eq_true rfl) (Nat.le_of_ble_eq_true rfl) (Nat.le_of_ble_eq_true rfl) eq eM dX2_init_8 (fun H hM hS => ?_)
  obtain ⟨M3, h1, h⟩ := ob h
  refine rp_2_0 hx hb hts hown hE hM qw_82 hin rfl hS h1 dX2_init_10 (fun H locs hM hS => ?_)
  cases h
  exact eV_ hx hb hr hlocks hM hS dX2_init_13 (Nat.le_of_ble_eq_true rfl) (Nat.le_of_ble_eq_true rfl)

theorem dd_X2_empty : yX2_empty.cls = RX2 ∧ yX2_empty.cls ≠ "java/lang/invoke/MethodHandle" ∧ yX2_empty.cls ≠ "java/lang/invoke/VarHandle" ∧ (parseMethodDescriptor yX2_empty.desc).map (fun d => d.parameters.length) = some 0 := by decide +kernel
abbrev rm_X2_empty : Room := ({ frames := 0, cells := 0, slots := 0, locals := 0 } : Room)
noncomputable def fc_X2_empty_2 (x0 : Nat) (x1 : Int32) (M : Mem) : Option ((Int32 × Mem) ⊕ Mem) :=
  (if (132 : Int32) ≤ x1 then
  some (.inr (M))
  else
  (gRn 3 64 x0 M).bind fun v1 =>
  (sA 9 v1 x1 0 M).bind fun M2 =>
  some (.inl (x1 + 1, M2)))
noncomputable def fj_X2_empty_2 (x0 : Nat) (x1 : Int32) (M : Mem) : Option Mem := loopM (fun q : (Int32 × Mem) => fc_X2_empty_2 x0 q.1 q.2) FU (x1, M)
set_option maxHeartbeats 4000000 in
set_option maxRecDepth 100000 in
theorem tj_X2_empty_2 {p : Program} {l : Launch} {e : Env} {s : State} {m : MethodId} {args : Array Value} {below : List Frame} {meth : Method} {c : Code} {E : KEnv} {H : Heap} {locs : List Loc} {ls : Array Slot} {x0 : Nat} {x1 : Int32} {M : Mem} {M' : Mem} (hC : CallFix p m c cX2_empty 2 s args lw_G RX2) (hr : meth.sig.returnType = none) (hlocks : meth.locks = false) (hE : EnvOK E s) (h : fj_X2_empty_2 x0 x1 M = some M') (hM : MOK E M H) (hS : va_S (eA E) s.heap H locs) (hl : lv_has ls 2 [(0, .ref x0), (1, .int x1)]) : W p l e rm_X2_empty s m args below meth c H locs 0 0 (MQ below (cQ E none M') args s 0 0 (eA E)) (F0 m 2 ls []) := by
  refine loopM_ind (body := fun q : (Int32 × Mem) => fc_X2_empty_2 x0 q.1 q.2) (x0 := M') (Wd := fun q : (Int32 × Mem) => ∀ (H : Heap) (locs : List Loc) (ls : Array Slot), MOK E (q.2) H → va_S (eA E) s.heap H locs → lv_has ls 2 [(0, .ref x0), (1, .int q.1)] → W p l e rm_X2_empty s m args below meth c H locs 0 0 (MQ below (cQ E none M') args s 0 0 (eA E)) (F0 m 2 ls [])) ?_ FU (x1, M) h H locs ls hM hS hl
  clear h hM hS hl H locs ls M x1
  obtain ⟨hx, hb, hml, hown, hts⟩ := id hC
  intro q y1 h hy1 H locs ls hM hS hl
  obtain ⟨x1, M⟩ := q
  have h : fc_X2_empty_2 x0 x1 M = some y1 := h
  have hM : MOK E M H := hM
  have hl : lv_has ls 2 [(0, .ref x0), (1, .int x1)] := hl
  unfold fc_X2_empty_2 at h
  show W p l e rm_X2_empty s m args below meth c H locs _ _ _ _
  refine lv_iload_n hx hb dX2_empty_2 rfl (lv_at hl 1 rfl) ?_
  refine lv_sipush (v := 132) hx hb dX2_empty_3 (by decide) ?_
  refine lv_icmp_ge (tgt := 22) hx hb dX2_empty_6 (by decide) (fun c1 => ?_) (fun c1 => ?_)
  · have h := ifp c1 h
    cases h
    cases (hy1.2 _ rfl)
    exact eV_ hx hb hr hlocks hM hS dX2_empty_22 (Nat.le_of_ble_eq_true rfl) (Nat.le_of_ble_eq_true rfl)
  · have h := ifn c1 h
    refine lv_aload_n hx hb dX2_empty_9 rfl (lv_at hl 0 rfl) ?_
    obtain ⟨v1, h1, h⟩ := ob h
    refine rgn_2_0 hx hb hts hown hE hM qw_82 h1 dX2_empty_10 ?_
    refine lv_iload_n hx hb dX2_empty_13 rfl (lv_at hl 1 rfl) ?_
    refine lv_iconst (v := 0) hx hb dX2_empty_14 (by decide) ?_
    obtain ⟨M2, h1, h⟩ := ob h
    refine r_iast hx hb hE hM hS h1 dX2_empty_15 (fun H locs hM hS => ?_)
    refine lv_iinc (v := x1 + 1) (lv' := [(1, .int (x1 + 1)), (0, .ref x0)]) hx hb dX2_empty_16 hl (k := 1) rfl rfl (by decide) rfl (fun ls hl => ?_)
    refine lv_goto (tgt := 2) hx hb dX2_empty_19 (by decide) ?_
    cases h
    exact hy1.1 _ rfl _ _ _ hM hS (lv_sub hl [1, 0] rfl)
noncomputable def f_X2_empty (this : Nat) (M : Mem) : Option Mem :=
  fj_X2_empty_2 this 0 M
set_option maxHeartbeats 4000000 in
set_option maxRecDepth 100000 in
theorem mt_X2_empty (l : Launch) (E : KEnv) (this : Nat) (M M' : Mem) (h : f_X2_empty this M = some M') : Met l yX2_empty (Cond.code yX2_empty cX2_empty 2 none :: lw_G) rm_X2_empty (cPc E [.ref this] M) (cQ E none M') 0 0 (eA E) := by
  refine Met.ofW (cc := cX2_empty) (maxL := 2) (ret := none) (by decide) rfl ?_
  intro p e s m args below meth c s₁ B hml hv
  obtain ⟨rfl, hE, hM⟩ := hv
  have hx := B.exec
  have hb := B.bytes
  have hr := B.returns
  have hts0 := atoms_spec (ws := Cond.code yX2_empty cX2_empty 2 none :: lw_G) B.pre
  have hts : ∀ w ∈ lw_G, w.before _ s = true := fun w hw => hts0 w (List.mem_cons_of_mem _ hw)
  have hown : s.vm.findClass RX2 = some m.cls := findClass_of_methodNamed B.named
  have hlocks := B.notSynchronized
  have hC : CallFix p m c cX2_empty 2 s _ lw_G RX2 := ⟨hx, hb, hml, hown, hts⟩
  have hS : va_S (eA E) s.heap s.heap [] := va_S.rf
  have hl := lv_entry ([.ref this]) (n := 2) (Nat.le_of_ble_eq_true rfl)
  rw [lg_entry_eq]
  generalize (lg_sl ([.ref this]) ++ List.replicate (2 - (lg_sl ([.ref this])).length) Slot.unset).toArray = ls at hl ⊢
  have hl : lv_has ls 2 [(0, .ref this)] := hl
  unfold f_X2_empty at h
  show W p l e rm_X2_empty s m _ below meth c s.heap [] 0 0 _ _
  refine lv_iconst (v := 0) hx hb dX2_empty_0 (by decide) ?_
  refine lv_istore_n (lv' := [(1, .int 0), (0, .ref this)]) hx hb dX2_empty_1 rfl hl (by decide) rfl (fun ls hl => ?_)
  refine W.widen (k := 0) (n := 0) (Nat.le_of_ble_eq_true rfl) (Nat.le_of_ble_eq_true rfl) ?_
  exact tj_X2_empty_2  hC hr hlocks hE  h hM hS (lv_sub hl [1, 0] rfl)

theorem dd_X2_copyFrom : yX2_copyFrom.cls = RX2 ∧ yX2_copyFrom.cls ≠ "java/lang/invoke/MethodHandle" ∧ yX2_copyFrom.cls ≠ "java/lang/invoke/VarHandle" ∧ (parseMethodDescriptor yX2_copyFrom.desc).map (fun d => d.parameters.length) = some 1 := by decide +kernel
abbrev rm_X2_copyFrom : Room := ({ frames := 1, cells := 0, slots := 0, locals := 60 } : Room)
noncomputable def f_X2_copyFrom (this : Nat) (a1 : Nat) (M : Mem) : Option Mem :=
  (gRn 3 64 a1 M).bind fun v1 =>
  (gRn 3 64 this M).bind fun v2 =>
  (cpA v1 0 v2 0 132 M).bind fun M3 =>
  some M3
set_option maxHeartbeats 4000000 in
set_option maxRecDepth 100000 in
theorem mt_X2_copyFrom (l : Launch) (E : KEnv) (this : Nat) (a1 : Nat) (M M' : Mem) (h : f_X2_copyFrom this a1 M = some M') : Met l yX2_copyFrom (Cond.code yX2_copyFrom cX2_copyFrom 2 none :: lw_G) rm_X2_copyFrom (cPc E [.ref this, .ref a1] M) (cQ E none M') 0 0 (eA E) := by
  refine Met.ofW (cc := cX2_copyFrom) (maxL := 2) (ret := none) (by decide) rfl ?_
  intro p e s m args below meth c s₁ B hml hv
  obtain ⟨rfl, hE, hM⟩ := hv
  have hx := B.exec
  have hb := B.bytes
  have hr := B.returns
  have hts0 := atoms_spec (ws := Cond.code yX2_copyFrom cX2_copyFrom 2 none :: lw_G) B.pre
  have hts : ∀ w ∈ lw_G, w.before _ s = true := fun w hw => hts0 w (List.mem_cons_of_mem _ hw)
  have hown : s.vm.findClass RX2 = some m.cls := findClass_of_methodNamed B.named
  have hlocks := B.notSynchronized
  have hC : CallFix p m c cX2_copyFrom 2 s _ lw_G RX2 := ⟨hx, hb, hml, hown, hts⟩
  have hS : va_S (eA E) s.heap s.heap [] := va_S.rf
  have hl := lv_entry ([.ref this, .ref a1]) (n := 2) (Nat.le_of_ble_eq_true rfl)
  rw [lg_entry_eq]
  generalize (lg_sl ([.ref this, .ref a1]) ++ List.replicate (2 - (lg_sl ([.ref this, .ref a1])).length) Slot.unset).toArray = ls at hl ⊢
  have hl : lv_has ls 2 [(0, .ref this), (1, .ref a1)] := hl
  unfold f_X2_copyFrom at h
  show W p l e rm_X2_copyFrom s m _ below meth c s.heap [] 0 0 _ _
  refine lv_aload_n hx hb dX2_copyFrom_0 rfl (lv_at hl 1 rfl) ?_
  obtain ⟨v1, h1, h⟩ := ob h
  refine rgn_2_0 hx hb hts hown hE hM qw_82 h1 dX2_copyFrom_1 ?_
  refine lv_iconst (v := 0) hx hb dX2_copyFrom_4 (by decide) ?_
  refine lv_aload_n hx hb dX2_copyFrom_5 rfl (lv_at hl 0 rfl) ?_
  obtain ⟨v2, h1, h⟩ := ob h
  refine rgn_2_0 hx hb hts hown hE hM qw_82 h1 dX2_copyFrom_6 ?_
  refine lv_iconst (v := 0) hx hb dX2_copyFrom_9 (by decide) ?_
  refine lv_sipush (v := 132) hx hb dX2_copyFrom_10 (by decide) ?_
  obtain ⟨M3, h1, h⟩ := ob h
  refine r_copy hx hb (hml.trans hl.1.symm) hts hown qw_390 qw_392 qw_391 qw_49 hE hM hS h1 (Nat.le_of_ble_eq_true rfl) (Nat.le_of_ble_eq_true rfl) dX2_copyFrom_13 (fun H locs hM hS => ?_)
  cases h
  exact eV_ hx hb hr hlocks hM hS dX2_copyFrom_16 (Nat.le_of_ble_eq_true rfl) (Nat.le_of_ble_eq_true rfl)

theorem dd_X2_sameAs : yX2_sameAs.cls = RX2 ∧ yX2_sameAs.cls ≠ "java/lang/invoke/MethodHandle" ∧ yX2_sameAs.cls ≠ "java/lang/invoke/VarHandle" ∧ (parseMethodDescriptor yX2_sameAs.desc).map (fun d => d.parameters.length) = some 1 := by decide +kernel
abbrev rm_X2_sameAs : Room := ({ frames := 0, cells := 0, slots := 0, locals := 0 } : Room)
noncomputable def fj_X2_sameAs_32  (M : Mem) : Option (Int32 × Mem) :=
  some (1, M)
set_option maxHeartbeats 4000000 in
set_option maxRecDepth 100000 in
theorem tj_X2_sameAs_32 {p : Program} {l : Launch} {e : Env} {s : State} {m : MethodId} {args : Array Value} {below : List Frame} {meth : Method} {c : Code} {E : KEnv} {H : Heap} {locs : List Loc} {ls : Array Slot}  {M : Mem} {v : Int32} {M' : Mem} (hC : CallFix p m c cX2_sameAs 3 s args lw_G RX2) (hr : meth.sig.returnType = (some .boolean)) (hlocks : meth.locks = false) (hE : EnvOK E s) (h : fj_X2_sameAs_32  M = some (v, M')) (hM : MOK E M H) (hS : va_S (eA E) s.heap H locs) (hl : lv_has ls 3 []) : W p l e rm_X2_sameAs s m args below meth c H locs 0 0 (MQ below (cQ E (some (.int v)) M') args s 0 0 (eA E)) (F0 m 32 ls []) := by
  obtain ⟨hx, hb, hml, hown, hts⟩ := id hC
  unfold fj_X2_sameAs_32 at h
  refine lv_iconst (v := 1) hx hb dX2_sameAs_32 (by decide) ?_
  cases h
  exact eZ hx hb hr hlocks hM hS dX2_sameAs_33 (Nat.le_of_ble_eq_true rfl) (Nat.le_of_ble_eq_true rfl) (by decide)
noncomputable def fj_X2_sameAs_24  (M : Mem) : Option (Int32 × Mem) :=
  some (0, M)
set_option maxHeartbeats 4000000 in
set_option maxRecDepth 100000 in
theorem tj_X2_sameAs_24 {p : Program} {l : Launch} {e : Env} {s : State} {m : MethodId} {args : Array Value} {below : List Frame} {meth : Method} {c : Code} {E : KEnv} {H : Heap} {locs : List Loc} {ls : Array Slot}  {M : Mem} {v : Int32} {M' : Mem} (hC : CallFix p m c cX2_sameAs 3 s args lw_G RX2) (hr : meth.sig.returnType = (some .boolean)) (hlocks : meth.locks = false) (hE : EnvOK E s) (h : fj_X2_sameAs_24  M = some (v, M')) (hM : MOK E M H) (hS : va_S (eA E) s.heap H locs) (hl : lv_has ls 3 []) : W p l e rm_X2_sameAs s m args below meth c H locs 0 0 (MQ below (cQ E (some (.int v)) M') args s 0 0 (eA E)) (F0 m 24 ls []) := by
  obtain ⟨hx, hb, hml, hown, hts⟩ := id hC
  unfold fj_X2_sameAs_24 at h
  refine lv_iconst (v := 0) hx hb dX2_sameAs_24 (by decide) ?_
  cases h
  exact eZ hx hb hr hlocks hM hS dX2_sameAs_25 (Nat.le_of_ble_eq_true rfl) (Nat.le_of_ble_eq_true rfl) (by decide)
noncomputable def fc_X2_sameAs_2 (x0 : Nat) (x1 : Nat) (x2 : Int32) (M : Mem) : Option ((Int32 × Mem) ⊕ (Int32 × Mem)) :=
  (if (132 : Int32) ≤ x2 then
  (fj_X2_sameAs_32 M).map Sum.inr
  else
  (gRn 3 64 x0 M).bind fun v1 =>
  (gA 9 v1 x2 M).bind fun v2 =>
  (gRn 3 64 x1 M).bind fun v3 =>
  (gA 9 v3 x2 M).bind fun v4 =>
  (if v2 = v4 then
  some (.inl (x2 + 1, M))
  else
  (fj_X2_sameAs_24 M).map Sum.inr))
noncomputable def fj_X2_sameAs_2 (x0 : Nat) (x1 : Nat) (x2 : Int32) (M : Mem) : Option (Int32 × Mem) := loopM (fun q : (Int32 × Mem) => fc_X2_sameAs_2 x0 x1 q.1 q.2) FU (x2, M)
set_option maxHeartbeats 4000000 in
set_option maxRecDepth 100000 in
theorem tj_X2_sameAs_2 {p : Program} {l : Launch} {e : Env} {s : State} {m : MethodId} {args : Array Value} {below : List Frame} {meth : Method} {c : Code} {E : KEnv} {H : Heap} {locs : List Loc} {ls : Array Slot} {x0 : Nat} {x1 : Nat} {x2 : Int32} {M : Mem} {v : Int32} {M' : Mem} (hC : CallFix p m c cX2_sameAs 3 s args lw_G RX2) (hr : meth.sig.returnType = (some .boolean)) (hlocks : meth.locks = false) (hE : EnvOK E s) (h : fj_X2_sameAs_2 x0 x1 x2 M = some (v, M')) (hM : MOK E M H) (hS : va_S (eA E) s.heap H locs) (hl : lv_has ls 3 [(0, .ref x0), (1, .ref x1), (2, .int x2)]) : W p l e rm_X2_sameAs s m args below meth c H locs 0 0 (MQ below (cQ E (some (.int v)) M') args s 0 0 (eA E)) (F0 m 2 ls []) := by
  refine loopM_ind (body := fun q : (Int32 × Mem) => fc_X2_sameAs_2 x0 x1 q.1 q.2) (x0 := (v, M')) (Wd := fun q : (Int32 × Mem) => ∀ (H : Heap) (locs : List Loc) (ls : Array Slot), MOK E (q.2) H → va_S (eA E) s.heap H locs → lv_has ls 3 [(0, .ref x0), (1, .ref x1), (2, .int q.1)] → W p l e rm_X2_sameAs s m args below meth c H locs 0 0 (MQ below (cQ E (some (.int v)) M') args s 0 0 (eA E)) (F0 m 2 ls [])) ?_ FU (x2, M) h H locs ls hM hS hl
  clear h hM hS hl H locs ls M x2
  obtain ⟨hx, hb, hml, hown, hts⟩ := id hC
  intro q y1 h hy1 H locs ls hM hS hl
  obtain ⟨x2, M⟩ := q
  have h : fc_X2_sameAs_2 x0 x1 x2 M = some y1 := h
  have hM : MOK E M H := hM
  have hl : lv_has ls 3 [(0, .ref x0), (1, .ref x1), (2, .int x2)] := hl
  unfold fc_X2_sameAs_2 at h
  show W p l e rm_X2_sameAs s m args below meth c H locs _ _ _ _
  refine lv_iload_n hx hb dX2_sameAs_2 rfl (lv_at hl 2 rfl) ?_
  refine lv_sipush (v := 132) hx hb dX2_sameAs_3 (by decide) ?_
  refine lv_icmp_ge (tgt := 32) hx hb dX2_sameAs_6 (by decide) (fun c1 => ?_) (fun c1 => ?_)
  · have h := ifp c1 h
    obtain ⟨z0, h9, rfl⟩ := om h
    have e0 := hy1.2 _ rfl
    subst e0
    have h := h9
    refine W.widen (k := 0) (n := 0) (Nat.le_of_ble_eq_true rfl) (Nat.le_of_ble_eq_true rfl) ?_
    exact tj_X2_sameAs_32  hC hr hlocks hE  h hM hS (lv_sub hl [] rfl)
  · have h := ifn c1 h
    refine lv_aload_n hx hb dX2_sameAs_9 rfl (lv_at hl 0 rfl) ?_
    obtain ⟨v1, h1, h⟩ := ob h
    refine rgn_2_0 hx hb hts hown hE hM qw_82 h1 dX2_sameAs_10 ?_
    refine lv_iload_n hx hb dX2_sameAs_13 rfl (lv_at hl 2 rfl) ?_
    obtain ⟨v2, h1, h⟩ := ob h
    refine r_iald hx hb hE hM h1 dX2_sameAs_14 ?_
    refine lv_aload_n hx hb dX2_sameAs_15 rfl (lv_at hl 1 rfl) ?_
    obtain ⟨v3, h1, h⟩ := ob h
    refine rgn_2_0 hx hb hts hown hE hM qw_82 h1 dX2_sameAs_16 ?_
    refine lv_iload_n hx hb dX2_sameAs_19 rfl (lv_at hl 2 rfl) ?_
    obtain ⟨v4, h1, h⟩ := ob h
    refine r_iald hx hb hE hM h1 dX2_sameAs_20 ?_
    refine lv_icmp_eq (tgt := 26) hx hb dX2_sameAs_21 (by decide) (fun c1 => ?_) (fun c1 => ?_)
    · have h := ifp c1 h
      refine lv_iinc (v := x2 + 1) (lv' := [(2, .int (x2 + 1)), (0, .ref x0), (1, .ref x1)]) hx hb dX2_sameAs_26 hl (k := 2) rfl rfl (by decide) rfl (fun ls hl => ?_)
      refine lv_goto (tgt := 2) hx hb dX2_sameAs_29 (by decide) ?_
      cases h
      exact hy1.1 _ rfl _ _ _ hM hS (lv_sub hl [1, 2, 0] rfl)
    · have h := ifn c1 h
      obtain ⟨z0, h9, rfl⟩ := om h
      have e0 := hy1.2 _ rfl
      subst e0
      have h := h9
      refine W.widen (k := 0) (n := 0) (Nat.le_of_ble_eq_true rfl) (Nat.le_of_ble_eq_true rfl) ?_
      exact tj_X2_sameAs_24  hC hr hlocks hE  h hM hS (lv_sub hl [] rfl)
noncomputable def f_X2_sameAs (this : Nat) (a1 : Nat) (M : Mem) : Option (Int32 × Mem) :=
  fj_X2_sameAs_2 this a1 0 M
set_option maxHeartbeats 4000000 in
set_option maxRecDepth 100000 in
theorem mt_X2_sameAs (l : Launch) (E : KEnv) (this : Nat) (a1 : Nat) (M M' : Mem) (v : Int32) (h : f_X2_sameAs this a1 M = some (v, M')) : Met l yX2_sameAs (Cond.code yX2_sameAs cX2_sameAs 3 (some .boolean) :: lw_G) rm_X2_sameAs (cPc E [.ref this, .ref a1] M) (cQ E (some (.int v)) M') 0 0 (eA E) := by
  refine Met.ofW (cc := cX2_sameAs) (maxL := 3) (ret := (some .boolean)) (by decide) rfl ?_
  intro p e s m args below meth c s₁ B hml hv
  obtain ⟨rfl, hE, hM⟩ := hv
  have hx := B.exec
  have hb := B.bytes
  have hr := B.returns
  have hts0 := atoms_spec (ws := Cond.code yX2_sameAs cX2_sameAs 3 (some .boolean) :: lw_G) B.pre
  have hts : ∀ w ∈ lw_G, w.before _ s = true := fun w hw => hts0 w (List.mem_cons_of_mem _ hw)
  have hown : s.vm.findClass RX2 = some m.cls := findClass_of_methodNamed B.named
  have hlocks := B.notSynchronized
  have hC : CallFix p m c cX2_sameAs 3 s _ lw_G RX2 := ⟨hx, hb, hml, hown, hts⟩
  have hS : va_S (eA E) s.heap s.heap [] := va_S.rf
  have hl := lv_entry ([.ref this, .ref a1]) (n := 3) (Nat.le_of_ble_eq_true rfl)
  rw [lg_entry_eq]
  generalize (lg_sl ([.ref this, .ref a1]) ++ List.replicate (3 - (lg_sl ([.ref this, .ref a1])).length) Slot.unset).toArray = ls at hl ⊢
  have hl : lv_has ls 3 [(0, .ref this), (1, .ref a1)] := hl
  unfold f_X2_sameAs at h
  show W p l e rm_X2_sameAs s m _ below meth c s.heap [] 0 0 _ _
  refine lv_iconst (v := 0) hx hb dX2_sameAs_0 (by decide) ?_
  refine lv_istore_n (lv' := [(2, .int 0), (0, .ref this), (1, .ref a1)]) hx hb dX2_sameAs_1 rfl hl (by decide) rfl (fun ls hl => ?_)
  refine W.widen (k := 0) (n := 0) (Nat.le_of_ble_eq_true rfl) (Nat.le_of_ble_eq_true rfl) ?_
  exact tj_X2_sameAs_2  hC hr hlocks hE  h hM hS (lv_sub hl [1, 2, 0] rfl)

theorem dd_X2_setDot : yX2_setDot.cls = RX2 ∧ yX2_setDot.cls ≠ "java/lang/invoke/MethodHandle" ∧ yX2_setDot.cls ≠ "java/lang/invoke/VarHandle" ∧ (parseMethodDescriptor yX2_setDot.desc).map (fun d => d.parameters.length) = some 3 := by decide +kernel
abbrev rm_X2_setDot : Room := ({ frames := 0, cells := 0, slots := 0, locals := 0 } : Room)
noncomputable def fj_X2_setDot_26  (M : Mem) : Option Mem :=
  some M
set_option maxHeartbeats 4000000 in
set_option maxRecDepth 100000 in
theorem tj_X2_setDot_26 {p : Program} {l : Launch} {e : Env} {s : State} {m : MethodId} {args : Array Value} {below : List Frame} {meth : Method} {c : Code} {E : KEnv} {H : Heap} {locs : List Loc} {ls : Array Slot}  {M : Mem} {M' : Mem} (hC : CallFix p m c cX2_setDot 4 s args lw_G RX2) (hr : meth.sig.returnType = none) (hlocks : meth.locks = false) (hE : EnvOK E s) (h : fj_X2_setDot_26  M = some M') (hM : MOK E M H) (hS : va_S (eA E) s.heap H locs) (hl : lv_has ls 4 []) : W p l e rm_X2_setDot s m args below meth c H locs 0 0 (MQ below (cQ E none M') args s 0 0 (eA E)) (F0 m 26 ls []) := by
  obtain ⟨hx, hb, hml, hown, hts⟩ := id hC
  unfold fj_X2_setDot_26 at h
  cases h
  exact eV_ hx hb hr hlocks hM hS dX2_setDot_26 (Nat.le_of_ble_eq_true rfl) (Nat.le_of_ble_eq_true rfl)
noncomputable def f_X2_setDot (this : Nat) (a1 : Int32) (a2 : Int32) (a3 : Int32) (M : Mem) : Option Mem :=
  (gRn 3 64 this M).bind fun v1 =>
  (sA 9 v1 a1 a2 M).bind fun M2 =>
  (if a1 < 100 then
  fj_X2_setDot_26 M2
  else
  (gRn 3 64 this M2).bind fun v3 =>
  (sA 9 v3 ((a1 + 116) - 100) a3 M2).bind fun M4 =>
  fj_X2_setDot_26 M4)
set_option maxHeartbeats 4000000 in
set_option maxRecDepth 100000 in
theorem mt_X2_setDot (l : Launch) (E : KEnv) (this : Nat) (a1 : Int32) (a2 : Int32) (a3 : Int32) (M M' : Mem) (h : f_X2_setDot this a1 a2 a3 M = some M') : Met l yX2_setDot (Cond.code yX2_setDot cX2_setDot 4 none :: lw_G) rm_X2_setDot (cPc E [.ref this, .int a1, .int a2, .int a3] M) (cQ E none M') 0 0 (eA E) := by
  refine Met.ofW (cc := cX2_setDot) (maxL := 4) (ret := none) (by decide) rfl ?_
  intro p e s m args below meth c s₁ B hml hv
  obtain ⟨rfl, hE, hM⟩ := hv
  have hx := B.exec
  have hb := B.bytes
  have hr := B.returns
  have hts0 := atoms_spec (ws := Cond.code yX2_setDot cX2_setDot 4 none :: lw_G) B.pre
  have hts : ∀ w ∈ lw_G, w.before _ s = true := fun w hw => hts0 w (List.mem_cons_of_mem _ hw)
  have hown : s.vm.findClass RX2 = some m.cls := findClass_of_methodNamed B.named
  have hlocks := B.notSynchronized
  have hC : CallFix p m c cX2_setDot 4 s _ lw_G RX2 := ⟨hx, hb, hml, hown, hts⟩
  have hS : va_S (eA E) s.heap s.heap [] := va_S.rf
  have hl := lv_entry ([.ref this, .int a1, .int a2, .int a3]) (n := 4) (Nat.le_of_ble_eq_true rfl)
  rw [lg_entry_eq]
  generalize (lg_sl ([.ref this, .int a1, .int a2, .int a3]) ++ List.replicate (4 - (lg_sl ([.ref this, .int a1, .int a2, .int a3])).length) Slot.unset).toArray = ls at hl ⊢
  have hl : lv_has ls 4 [(0, .ref this), (1, .int a1), (2, .int a2), (3, .int a3)] := hl
  unfold f_X2_setDot at h
  show W p l e rm_X2_setDot s m _ below meth c s.heap [] 0 0 _ _
  refine lv_aload_n hx hb dX2_setDot_0 rfl (lv_at hl 0 rfl) ?_
  obtain ⟨v1, h1, h⟩ := ob h
  refine rgn_2_0 hx hb hts hown hE hM qw_82 h1 dX2_setDot_1 ?_
  refine lv_iload_n hx hb dX2_setDot_4 rfl (lv_at hl 1 rfl) ?_
  refine lv_iload_n hx hb dX2_setDot_5 rfl (lv_at hl 2 rfl) ?_
  obtain ⟨M2, h1, h⟩ := ob h
  refine r_iast hx hb hE hM hS h1 dX2_setDot_6 (fun H locs hM hS => ?_)
  refine lv_iload_n hx hb dX2_setDot_7 rfl (lv_at hl 1 rfl) ?_
  refine lv_bipush (v := 100) hx hb dX2_setDot_8 (by decide) ?_
  refine lv_icmp_lt (tgt := 26) hx hb dX2_setDot_10 (by decide) (fun c1 => ?_) (fun c1 => ?_)
  · have h := ifp c1 h
    refine W.widen (k := 0) (n := 0) (Nat.le_of_ble_eq_true rfl) (Nat.le_of_ble_eq_true rfl) ?_
    exact tj_X2_setDot_26  hC hr hlocks hE  h hM hS (lv_sub hl [] rfl)
  · have h := ifn c1 h
    refine lv_aload_n hx hb dX2_setDot_13 rfl (lv_at hl 0 rfl) ?_
    obtain ⟨v3, h1, h⟩ := ob h
    refine rgn_2_0 hx hb hts hown hE hM qw_82 h1 dX2_setDot_14 ?_
    refine lv_iload_n hx hb dX2_setDot_17 rfl (lv_at hl 1 rfl) ?_
    refine lv_bipush (v := 116) hx hb dX2_setDot_18 (by decide) ?_
    refine lv_iadd hx hb dX2_setDot_20 ?_
    refine lv_bipush (v := 100) hx hb dX2_setDot_21 (by decide) ?_
    refine lv_isub hx hb dX2_setDot_23 ?_
    refine lv_iload_n hx hb dX2_setDot_24 rfl (lv_at hl 3 rfl) ?_
    obtain ⟨M4, h1, h⟩ := ob h
    refine r_iast hx hb hE hM hS h1 dX2_setDot_25 (fun H locs hM hS => ?_)
    refine W.widen (k := 0) (n := 0) (Nat.le_of_ble_eq_true rfl) (Nat.le_of_ble_eq_true rfl) ?_
    exact tj_X2_setDot_26  hC hr hlocks hE  h hM hS (lv_sub hl [] rfl)

theorem dd_X2_absorbDot : yX2_absorbDot.cls = RX2 ∧ yX2_absorbDot.cls ≠ "java/lang/invoke/MethodHandle" ∧ yX2_absorbDot.cls ≠ "java/lang/invoke/VarHandle" ∧ (parseMethodDescriptor yX2_absorbDot.desc).map (fun d => d.parameters.length) = some 2 := by decide +kernel
abbrev rm_X2_absorbDot : Room := ({ frames := 1, cells := 0, slots := 0, locals := 23 } : Room)
noncomputable def fj_X2_absorbDot_88  (M : Mem) : Option Mem :=
  some M
set_option maxHeartbeats 4000000 in
set_option maxRecDepth 100000 in
theorem tj_X2_absorbDot_88 {p : Program} {l : Launch} {e : Env} {s : State} {m : MethodId} {args : Array Value} {below : List Frame} {meth : Method} {c : Code} {E : KEnv} {H : Heap} {locs : List Loc} {ls : Array Slot}  {M : Mem} {M' : Mem} (hC : CallFix p m c cX2_absorbDot 6 s args lw_G RX2) (hr : meth.sig.returnType = none) (hlocks : meth.locks = false) (hE : EnvOK E s) (h : fj_X2_absorbDot_88  M = some M') (hM : MOK E M H) (hS : va_S (eA E) s.heap H locs) (hl : lv_has ls 6 []) : W p l e rm_X2_absorbDot s m args below meth c H locs 0 0 (MQ below (cQ E none M') args s 0 0 (eA E)) (F0 m 88 ls []) := by
  obtain ⟨hx, hb, hml, hown, hts⟩ := id hC
  unfold fj_X2_absorbDot_88 at h
  cases h
  exact eV_ hx hb hr hlocks hM hS dX2_absorbDot_88 (Nat.le_of_ble_eq_true rfl) (Nat.le_of_ble_eq_true rfl)
noncomputable def fj_X2_absorbDot_57 (s0 : Nat) (s1 : Int32) (s2 : Int32) (s3 : Int32) (M : Mem) : Option Mem :=
  (cK 3 s0 M (f_X2_setDot s0 s1 s2 s3 M)).bind fun M14 =>
  fj_X2_absorbDot_88 M14
set_option maxHeartbeats 4000000 in
set_option maxRecDepth 100000 in
theorem tj_X2_absorbDot_57 {p : Program} {l : Launch} {e : Env} {s : State} {m : MethodId} {args : Array Value} {below : List Frame} {meth : Method} {c : Code} {E : KEnv} {H : Heap} {locs : List Loc} {ls : Array Slot} {s0 : Nat} {s1 : Int32} {s2 : Int32} {s3 : Int32} {M : Mem} {M' : Mem} (hC : CallFix p m c cX2_absorbDot 6 s args lw_G RX2) (hr : meth.sig.returnType = none) (hlocks : meth.locks = false) (hE : EnvOK E s) (h : fj_X2_absorbDot_57 s0 s1 s2 s3 M = some M') (hM : MOK E M H) (hS : va_S (eA E) s.heap H locs) (hl : lv_has ls 6 []) : W p l e rm_X2_absorbDot s m args below meth c H locs 0 0 (MQ below (cQ E none M') args s 0 0 (eA E)) (F0 m 57 ls [.int s3, .int s2, .int s1, .ref s0]) := by
  obtain ⟨hx, hb, hml, hown, hts⟩ := id hC
  unfold fj_X2_absorbDot_57 at h
  obtain ⟨M14, h1, h⟩ := ob h
  obtain ⟨hk1, h1⟩ := ifg h1
  refine kV0 (ci := 2) (As := [.int s1, .int s2, .int s3]) (rest := []) hC hE hS hM (mt_X2_setDot _ E s0 s1 s2 s3 _ _ h1) (gwV qw_331 qw_333 qw_12 qw_41 qw_334) ⟨rfl, rfl, (Nat.le_of_ble_eq_true rfl), (Nat.le_of_ble_eq_true rfl)⟩ dd_X2_setDot rfl hk1 rfl rfl hl.1 (Nat.le_of_ble_eq_true rfl) dX2_absorbDot_57 ⟨(Nat.le_of_ble_eq_true rfl), (Nat.le_of_ble_eq_true rfl)⟩ (fun H locs hM hS => ?_)
  refine lv_goto (tgt := 88) hx hb dX2_absorbDot_60 (by decide) ?_
  refine W.widen (k := 0) (n := 0) (Nat.le_of_ble_eq_true rfl) (Nat.le_of_ble_eq_true rfl) ?_
  exact tj_X2_absorbDot_88  hC hr hlocks hE  h hM hS (lv_sub hl [] rfl)
noncomputable def f_X2_absorbDot (this : Nat) (a1 : Nat) (a2 : Int32) (M : Mem) : Option Mem :=
  (gRn 3 64 this M).bind fun v1 =>
  (gA 9 v1 a2 M).bind fun v2 =>
  (gRn 3 64 a1 M).bind fun v3 =>
  (gA 9 v3 a2 M).bind fun v4 =>
  (gRn 3 64 this M).bind fun v5 =>
  (gA 9 v5 (a2 - a2 / 4 * 4) M).bind fun v6 =>
  (if v4 ≤ v6 then
  (if v2 = v4 then
  fj_X2_absorbDot_88 M
  else
  (gRn 3 64 a1 M).bind fun v7 =>
  (gA 9 v7 (a2 - a2 / 4 * 4) M).bind fun v8 =>
  (if v8 < v2 then
  fj_X2_absorbDot_88 M
  else
  (cK 3 this M (f_X2_setDot this a2 0 0 M)).bind fun M10 =>
  fj_X2_absorbDot_88 M10))
  else
  (if (100 : Int32) ≤ a2 then
  (gRn 3 64 a1 M).bind fun v11 =>
  (gA 9 v11 ((a2 + 116) - 100) M).bind fun v12 =>
  fj_X2_absorbDot_57 this a2 v4 v12 M
  else
  fj_X2_absorbDot_57 this a2 v4 0 M))
set_option maxHeartbeats 4000000 in
set_option maxRecDepth 100000 in
theorem mt_X2_absorbDot (l : Launch) (E : KEnv) (this : Nat) (a1 : Nat) (a2 : Int32) (M M' : Mem) (h : f_X2_absorbDot this a1 a2 M = some M') : Met l yX2_absorbDot (Cond.code yX2_absorbDot cX2_absorbDot 6 none :: lw_G) rm_X2_absorbDot (cPc E [.ref this, .ref a1, .int a2] M) (cQ E none M') 0 0 (eA E) := by
  refine Met.ofW (cc := cX2_absorbDot) (maxL := 6) (ret := none) (by decide) rfl ?_
  intro p e s m args below meth c s₁ B hml hv
  obtain ⟨rfl, hE, hM⟩ := hv
  have hx := B.exec
  have hb := B.bytes
  have hr := B.returns
  have hts0 := atoms_spec (ws := Cond.code yX2_absorbDot cX2_absorbDot 6 none :: lw_G) B.pre
  have hts : ∀ w ∈ lw_G, w.before _ s = true := fun w hw => hts0 w (List.mem_cons_of_mem _ hw)
  have hown : s.vm.findClass RX2 = some m.cls := findClass_of_methodNamed B.named
  have hlocks := B.notSynchronized
  have hC : CallFix p m c cX2_absorbDot 6 s _ lw_G RX2 := ⟨hx, hb, hml, hown, hts⟩
  have hS : va_S (eA E) s.heap s.heap [] := va_S.rf
  have hl := lv_entry ([.ref this, .ref a1, .int a2]) (n := 6) (Nat.le_of_ble_eq_true rfl)
  rw [lg_entry_eq]
  generalize (lg_sl ([.ref this, .ref a1, .int a2]) ++ List.replicate (6 - (lg_sl ([.ref this, .ref a1, .int a2])).length) Slot.unset).toArray = ls at hl ⊢
  have hl : lv_has ls 6 [(0, .ref this), (1, .ref a1), (2, .int a2)] := hl
  unfold f_X2_absorbDot at h
  show W p l e rm_X2_absorbDot s m _ below meth c s.heap [] 0 0 _ _
  refine lv_iload_n hx hb dX2_absorbDot_0 rfl (lv_at hl 2 rfl) ?_
  refine lv_iconst (v := 4) hx hb dX2_absorbDot_1 (by decide) ?_
  refine lv_irem hx hb dX2_absorbDot_2 (by decide) ?_
  refine lv_istore_n (lv' := [(3, .int (a2 - a2 / 4 * 4)), (0, .ref this), (1, .ref a1), (2, .int a2)]) hx hb dX2_absorbDot_3 rfl hl (by decide) rfl (fun ls hl => ?_)
  refine lv_aload_n hx hb dX2_absorbDot_4 rfl (lv_at hl 1 rfl) ?_
  obtain ⟨v1, h1, h⟩ := ob h
  refine rgn_2_0 hx hb hts hown hE hM qw_82 h1 dX2_absorbDot_5 ?_
  refine lv_iload_n hx hb dX2_absorbDot_8 rfl (lv_at hl 3 rfl) ?_
  obtain ⟨v2, h1, h⟩ := ob h
  refine r_iald hx hb hE hM h1 dX2_absorbDot_9 ?_
  refine lv_istore (lv' := [(4, .int v2), (3, .int (a2 - a2 / 4 * 4)), (0, .ref this), (1, .ref a1), (2, .int a2)]) hx hb dX2_absorbDot_10 hl (by decide) rfl (fun ls hl => ?_)
  refine lv_aload_n hx hb dX2_absorbDot_12 rfl (lv_at hl 3 rfl) ?_
  obtain ⟨v3, h1, h⟩ := ob h
  refine rgn_2_0 hx hb hts hown hE hM qw_82 h1 dX2_absorbDot_13 ?_
  refine lv_iload_n hx hb dX2_absorbDot_16 rfl (lv_at hl 4 rfl) ?_
  obtain ⟨v4, h1, h⟩ := ob h
  refine r_iald hx hb hE hM h1 dX2_absorbDot_17 ?_
  refine lv_istore (lv' := [(5, .int v4), (4, .int v2), (3, .int (a2 - a2 / 4 * 4)), (0, .ref this), (1, .ref a1), (2, .int a2)]) hx hb dX2_absorbDot_18 hl (by decide) rfl (fun ls hl => ?_)
  refine lv_iload hx hb dX2_absorbDot_20 (lv_at hl 0 rfl) ?_
  refine lv_aload_n hx hb dX2_absorbDot_22 rfl (lv_at hl 3 rfl) ?_
  obtain ⟨v5, h1, h⟩ := ob h
  refine rgn_2_0 hx hb hts hown hE hM qw_82 h1 dX2_absorbDot_23 ?_
  refine lv_iload_n hx hb dX2_absorbDot_26 rfl (lv_at hl 2 rfl) ?_
  obtain ⟨v6, h1, h⟩ := ob h
  refine r_iald hx hb hE hM h1 dX2_absorbDot_27 ?_
  refine lv_icmp_le (tgt := 63) hx hb dX2_absorbDot_28 (by decide) (fun c1 => ?_) (fun c1 => ?_)
  · have h := ifp c1 h
    refine lv_iload hx hb dX2_absorbDot_63 (lv_at hl 1 rfl) ?_
    refine lv_iload hx hb dX2_absorbDot_65 (lv_at hl 0 rfl) ?_
    refine lv_icmp_eq (tgt := 88) hx hb dX2_absorbDot_67 (by decide) (fun c1 => ?_) (fun c1 => ?_)
    · have h := ifp c1 h
      refine W.widen (k := 0) (n := 0) (Nat.le_of_ble_eq_true rfl) (Nat.le_of_ble_eq_true rfl) ?_
      exact tj_X2_absorbDot_88  hC hr hlocks hE  h hM hS (lv_sub hl [] rfl)
    · have h := ifn c1 h
      refine lv_iload hx hb dX2_absorbDot_70 (lv_at hl 1 rfl) ?_
      refine lv_aload_n hx hb dX2_absorbDot_72 rfl (lv_at hl 4 rfl) ?_
      obtain ⟨v7, h1, h⟩ := ob h
      refine rgn_2_0 hx hb hts hown hE hM qw_82 h1 dX2_absorbDot_73 ?_
      refine lv_iload_n hx hb dX2_absorbDot_76 rfl (lv_at hl 2 rfl) ?_
      obtain ⟨v8, h1, h⟩ := ob h
      refine r_iald hx hb hE hM h1 dX2_absorbDot_77 ?_
      refine lv_icmp_gt (tgt := 88) hx hb dX2_absorbDot_78 (by decide) (fun c1 => ?_) (fun c1 => ?_)
      · have h := ifp c1 h
        refine W.widen (k := 0) (n := 0) (Nat.le_of_ble_eq_true rfl) (Nat.le_of_ble_eq_true rfl) ?_
        exact tj_X2_absorbDot_88  hC hr hlocks hE  h hM hS (lv_sub hl [] rfl)
      · have h := ifn c1 h
        refine lv_aload_n hx hb dX2_absorbDot_81 rfl (lv_at hl 3 rfl) ?_
        refine lv_iload_n hx hb dX2_absorbDot_82 rfl (lv_at hl 5 rfl) ?_
        refine lv_iconst (v := 0) hx hb dX2_absorbDot_83 (by decide) ?_
        refine lv_iconst (v := 0) hx hb dX2_absorbDot_84 (by decide) ?_
        obtain ⟨M10, h1, h⟩ := ob h
        obtain ⟨hk1, h1⟩ := ifg h1
        refine kV0 (ci := 2) (As := [.int a2, .int 0, .int 0]) (rest := []) hC hE hS hM (mt_X2_setDot _ E this a2 0 0 _ _ h1) (gwV qw_331 qw_333 qw_12 qw_41 qw_334) ⟨rfl, rfl, (Nat.le_of_ble_eq_true rfl), (Nat.le_of_ble_eq_true rfl)⟩ dd_X2_setDot rfl hk1 rfl rfl hl.1 (Nat.le_of_ble_eq_true rfl) dX2_absorbDot_85 ⟨(Nat.le_of_ble_eq_true rfl), (Nat.le_of_ble_eq_true rfl)⟩ (fun H locs hM hS => ?_)
        refine W.widen (k := 0) (n := 0) (Nat.le_of_ble_eq_true rfl) (Nat.le_of_ble_eq_true rfl) ?_
        exact tj_X2_absorbDot_88  hC hr hlocks hE  h hM hS (lv_sub hl [] rfl)
  · have h := ifn c1 h
    refine lv_aload_n hx hb dX2_absorbDot_31 rfl (lv_at hl 3 rfl) ?_
    refine lv_iload_n hx hb dX2_absorbDot_32 rfl (lv_at hl 5 rfl) ?_
    refine lv_iload hx hb dX2_absorbDot_33 (lv_at hl 0 rfl) ?_
    refine lv_iload_n hx hb dX2_absorbDot_35 rfl (lv_at hl 5 rfl) ?_
    refine lv_bipush (v := 100) hx hb dX2_absorbDot_36 (by decide) ?_
    refine lv_icmp_ge (tgt := 45) hx hb dX2_absorbDot_38 (by decide) (fun c1 => ?_) (fun c1 => ?_)
    · have h := ifp c1 h
      refine lv_aload_n hx hb dX2_absorbDot_45 rfl (lv_at hl 4 rfl) ?_
      obtain ⟨v11, h1, h⟩ := ob h
      refine rgn_2_0 hx hb hts hown hE hM qw_82 h1 dX2_absorbDot_46 ?_
      refine lv_iload_n hx hb dX2_absorbDot_49 rfl (lv_at hl 5 rfl) ?_
      refine lv_bipush (v := 116) hx hb dX2_absorbDot_50 (by decide) ?_
      refine lv_iadd hx hb dX2_absorbDot_52 ?_
      refine lv_bipush (v := 100) hx hb dX2_absorbDot_53 (by decide) ?_
      refine lv_isub hx hb dX2_absorbDot_55 ?_
      obtain ⟨v12, h1, h⟩ := ob h
      refine r_iald hx hb hE hM h1 dX2_absorbDot_56 ?_
      refine W.widen (k := 0) (n := 0) (Nat.le_of_ble_eq_true rfl) (Nat.le_of_ble_eq_true rfl) ?_
      exact tj_X2_absorbDot_57  hC hr hlocks hE  h hM hS (lv_sub hl [] rfl)
    · have h := ifn c1 h
      refine lv_iconst (v := 0) hx hb dX2_absorbDot_41 (by decide) ?_
      refine lv_goto (tgt := 57) hx hb dX2_absorbDot_42 (by decide) ?_
      refine W.widen (k := 0) (n := 0) (Nat.le_of_ble_eq_true rfl) (Nat.le_of_ble_eq_true rfl) ?_
      exact tj_X2_absorbDot_57  hC hr hlocks hE  h hM hS (lv_sub hl [] rfl)

theorem dd_X2_absorb : yX2_absorb.cls = RX2 ∧ yX2_absorb.cls ≠ "java/lang/invoke/MethodHandle" ∧ yX2_absorb.cls ≠ "java/lang/invoke/VarHandle" ∧ (parseMethodDescriptor yX2_absorb.desc).map (fun d => d.parameters.length) = some 1 := by decide +kernel
abbrev rm_X2_absorb : Room := ({ frames := 2, cells := 0, slots := 0, locals := 48 } : Room)
noncomputable def fc_X2_absorb_23 (x0 : Nat) (x1 : Nat) (x2 : Int32) (M : Mem) : Option ((Int32 × Mem) ⊕ Mem) :=
  (if (36 : Int32) ≤ x2 then
  some (.inr (M))
  else
  (gRn 3 64 x0 M).bind fun v1 =>
  (gRn 3 64 x0 M).bind fun v2 =>
  (gA 9 v2 x2 M).bind fun v3 =>
  (gRn 3 64 x1 M).bind fun v4 =>
  (gA 9 v4 x2 M).bind fun v5 =>
  (sA 9 v1 x2 (if v3 < v5 then v5 else v3) M).bind fun M7 =>
  some (.inl (x2 + 1, M7)))
noncomputable def fj_X2_absorb_23 (x0 : Nat) (x1 : Nat) (x2 : Int32) (M : Mem) : Option Mem := loopM (fun q : (Int32 × Mem) => fc_X2_absorb_23 x0 x1 q.1 q.2) FU (x2, M)
set_option maxHeartbeats 4000000 in
set_option maxRecDepth 100000 in
theorem tj_X2_absorb_23 {p : Program} {l : Launch} {e : Env} {s : State} {m : MethodId} {args : Array Value} {below : List Frame} {meth : Method} {c : Code} {E : KEnv} {H : Heap} {locs : List Loc} {ls : Array Slot} {x0 : Nat} {x1 : Nat} {x2 : Int32} {M : Mem} {M' : Mem} (hC : CallFix p m c cX2_absorb 3 s args lw_G RX2) (hr : meth.sig.returnType = none) (hlocks : meth.locks = false) (hE : EnvOK E s) (h : fj_X2_absorb_23 x0 x1 x2 M = some M') (hM : MOK E M H) (hS : va_S (eA E) s.heap H locs) (hl : lv_has ls 3 [(0, .ref x0), (1, .ref x1), (2, .int x2)]) : W p l e rm_X2_absorb s m args below meth c H locs 0 0 (MQ below (cQ E none M') args s 0 0 (eA E)) (F0 m 23 ls []) := by
  refine loopM_ind (body := fun q : (Int32 × Mem) => fc_X2_absorb_23 x0 x1 q.1 q.2) (x0 := M') (Wd := fun q : (Int32 × Mem) => ∀ (H : Heap) (locs : List Loc) (ls : Array Slot), MOK E (q.2) H → va_S (eA E) s.heap H locs → lv_has ls 3 [(0, .ref x0), (1, .ref x1), (2, .int q.1)] → W p l e rm_X2_absorb s m args below meth c H locs 0 0 (MQ below (cQ E none M') args s 0 0 (eA E)) (F0 m 23 ls [])) ?_ FU (x2, M) h H locs ls hM hS hl
  clear h hM hS hl H locs ls M x2
  obtain ⟨hx, hb, hml, hown, hts⟩ := id hC
  intro q y1 h hy1 H locs ls hM hS hl
  obtain ⟨x2, M⟩ := q
  have h : fc_X2_absorb_23 x0 x1 x2 M = some y1 := h
  have hM : MOK E M H := hM
  have hl : lv_has ls 3 [(0, .ref x0), (1, .ref x1), (2, .int x2)] := hl
  unfold fc_X2_absorb_23 at h
  show W p l e rm_X2_absorb s m args below meth c H locs _ _ _ _
  refine lv_iload_n hx hb dX2_absorb_23 rfl (lv_at hl 2 rfl) ?_
  refine lv_bipush (v := 36) hx hb dX2_absorb_24 (by decide) ?_
  refine lv_icmp_ge (tgt := 56) hx hb dX2_absorb_26 (by decide) (fun c1 => ?_) (fun c1 => ?_)
  · have h := ifp c1 h
    cases h
    cases (hy1.2 _ rfl)
    exact eV_ hx hb hr hlocks hM hS dX2_absorb_56 (Nat.le_of_ble_eq_true rfl) (Nat.le_of_ble_eq_true rfl)
  · have h := ifn c1 h
    refine lv_aload_n hx hb dX2_absorb_29 rfl (lv_at hl 0 rfl) ?_
    obtain ⟨v1, h1, h⟩ := ob h
    refine rgn_2_0 hx hb hts hown hE hM qw_82 h1 dX2_absorb_30 ?_
    refine lv_iload_n hx hb dX2_absorb_33 rfl (lv_at hl 2 rfl) ?_
    refine lv_aload_n hx hb dX2_absorb_34 rfl (lv_at hl 0 rfl) ?_
    obtain ⟨v2, h1, h⟩ := ob h
    refine rgn_2_0 hx hb hts hown hE hM qw_82 h1 dX2_absorb_35 ?_
    refine lv_iload_n hx hb dX2_absorb_38 rfl (lv_at hl 2 rfl) ?_
    obtain ⟨v3, h1, h⟩ := ob h
    refine r_iald hx hb hE hM h1 dX2_absorb_39 ?_
    refine lv_aload_n hx hb dX2_absorb_40 rfl (lv_at hl 1 rfl) ?_
    obtain ⟨v4, h1, h⟩ := ob h
    refine rgn_2_0 hx hb hts hown hE hM qw_82 h1 dX2_absorb_41 ?_
    refine lv_iload_n hx hb dX2_absorb_44 rfl (lv_at hl 2 rfl) ?_
    obtain ⟨v5, h1, h⟩ := ob h
    refine r_iald hx hb hE hM h1 dX2_absorb_45 ?_
    refine va_mmax hx hb (hml.trans hl.1.symm) hown (hts _ qw_374) (hts _ qw_375) (hts _ qw_48) (hts _ qw_376) (Nat.le_of_ble_eq_true rfl) (Nat.le_of_ble_eq_true rfl) (Nat.le_of_ble_eq_true rfl) (Nat.le_of_ble_eq_true rfl) dX2_absorb_46 ?_
    obtain ⟨M7, h1, h⟩ := ob h
    refine r_iast hx hb hE hM hS h1 dX2_absorb_49 (fun H locs hM hS => ?_)
    refine lv_iinc (v := x2 + 1) (lv' := [(2, .int (x2 + 1)), (0, .ref x0), (1, .ref x1)]) hx hb dX2_absorb_50 hl (k := 2) rfl rfl (by decide) rfl (fun ls hl => ?_)
    refine lv_goto (tgt := 23) hx hb dX2_absorb_53 (by decide) ?_
    cases h
    exact hy1.1 _ rfl _ _ _ hM hS (lv_sub hl [1, 2, 0] rfl)
noncomputable def fj_X2_absorb_21 (x0 : Nat) (x1 : Nat) (M : Mem) : Option Mem :=
  fj_X2_absorb_23 x0 x1 0 M
set_option maxHeartbeats 4000000 in
set_option maxRecDepth 100000 in
theorem tj_X2_absorb_21 {p : Program} {l : Launch} {e : Env} {s : State} {m : MethodId} {args : Array Value} {below : List Frame} {meth : Method} {c : Code} {E : KEnv} {H : Heap} {locs : List Loc} {ls : Array Slot} {x0 : Nat} {x1 : Nat} {M : Mem} {M' : Mem} (hC : CallFix p m c cX2_absorb 3 s args lw_G RX2) (hr : meth.sig.returnType = none) (hlocks : meth.locks = false) (hE : EnvOK E s) (h : fj_X2_absorb_21 x0 x1 M = some M') (hM : MOK E M H) (hS : va_S (eA E) s.heap H locs) (hl : lv_has ls 3 [(0, .ref x0), (1, .ref x1)]) : W p l e rm_X2_absorb s m args below meth c H locs 0 0 (MQ below (cQ E none M') args s 0 0 (eA E)) (F0 m 21 ls []) := by
  obtain ⟨hx, hb, hml, hown, hts⟩ := id hC
  unfold fj_X2_absorb_21 at h
  refine lv_iconst (v := 0) hx hb dX2_absorb_21 (by decide) ?_
  refine lv_istore_n (lv' := [(2, .int 0), (0, .ref x0), (1, .ref x1)]) hx hb dX2_absorb_22 rfl hl (by decide) rfl (fun ls hl => ?_)
  refine W.widen (k := 0) (n := 0) (Nat.le_of_ble_eq_true rfl) (Nat.le_of_ble_eq_true rfl) ?_
  exact tj_X2_absorb_23  hC hr hlocks hE  h hM hS (lv_sub hl [1, 2, 0] rfl)
noncomputable def fc_X2_absorb_3 (x0 : Nat) (x1 : Nat) (x2 : Int32) (M : Mem) : Option ((Int32 × Mem) ⊕ Mem) :=
  (if (116 : Int32) ≤ x2 then
  (fj_X2_absorb_21 x0 x1 M).map Sum.inr
  else
  (cK 3 x0 M (f_X2_absorbDot x0 x1 x2 M)).bind fun M9 =>
  some (.inl (x2 + 1, M9)))
noncomputable def fj_X2_absorb_3 (x0 : Nat) (x1 : Nat) (x2 : Int32) (M : Mem) : Option Mem := loopM (fun q : (Int32 × Mem) => fc_X2_absorb_3 x0 x1 q.1 q.2) FU (x2, M)
set_option maxHeartbeats 4000000 in
set_option maxRecDepth 100000 in
theorem tj_X2_absorb_3 {p : Program} {l : Launch} {e : Env} {s : State} {m : MethodId} {args : Array Value} {below : List Frame} {meth : Method} {c : Code} {E : KEnv} {H : Heap} {locs : List Loc} {ls : Array Slot} {x0 : Nat} {x1 : Nat} {x2 : Int32} {M : Mem} {M' : Mem} (hC : CallFix p m c cX2_absorb 3 s args lw_G RX2) (hr : meth.sig.returnType = none) (hlocks : meth.locks = false) (hE : EnvOK E s) (h : fj_X2_absorb_3 x0 x1 x2 M = some M') (hM : MOK E M H) (hS : va_S (eA E) s.heap H locs) (hl : lv_has ls 3 [(0, .ref x0), (1, .ref x1), (2, .int x2)]) : W p l e rm_X2_absorb s m args below meth c H locs 0 0 (MQ below (cQ E none M') args s 0 0 (eA E)) (F0 m 3 ls []) := by
  refine loopM_ind (body := fun q : (Int32 × Mem) => fc_X2_absorb_3 x0 x1 q.1 q.2) (x0 := M') (Wd := fun q : (Int32 × Mem) => ∀ (H : Heap) (locs : List Loc) (ls : Array Slot), MOK E (q.2) H → va_S (eA E) s.heap H locs → lv_has ls 3 [(0, .ref x0), (1, .ref x1), (2, .int q.1)] → W p l e rm_X2_absorb s m args below meth c H locs 0 0 (MQ below (cQ E none M') args s 0 0 (eA E)) (F0 m 3 ls [])) ?_ FU (x2, M) h H locs ls hM hS hl
  clear h hM hS hl H locs ls M x2
  obtain ⟨hx, hb, hml, hown, hts⟩ := id hC
  intro q y1 h hy1 H locs ls hM hS hl
  obtain ⟨x2, M⟩ := q
  have h : fc_X2_absorb_3 x0 x1 x2 M = some y1 := h
  have hM : MOK E M H := hM
  have hl : lv_has ls 3 [(0, .ref x0), (1, .ref x1), (2, .int x2)] := hl
  unfold fc_X2_absorb_3 at h
  show W p l e rm_X2_absorb s m args below meth c H locs _ _ _ _
  refine lv_iload_n hx hb dX2_absorb_3 rfl (lv_at hl 2 rfl) ?_
  refine lv_bipush (v := 116) hx hb dX2_absorb_4 (by decide) ?_
  refine lv_icmp_ge (tgt := 21) hx hb dX2_absorb_6 (by decide) (fun c1 => ?_) (fun c1 => ?_)
  · have h := ifp c1 h
    obtain ⟨z0, h9, rfl⟩ := om h
    have e0 := hy1.2 _ rfl
    subst e0
    have h := h9
    refine W.widen (k := 0) (n := 0) (Nat.le_of_ble_eq_true rfl) (Nat.le_of_ble_eq_true rfl) ?_
    exact tj_X2_absorb_21  hC hr hlocks hE  h hM hS (lv_sub hl [0, 1] rfl)
  · have h := ifn c1 h
    refine lv_aload_n hx hb dX2_absorb_9 rfl (lv_at hl 0 rfl) ?_
    refine lv_aload_n hx hb dX2_absorb_10 rfl (lv_at hl 1 rfl) ?_
    refine lv_iload_n hx hb dX2_absorb_11 rfl (lv_at hl 2 rfl) ?_
    obtain ⟨M9, h1, h⟩ := ob h
    obtain ⟨hk1, h1⟩ := ifg h1
    refine kV0 (ci := 2) (As := [.ref x1, .int x2]) (rest := []) hC hE hS hM (mt_X2_absorbDot _ E x0 x1 x2 _ _ h1) (gwV qw_370 qw_372 qw_17 qw_41 qw_373) ⟨rfl, rfl, (Nat.le_of_ble_eq_true rfl), (Nat.le_of_ble_eq_true rfl)⟩ dd_X2_absorbDot rfl hk1 rfl rfl hl.1 (Nat.le_of_ble_eq_true rfl) dX2_absorb_12 ⟨(Nat.le_of_ble_eq_true rfl), (Nat.le_of_ble_eq_true rfl)⟩ (fun H locs hM hS => ?_)
    refine lv_iinc (v := x2 + 1) (lv' := [(2, .int (x2 + 1)), (0, .ref x0), (1, .ref x1)]) hx hb dX2_absorb_15 hl (k := 2) rfl rfl (by decide) rfl (fun ls hl => ?_)
    refine lv_goto (tgt := 3) hx hb dX2_absorb_18 (by decide) ?_
    cases h
    exact hy1.1 _ rfl _ _ _ hM hS (lv_sub hl [1, 2, 0] rfl)
noncomputable def f_X2_absorb (this : Nat) (a1 : Nat) (M : Mem) : Option Mem :=
  fj_X2_absorb_3 this a1 36 M
set_option maxHeartbeats 4000000 in
set_option maxRecDepth 100000 in
theorem mt_X2_absorb (l : Launch) (E : KEnv) (this : Nat) (a1 : Nat) (M M' : Mem) (h : f_X2_absorb this a1 M = some M') : Met l yX2_absorb (Cond.code yX2_absorb cX2_absorb 3 none :: lw_G) rm_X2_absorb (cPc E [.ref this, .ref a1] M) (cQ E none M') 0 0 (eA E) := by
  refine Met.ofW (cc := cX2_absorb) (maxL := 3) (ret := none) (by decide) rfl ?_
  intro p e s m args below meth c s₁ B hml hv
  obtain ⟨rfl, hE, hM⟩ := hv
  have hx := B.exec
  have hb := B.bytes
  have hr := B.returns
  have hts0 := atoms_spec (ws := Cond.code yX2_absorb cX2_absorb 3 none :: lw_G) B.pre
  have hts : ∀ w ∈ lw_G, w.before _ s = true := fun w hw => hts0 w (List.mem_cons_of_mem _ hw)
  have hown : s.vm.findClass RX2 = some m.cls := findClass_of_methodNamed B.named
  have hlocks := B.notSynchronized
  have hC : CallFix p m c cX2_absorb 3 s _ lw_G RX2 := ⟨hx, hb, hml, hown, hts⟩
  have hS : va_S (eA E) s.heap s.heap [] := va_S.rf
  have hl := lv_entry ([.ref this, .ref a1]) (n := 3) (Nat.le_of_ble_eq_true rfl)
  rw [lg_entry_eq]
  generalize (lg_sl ([.ref this, .ref a1]) ++ List.replicate (3 - (lg_sl ([.ref this, .ref a1])).length) Slot.unset).toArray = ls at hl ⊢
  have hl : lv_has ls 3 [(0, .ref this), (1, .ref a1)] := hl
  unfold f_X2_absorb at h
  show W p l e rm_X2_absorb s m _ below meth c s.heap [] 0 0 _ _
  refine lv_bipush (v := 36) hx hb dX2_absorb_0 (by decide) ?_
  refine lv_istore_n (lv' := [(2, .int 36), (0, .ref this), (1, .ref a1)]) hx hb dX2_absorb_2 rfl hl (by decide) rfl (fun ls hl => ?_)
  refine W.widen (k := 0) (n := 0) (Nat.le_of_ble_eq_true rfl) (Nat.le_of_ble_eq_true rfl) ?_
  exact tj_X2_absorb_3  hC hr hlocks hE  h hM hS (lv_sub hl [1, 2, 0] rfl)

theorem dd_X2_newsFor : yX2_newsFor.cls = RX2 ∧ yX2_newsFor.cls ≠ "java/lang/invoke/MethodHandle" ∧ yX2_newsFor.cls ≠ "java/lang/invoke/VarHandle" ∧ (parseMethodDescriptor yX2_newsFor.desc).map (fun d => d.parameters.length) = some 1 := by decide +kernel
abbrev rm_X2_newsFor : Room := ({ frames := 0, cells := 0, slots := 0, locals := 0 } : Room)
noncomputable def fj_X2_newsFor_69 (x2 : Int32) (M : Mem) : Option (Int32 × Mem) :=
  some (x2, M)
set_option maxHeartbeats 4000000 in
set_option maxRecDepth 100000 in
theorem tj_X2_newsFor_69 {p : Program} {l : Launch} {e : Env} {s : State} {m : MethodId} {args : Array Value} {below : List Frame} {meth : Method} {c : Code} {E : KEnv} {H : Heap} {locs : List Loc} {ls : Array Slot} {x2 : Int32} {M : Mem} {v : Int32} {M' : Mem} (hC : CallFix p m c cX2_newsFor 4 s args lw_G RX2) (hr : meth.sig.returnType = (some .int)) (hlocks : meth.locks = false) (hE : EnvOK E s) (h : fj_X2_newsFor_69 x2 M = some (v, M')) (hM : MOK E M H) (hS : va_S (eA E) s.heap H locs) (hl : lv_has ls 4 [(2, .int x2)]) : W p l e rm_X2_newsFor s m args below meth c H locs 0 0 (MQ below (cQ E (some (.int v)) M') args s 0 0 (eA E)) (F0 m 69 ls []) := by
  obtain ⟨hx, hb, hml, hown, hts⟩ := id hC
  unfold fj_X2_newsFor_69 at h
  refine lv_iload_n hx hb dX2_newsFor_69 rfl (lv_at hl 0 rfl) ?_
  cases h
  exact eI hx hb hr hlocks hM hS dX2_newsFor_70 (Nat.le_of_ble_eq_true rfl) (Nat.le_of_ble_eq_true rfl)
noncomputable def fj_X2_newsFor_63 (x0 : Nat) (x1 : Nat) (x2 : Int32) (x3 : Int32) (M : Mem) : Option ((Int32 × Int32 × Mem) ⊕ (Int32 × Mem)) :=
  some (.inl (x2, x3 + 1, M))
set_option maxHeartbeats 4000000 in
set_option maxRecDepth 100000 in
theorem tj_X2_newsFor_63 {p : Program} {l : Launch} {e : Env} {s : State} {m : MethodId} {args : Array Value} {below : List Frame} {meth : Method} {c : Code} {E : KEnv} {H : Heap} {locs : List Loc} {ls : Array Slot} {x0 : Nat} {x1 : Nat} {x2 : Int32} {x3 : Int32} {y1 : ((Int32 × Int32 × Mem) ⊕ (Int32 × Mem))} {M : Mem} {v : Int32} {M' : Mem} (hC : CallFix p m c cX2_newsFor 4 s args lw_G RX2) (hr : meth.sig.returnType = (some .int)) (hlocks : meth.locks = false) (hE : EnvOK E s) (hy1 : (∀ q : (Int32 × Int32 × Mem), y1 = .inl q → ∀ (H : Heap) (locs : List Loc) (ls : Array Slot), MOK E (q.2.2) H → va_S (eA E) s.heap H locs → lv_has ls 4 [(0, .ref x0), (1, .ref x1), (2, .int q.1), (3, .int q.2.1)] → W p l e rm_X2_newsFor s m args below meth c H locs 0 0 (MQ below (cQ E (some (.int v)) M') args s 0 0 (eA E)) (F0 m 37 ls [])) ∧ ∀ z, y1 = .inr z → z = (v, M')) (h : fj_X2_newsFor_63 x0 x1 x2 x3 M = some y1) (hM : MOK E M H) (hS : va_S (eA E) s.heap H locs) (hl : lv_has ls 4 [(0, .ref x0), (1, .ref x1), (2, .int x2), (3, .int x3)]) : W p l e rm_X2_newsFor s m args below meth c H locs 0 0 (MQ below (cQ E (some (.int v)) M') args s 0 0 (eA E)) (F0 m 63 ls []) := by
  obtain ⟨hx, hb, hml, hown, hts⟩ := id hC
  unfold fj_X2_newsFor_63 at h
  refine lv_iinc (v := x3 + 1) (lv' := [(3, .int (x3 + 1)), (0, .ref x0), (1, .ref x1), (2, .int x2)]) hx hb dX2_newsFor_63 hl (k := 3) rfl rfl (by decide) rfl (fun ls hl => ?_)
  refine lv_goto (tgt := 37) hx hb dX2_newsFor_66 (by decide) ?_
  cases h
  exact hy1.1 _ rfl _ _ _ hM hS (lv_sub hl [1, 2, 3, 0] rfl)
noncomputable def fc_X2_newsFor_37 (x0 : Nat) (x1 : Nat) (x2 : Int32) (x3 : Int32) (M : Mem) : Option ((Int32 × Int32 × Mem) ⊕ (Int32 × Mem)) :=
  (if (116 : Int32) ≤ x3 then
  (fj_X2_newsFor_69 x2 M).map Sum.inr
  else
  (gRn 3 64 x0 M).bind fun v1 =>
  (gA 9 v1 x3 M).bind fun v2 =>
  (gRn 3 64 x1 M).bind fun v3 =>
  (gA 9 v3 (x3 - x3 / 4 * 4) M).bind fun v4 =>
  (if v2 ≤ v4 then
  fj_X2_newsFor_63 x0 x1 x2 x3 M
  else
  fj_X2_newsFor_63 x0 x1 (x2 + 1) x3 M))
noncomputable def fj_X2_newsFor_37 (x0 : Nat) (x1 : Nat) (x2 : Int32) (x3 : Int32) (M : Mem) : Option (Int32 × Mem) := loopM (fun q : (Int32 × Int32 × Mem) => fc_X2_newsFor_37 x0 x1 q.1 q.2.1 q.2.2) FU (x2, x3, M)
set_option maxHeartbeats 4000000 in
set_option maxRecDepth 100000 in
theorem tj_X2_newsFor_37 {p : Program} {l : Launch} {e : Env} {s : State} {m : MethodId} {args : Array Value} {below : List Frame} {meth : Method} {c : Code} {E : KEnv} {H : Heap} {locs : List Loc} {ls : Array Slot} {x0 : Nat} {x1 : Nat} {x2 : Int32} {x3 : Int32} {M : Mem} {v : Int32} {M' : Mem} (hC : CallFix p m c cX2_newsFor 4 s args lw_G RX2) (hr : meth.sig.returnType = (some .int)) (hlocks : meth.locks = false) (hE : EnvOK E s) (h : fj_X2_newsFor_37 x0 x1 x2 x3 M = some (v, M')) (hM : MOK E M H) (hS : va_S (eA E) s.heap H locs) (hl : lv_has ls 4 [(0, .ref x0), (1, .ref x1), (2, .int x2), (3, .int x3)]) : W p l e rm_X2_newsFor s m args below meth c H locs 0 0 (MQ below (cQ E (some (.int v)) M') args s 0 0 (eA E)) (F0 m 37 ls []) := by
  refine loopM_ind (body := fun q : (Int32 × Int32 × Mem) => fc_X2_newsFor_37 x0 x1 q.1 q.2.1 q.2.2) (x0 := (v, M')) (Wd := fun q : (Int32 × Int32 × Mem) => ∀ (H : Heap) (locs : List Loc) (ls : Array Slot), MOK E (q.2.2) H → va_S (eA E) s.heap H locs → lv_has ls 4 [(0, .ref x0), (1, .ref x1), (2, .int q.1), (3, .int q.2.1)] → W p l e rm_X2_newsFor s m args below meth c H locs 0 0 (MQ below (cQ E (some (.int v)) M') args s 0 0 (eA E)) (F0 m 37 ls [])) ?_ FU (x2, x3, M) h H locs ls hM hS hl
  clear h hM hS hl H locs ls M x2 x3
  obtain ⟨hx, hb, hml, hown, hts⟩ := id hC
  intro q y1 h hy1 H locs ls hM hS hl
  obtain ⟨x2, x3, M⟩ := q
  have h : fc_X2_newsFor_37 x0 x1 x2 x3 M = some y1 := h
  have hM : MOK E M H := hM
  have hl : lv_has ls 4 [(0, .ref x0), (1, .ref x1), (2, .int x2), (3, .int x3)] := hl
  unfold fc_X2_newsFor_37 at h
  show W p l e rm_X2_newsFor s m args below meth c H locs _ _ _ _
  refine lv_iload_n hx hb dX2_newsFor_37 rfl (lv_at hl 3 rfl) ?_
  refine lv_bipush (v := 116) hx hb dX2_newsFor_38 (by decide) ?_
  refine lv_icmp_ge (tgt := 69) hx hb dX2_newsFor_40 (by decide) (fun c1 => ?_) (fun c1 => ?_)
  · have h := ifp c1 h
    obtain ⟨z0, h9, rfl⟩ := om h
    have e0 := hy1.2 _ rfl
    subst e0
    have h := h9
    refine W.widen (k := 0) (n := 0) (Nat.le_of_ble_eq_true rfl) (Nat.le_of_ble_eq_true rfl) ?_
    exact tj_X2_newsFor_69  hC hr hlocks hE  h hM hS (lv_sub hl [2] rfl)
  · have h := ifn c1 h
    refine lv_aload_n hx hb dX2_newsFor_43 rfl (lv_at hl 0 rfl) ?_
    obtain ⟨v1, h1, h⟩ := ob h
    refine rgn_2_0 hx hb hts hown hE hM qw_82 h1 dX2_newsFor_44 ?_
    refine lv_iload_n hx hb dX2_newsFor_47 rfl (lv_at hl 3 rfl) ?_
    obtain ⟨v2, h1, h⟩ := ob h
    refine r_iald hx hb hE hM h1 dX2_newsFor_48 ?_
    refine lv_aload_n hx hb dX2_newsFor_49 rfl (lv_at hl 1 rfl) ?_
    obtain ⟨v3, h1, h⟩ := ob h
    refine rgn_2_0 hx hb hts hown hE hM qw_82 h1 dX2_newsFor_50 ?_
    refine lv_iload_n hx hb dX2_newsFor_53 rfl (lv_at hl 3 rfl) ?_
    refine lv_iconst (v := 4) hx hb dX2_newsFor_54 (by decide) ?_
    refine lv_irem hx hb dX2_newsFor_55 (by decide) ?_
    obtain ⟨v4, h1, h⟩ := ob h
    refine r_iald hx hb hE hM h1 dX2_newsFor_56 ?_
    refine lv_icmp_le (tgt := 63) hx hb dX2_newsFor_57 (by decide) (fun c1 => ?_) (fun c1 => ?_)
    · have h := ifp c1 h
      refine W.widen (k := 0) (n := 0) (Nat.le_of_ble_eq_true rfl) (Nat.le_of_ble_eq_true rfl) ?_
      exact tj_X2_newsFor_63  hC hr hlocks hE hy1  h hM hS (lv_sub hl [0, 1, 2, 3] rfl)
    · have h := ifn c1 h
      refine lv_iinc (v := x2 + 1) (lv' := [(2, .int (x2 + 1)), (0, .ref x0), (1, .ref x1), (3, .int x3)]) hx hb dX2_newsFor_60 hl (k := 2) rfl rfl (by decide) rfl (fun ls hl => ?_)
      refine W.widen (k := 0) (n := 0) (Nat.le_of_ble_eq_true rfl) (Nat.le_of_ble_eq_true rfl) ?_
      exact tj_X2_newsFor_63  hC hr hlocks hE hy1  h hM hS (lv_sub hl [1, 2, 0, 3] rfl)
noncomputable def fj_X2_newsFor_34 (x0 : Nat) (x1 : Nat) (x2 : Int32) (M : Mem) : Option (Int32 × Mem) :=
  fj_X2_newsFor_37 x0 x1 x2 36 M
set_option maxHeartbeats 4000000 in
set_option maxRecDepth 100000 in
theorem tj_X2_newsFor_34 {p : Program} {l : Launch} {e : Env} {s : State} {m : MethodId} {args : Array Value} {below : List Frame} {meth : Method} {c : Code} {E : KEnv} {H : Heap} {locs : List Loc} {ls : Array Slot} {x0 : Nat} {x1 : Nat} {x2 : Int32} {M : Mem} {v : Int32} {M' : Mem} (hC : CallFix p m c cX2_newsFor 4 s args lw_G RX2) (hr : meth.sig.returnType = (some .int)) (hlocks : meth.locks = false) (hE : EnvOK E s) (h : fj_X2_newsFor_34 x0 x1 x2 M = some (v, M')) (hM : MOK E M H) (hS : va_S (eA E) s.heap H locs) (hl : lv_has ls 4 [(0, .ref x0), (1, .ref x1), (2, .int x2)]) : W p l e rm_X2_newsFor s m args below meth c H locs 0 0 (MQ below (cQ E (some (.int v)) M') args s 0 0 (eA E)) (F0 m 34 ls []) := by
  obtain ⟨hx, hb, hml, hown, hts⟩ := id hC
  unfold fj_X2_newsFor_34 at h
  refine lv_bipush (v := 36) hx hb dX2_newsFor_34 (by decide) ?_
  refine lv_istore_n (lv' := [(3, .int 36), (0, .ref x0), (1, .ref x1), (2, .int x2)]) hx hb dX2_newsFor_36 rfl hl (by decide) rfl (fun ls hl => ?_)
  refine W.widen (k := 0) (n := 0) (Nat.le_of_ble_eq_true rfl) (Nat.le_of_ble_eq_true rfl) ?_
  exact tj_X2_newsFor_37  hC hr hlocks hE  h hM hS (lv_sub hl [1, 2, 3, 0] rfl)
noncomputable def fj_X2_newsFor_28 (x0 : Nat) (x1 : Nat) (x2 : Int32) (x3 : Int32) (M : Mem) : Option ((Int32 × Int32 × Mem) ⊕ (Int32 × Mem)) :=
  some (.inl (x2, x3 + 1, M))
set_option maxHeartbeats 4000000 in
set_option maxRecDepth 100000 in
theorem tj_X2_newsFor_28 {p : Program} {l : Launch} {e : Env} {s : State} {m : MethodId} {args : Array Value} {below : List Frame} {meth : Method} {c : Code} {E : KEnv} {H : Heap} {locs : List Loc} {ls : Array Slot} {x0 : Nat} {x1 : Nat} {x2 : Int32} {x3 : Int32} {y1 : ((Int32 × Int32 × Mem) ⊕ (Int32 × Mem))} {M : Mem} {v : Int32} {M' : Mem} (hC : CallFix p m c cX2_newsFor 4 s args lw_G RX2) (hr : meth.sig.returnType = (some .int)) (hlocks : meth.locks = false) (hE : EnvOK E s) (hy1 : (∀ q : (Int32 × Int32 × Mem), y1 = .inl q → ∀ (H : Heap) (locs : List Loc) (ls : Array Slot), MOK E (q.2.2) H → va_S (eA E) s.heap H locs → lv_has ls 4 [(0, .ref x0), (1, .ref x1), (2, .int q.1), (3, .int q.2.1)] → W p l e rm_X2_newsFor s m args below meth c H locs 0 0 (MQ below (cQ E (some (.int v)) M') args s 0 0 (eA E)) (F0 m 4 ls [])) ∧ ∀ z, y1 = .inr z → z = (v, M')) (h : fj_X2_newsFor_28 x0 x1 x2 x3 M = some y1) (hM : MOK E M H) (hS : va_S (eA E) s.heap H locs) (hl : lv_has ls 4 [(0, .ref x0), (1, .ref x1), (2, .int x2), (3, .int x3)]) : W p l e rm_X2_newsFor s m args below meth c H locs 0 0 (MQ below (cQ E (some (.int v)) M') args s 0 0 (eA E)) (F0 m 28 ls []) := by
  obtain ⟨hx, hb, hml, hown, hts⟩ := id hC
  unfold fj_X2_newsFor_28 at h
  refine lv_iinc (v := x3 + 1) (lv' := [(3, .int (x3 + 1)), (0, .ref x0), (1, .ref x1), (2, .int x2)]) hx hb dX2_newsFor_28 hl (k := 3) rfl rfl (by decide) rfl (fun ls hl => ?_)
  refine lv_goto (tgt := 4) hx hb dX2_newsFor_31 (by decide) ?_
  cases h
  exact hy1.1 _ rfl _ _ _ hM hS (lv_sub hl [1, 2, 3, 0] rfl)
noncomputable def fc_X2_newsFor_4 (x0 : Nat) (x1 : Nat) (x2 : Int32) (x3 : Int32) (M : Mem) : Option ((Int32 × Int32 × Mem) ⊕ (Int32 × Mem)) :=
  (if (36 : Int32) ≤ x3 then
  (fj_X2_newsFor_34 x0 x1 x2 M).map Sum.inr
  else
  (gRn 3 64 x0 M).bind fun v5 =>
  (gA 9 v5 x3 M).bind fun v6 =>
  (gRn 3 64 x1 M).bind fun v7 =>
  (gA 9 v7 x3 M).bind fun v8 =>
  (if v6 ≤ v8 then
  fj_X2_newsFor_28 x0 x1 x2 x3 M
  else
  fj_X2_newsFor_28 x0 x1 (x2 + 1) x3 M))
noncomputable def fj_X2_newsFor_4 (x0 : Nat) (x1 : Nat) (x2 : Int32) (x3 : Int32) (M : Mem) : Option (Int32 × Mem) := loopM (fun q : (Int32 × Int32 × Mem) => fc_X2_newsFor_4 x0 x1 q.1 q.2.1 q.2.2) FU (x2, x3, M)
set_option maxHeartbeats 4000000 in
set_option maxRecDepth 100000 in
theorem tj_X2_newsFor_4 {p : Program} {l : Launch} {e : Env} {s : State} {m : MethodId} {args : Array Value} {below : List Frame} {meth : Method} {c : Code} {E : KEnv} {H : Heap} {locs : List Loc} {ls : Array Slot} {x0 : Nat} {x1 : Nat} {x2 : Int32} {x3 : Int32} {M : Mem} {v : Int32} {M' : Mem} (hC : CallFix p m c cX2_newsFor 4 s args lw_G RX2) (hr : meth.sig.returnType = (some .int)) (hlocks : meth.locks = false) (hE : EnvOK E s) (h : fj_X2_newsFor_4 x0 x1 x2 x3 M = some (v, M')) (hM : MOK E M H) (hS : va_S (eA E) s.heap H locs) (hl : lv_has ls 4 [(0, .ref x0), (1, .ref x1), (2, .int x2), (3, .int x3)]) : W p l e rm_X2_newsFor s m args below meth c H locs 0 0 (MQ below (cQ E (some (.int v)) M') args s 0 0 (eA E)) (F0 m 4 ls []) := by
  refine loopM_ind (body := fun q : (Int32 × Int32 × Mem) => fc_X2_newsFor_4 x0 x1 q.1 q.2.1 q.2.2) (x0 := (v, M')) (Wd := fun q : (Int32 × Int32 × Mem) => ∀ (H : Heap) (locs : List Loc) (ls : Array Slot), MOK E (q.2.2) H → va_S (eA E) s.heap H locs → lv_has ls 4 [(0, .ref x0), (1, .ref x1), (2, .int q.1), (3, .int q.2.1)] → W p l e rm_X2_newsFor s m args below meth c H locs 0 0 (MQ below (cQ E (some (.int v)) M') args s 0 0 (eA E)) (F0 m 4 ls [])) ?_ FU (x2, x3, M) h H locs ls hM hS hl
  clear h hM hS hl H locs ls M x2 x3
  obtain ⟨hx, hb, hml, hown, hts⟩ := id hC
  intro q y1 h hy1 H locs ls hM hS hl
  obtain ⟨x2, x3, M⟩ := q
  have h : fc_X2_newsFor_4 x0 x1 x2 x3 M = some y1 := h
  have hM : MOK E M H := hM
  have hl : lv_has ls 4 [(0, .ref x0), (1, .ref x1), (2, .int x2), (3, .int x3)] := hl
  unfold fc_X2_newsFor_4 at h
  show W p l e rm_X2_newsFor s m args below meth c H locs _ _ _ _
  refine lv_iload_n hx hb dX2_newsFor_4 rfl (lv_at hl 3 rfl) ?_
  refine lv_bipush (v := 36) hx hb dX2_newsFor_5 (by decide) ?_
  refine lv_icmp_ge (tgt := 34) hx hb dX2_newsFor_7 (by decide) (fun c1 => ?_) (fun c1 => ?_)
  · have h := ifp c1 h
    obtain ⟨z0, h9, rfl⟩ := om h
    have e0 := hy1.2 _ rfl
    subst e0
    have h := h9
    refine W.widen (k := 0) (n := 0) (Nat.le_of_ble_eq_true rfl) (Nat.le_of_ble_eq_true rfl) ?_
    exact tj_X2_newsFor_34  hC hr hlocks hE  h hM hS (lv_sub hl [0, 1, 2] rfl)
  · have h := ifn c1 h
    refine lv_aload_n hx hb dX2_newsFor_10 rfl (lv_at hl 0 rfl) ?_
    obtain ⟨v5, h1, h⟩ := ob h
    refine rgn_2_0 hx hb hts hown hE hM qw_82 h1 dX2_newsFor_11 ?_
    refine lv_iload_n hx hb dX2_newsFor_14 rfl (lv_at hl 3 rfl) ?_
    obtain ⟨v6, h1, h⟩ := ob h
    refine r_iald hx hb hE hM h1 dX2_newsFor_15 ?_
    refine lv_aload_n hx hb dX2_newsFor_16 rfl (lv_at hl 1 rfl) ?_
    obtain ⟨v7, h1, h⟩ := ob h
    refine rgn_2_0 hx hb hts hown hE hM qw_82 h1 dX2_newsFor_17 ?_
    refine lv_iload_n hx hb dX2_newsFor_20 rfl (lv_at hl 3 rfl) ?_
    obtain ⟨v8, h1, h⟩ := ob h
    refine r_iald hx hb hE hM h1 dX2_newsFor_21 ?_
    refine lv_icmp_le (tgt := 28) hx hb dX2_newsFor_22 (by decide) (fun c1 => ?_) (fun c1 => ?_)
    · have h := ifp c1 h
      refine W.widen (k := 0) (n := 0) (Nat.le_of_ble_eq_true rfl) (Nat.le_of_ble_eq_true rfl) ?_
      exact tj_X2_newsFor_28  hC hr hlocks hE hy1  h hM hS (lv_sub hl [0, 1, 2, 3] rfl)
    · have h := ifn c1 h
      refine lv_iinc (v := x2 + 1) (lv' := [(2, .int (x2 + 1)), (0, .ref x0), (1, .ref x1), (3, .int x3)]) hx hb dX2_newsFor_25 hl (k := 2) rfl rfl (by decide) rfl (fun ls hl => ?_)
      refine W.widen (k := 0) (n := 0) (Nat.le_of_ble_eq_true rfl) (Nat.le_of_ble_eq_true rfl) ?_
      exact tj_X2_newsFor_28  hC hr hlocks hE hy1  h hM hS (lv_sub hl [1, 2, 0, 3] rfl)
noncomputable def f_X2_newsFor (this : Nat) (a1 : Nat) (M : Mem) : Option (Int32 × Mem) :=
  fj_X2_newsFor_4 this a1 0 0 M
set_option maxHeartbeats 4000000 in
set_option maxRecDepth 100000 in
theorem mt_X2_newsFor (l : Launch) (E : KEnv) (this : Nat) (a1 : Nat) (M M' : Mem) (v : Int32) (h : f_X2_newsFor this a1 M = some (v, M')) : Met l yX2_newsFor (Cond.code yX2_newsFor cX2_newsFor 4 (some .int) :: lw_G) rm_X2_newsFor (cPc E [.ref this, .ref a1] M) (cQ E (some (.int v)) M') 0 0 (eA E) := by
  refine Met.ofW (cc := cX2_newsFor) (maxL := 4) (ret := (some .int)) (by decide) rfl ?_
  intro p e s m args below meth c s₁ B hml hv
  obtain ⟨rfl, hE, hM⟩ := hv
  have hx := B.exec
  have hb := B.bytes
  have hr := B.returns
  have hts0 := atoms_spec (ws := Cond.code yX2_newsFor cX2_newsFor 4 (some .int) :: lw_G) B.pre
  have hts : ∀ w ∈ lw_G, w.before _ s = true := fun w hw => hts0 w (List.mem_cons_of_mem _ hw)
  have hown : s.vm.findClass RX2 = some m.cls := findClass_of_methodNamed B.named
  have hlocks := B.notSynchronized
  have hC : CallFix p m c cX2_newsFor 4 s _ lw_G RX2 := ⟨hx, hb, hml, hown, hts⟩
  have hS : va_S (eA E) s.heap s.heap [] := va_S.rf
  have hl := lv_entry ([.ref this, .ref a1]) (n := 4) (Nat.le_of_ble_eq_true rfl)
  rw [lg_entry_eq]
  generalize (lg_sl ([.ref this, .ref a1]) ++ List.replicate (4 - (lg_sl ([.ref this, .ref a1])).length) Slot.unset).toArray = ls at hl ⊢
  have hl : lv_has ls 4 [(0, .ref this), (1, .ref a1)] := hl
  unfold f_X2_newsFor at h
  show W p l e rm_X2_newsFor s m _ below meth c s.heap [] 0 0 _ _
  refine lv_iconst (v := 0) hx hb dX2_newsFor_0 (by decide) ?_
  refine lv_istore_n (lv' := [(2, .int 0), (0, .ref this), (1, .ref a1)]) hx hb dX2_newsFor_1 rfl hl (by decide) rfl (fun ls hl => ?_)
  refine lv_iconst (v := 0) hx hb dX2_newsFor_2 (by decide) ?_
  refine lv_istore_n (lv' := [(3, .int 0), (2, .int 0), (0, .ref this), (1, .ref a1)]) hx hb dX2_newsFor_3 rfl hl (by decide) rfl (fun ls hl => ?_)
  refine W.widen (k := 0) (n := 0) (Nat.le_of_ble_eq_true rfl) (Nat.le_of_ble_eq_true rfl) ?_
  exact tj_X2_newsFor_4  hC hr hlocks hE  h hM hS (lv_sub hl [2, 3, 1, 0] rfl)

theorem dd_X2_version : yX2_version.cls = RX2 ∧ yX2_version.cls ≠ "java/lang/invoke/MethodHandle" ∧ yX2_version.cls ≠ "java/lang/invoke/VarHandle" ∧ (parseMethodDescriptor yX2_version.desc).map (fun d => d.parameters.length) = some 1 := by decide +kernel
abbrev rm_X2_version : Room := ({ frames := 0, cells := 0, slots := 0, locals := 0 } : Room)
noncomputable def f_X2_version (this : Nat) (a1 : Int32) (M : Mem) : Option (Int32 × Mem) :=
  (gRn 3 64 this M).bind fun v1 =>
  (gA 9 v1 a1 M).bind fun v2 =>
  some (v2, M)
set_option maxHeartbeats 4000000 in
set_option maxRecDepth 100000 in
theorem mt_X2_version (l : Launch) (E : KEnv) (this : Nat) (a1 : Int32) (M M' : Mem) (v : Int32) (h : f_X2_version this a1 M = some (v, M')) : Met l yX2_version (Cond.code yX2_version cX2_version 2 (some .int) :: lw_G) rm_X2_version (cPc E [.ref this, .int a1] M) (cQ E (some (.int v)) M') 0 0 (eA E) := by
  refine Met.ofW (cc := cX2_version) (maxL := 2) (ret := (some .int)) (by decide) rfl ?_
  intro p e s m args below meth c s₁ B hml hv
  obtain ⟨rfl, hE, hM⟩ := hv
  have hx := B.exec
  have hb := B.bytes
  have hr := B.returns
  have hts0 := atoms_spec (ws := Cond.code yX2_version cX2_version 2 (some .int) :: lw_G) B.pre
  have hts : ∀ w ∈ lw_G, w.before _ s = true := fun w hw => hts0 w (List.mem_cons_of_mem _ hw)
  have hown : s.vm.findClass RX2 = some m.cls := findClass_of_methodNamed B.named
  have hlocks := B.notSynchronized
  have hC : CallFix p m c cX2_version 2 s _ lw_G RX2 := ⟨hx, hb, hml, hown, hts⟩
  have hS : va_S (eA E) s.heap s.heap [] := va_S.rf
  have hl := lv_entry ([.ref this, .int a1]) (n := 2) (Nat.le_of_ble_eq_true rfl)
  rw [lg_entry_eq]
  generalize (lg_sl ([.ref this, .int a1]) ++ List.replicate (2 - (lg_sl ([.ref this, .int a1])).length) Slot.unset).toArray = ls at hl ⊢
  have hl : lv_has ls 2 [(0, .ref this), (1, .int a1)] := hl
  unfold f_X2_version at h
  show W p l e rm_X2_version s m _ below meth c s.heap [] 0 0 _ _
  refine lv_aload_n hx hb dX2_version_0 rfl (lv_at hl 0 rfl) ?_
  obtain ⟨v1, h1, h⟩ := ob h
  refine rgn_2_0 hx hb hts hown hE hM qw_82 h1 dX2_version_1 ?_
  refine lv_iload_n hx hb dX2_version_4 rfl (lv_at hl 1 rfl) ?_
  obtain ⟨v2, h1, h⟩ := ob h
  refine r_iald hx hb hE hM h1 dX2_version_5 ?_
  cases h
  exact eI hx hb hr hlocks hM hS dX2_version_6 (Nat.le_of_ble_eq_true rfl) (Nat.le_of_ble_eq_true rfl)

theorem dd_X2_sum : yX2_sum.cls = RX2 ∧ yX2_sum.cls ≠ "java/lang/invoke/MethodHandle" ∧ yX2_sum.cls ≠ "java/lang/invoke/VarHandle" ∧ (parseMethodDescriptor yX2_sum.desc).map (fun d => d.parameters.length) = some 3 := by decide +kernel
abbrev rm_X2_sum : Room := ({ frames := 0, cells := 0, slots := 0, locals := 0 } : Room)
noncomputable def f_X2_sum (this : Nat) (a1 : Int32) (a2 : Int32) (a3 : Int32) (M : Mem) : Option (Int32 × Mem) :=
  (gRn 3 64 this M).bind fun v1 =>
  (gA 9 v1 ((a1 + (a2 * 4)) + a3) M).bind fun v2 =>
  some (v2, M)
set_option maxHeartbeats 4000000 in
set_option maxRecDepth 100000 in
theorem mt_X2_sum (l : Launch) (E : KEnv) (this : Nat) (a1 : Int32) (a2 : Int32) (a3 : Int32) (M M' : Mem) (v : Int32) (h : f_X2_sum this a1 a2 a3 M = some (v, M')) : Met l yX2_sum (Cond.code yX2_sum cX2_sum 4 (some .int) :: lw_G) rm_X2_sum (cPc E [.ref this, .int a1, .int a2, .int a3] M) (cQ E (some (.int v)) M') 0 0 (eA E) := by
  refine Met.ofW (cc := cX2_sum) (maxL := 4) (ret := (some .int)) (by decide) rfl ?_
  intro p e s m args below meth c s₁ B hml hv
  obtain ⟨rfl, hE, hM⟩ := hv
  have hx := B.exec
  have hb := B.bytes
  have hr := B.returns
  have hts0 := atoms_spec (ws := Cond.code yX2_sum cX2_sum 4 (some .int) :: lw_G) B.pre
  have hts : ∀ w ∈ lw_G, w.before _ s = true := fun w hw => hts0 w (List.mem_cons_of_mem _ hw)
  have hown : s.vm.findClass RX2 = some m.cls := findClass_of_methodNamed B.named
  have hlocks := B.notSynchronized
  have hC : CallFix p m c cX2_sum 4 s _ lw_G RX2 := ⟨hx, hb, hml, hown, hts⟩
  have hS : va_S (eA E) s.heap s.heap [] := va_S.rf
  have hl := lv_entry ([.ref this, .int a1, .int a2, .int a3]) (n := 4) (Nat.le_of_ble_eq_true rfl)
  rw [lg_entry_eq]
  generalize (lg_sl ([.ref this, .int a1, .int a2, .int a3]) ++ List.replicate (4 - (lg_sl ([.ref this, .int a1, .int a2, .int a3])).length) Slot.unset).toArray = ls at hl ⊢
  have hl : lv_has ls 4 [(0, .ref this), (1, .int a1), (2, .int a2), (3, .int a3)] := hl
  unfold f_X2_sum at h
  show W p l e rm_X2_sum s m _ below meth c s.heap [] 0 0 _ _
  refine lv_aload_n hx hb dX2_sum_0 rfl (lv_at hl 0 rfl) ?_
  obtain ⟨v1, h1, h⟩ := ob h
  refine rgn_2_0 hx hb hts hown hE hM qw_82 h1 dX2_sum_1 ?_
  refine lv_iload_n hx hb dX2_sum_4 rfl (lv_at hl 1 rfl) ?_
  refine lv_iload_n hx hb dX2_sum_5 rfl (lv_at hl 2 rfl) ?_
  refine lv_iconst (v := 4) hx hb dX2_sum_6 (by decide) ?_
  refine lv_imul hx hb dX2_sum_7 ?_
  refine lv_iadd hx hb dX2_sum_8 ?_
  refine lv_iload_n hx hb dX2_sum_9 rfl (lv_at hl 3 rfl) ?_
  refine lv_iadd hx hb dX2_sum_10 ?_
  obtain ⟨v2, h1, h⟩ := ob h
  refine r_iald hx hb hE hM h1 dX2_sum_11 ?_
  cases h
  exact eI hx hb hr hlocks hM hS dX2_sum_12 (Nat.le_of_ble_eq_true rfl) (Nat.le_of_ble_eq_true rfl)

theorem dd_X2_addToSum : yX2_addToSum.cls = RX2 ∧ yX2_addToSum.cls ≠ "java/lang/invoke/MethodHandle" ∧ yX2_addToSum.cls ≠ "java/lang/invoke/VarHandle" ∧ (parseMethodDescriptor yX2_addToSum.desc).map (fun d => d.parameters.length) = some 4 := by decide +kernel
abbrev rm_X2_addToSum : Room := ({ frames := 0, cells := 0, slots := 0, locals := 0 } : Room)
noncomputable def f_X2_addToSum (this : Nat) (a1 : Int32) (a2 : Int32) (a3 : Int32) (a4 : Int32) (M : Mem) : Option Mem :=
  (gRn 3 64 this M).bind fun v1 =>
  (gA 9 v1 ((a1 + (a2 * 4)) + a3) M).bind fun v2 =>
  (sA 9 v1 ((a1 + (a2 * 4)) + a3) (v2 + a4) M).bind fun M3 =>
  some M3
set_option maxHeartbeats 4000000 in
set_option maxRecDepth 100000 in
theorem mt_X2_addToSum (l : Launch) (E : KEnv) (this : Nat) (a1 : Int32) (a2 : Int32) (a3 : Int32) (a4 : Int32) (M M' : Mem) (h : f_X2_addToSum this a1 a2 a3 a4 M = some M') : Met l yX2_addToSum (Cond.code yX2_addToSum cX2_addToSum 5 none :: lw_G) rm_X2_addToSum (cPc E [.ref this, .int a1, .int a2, .int a3, .int a4] M) (cQ E none M') 0 0 (eA E) := by
  refine Met.ofW (cc := cX2_addToSum) (maxL := 5) (ret := none) (by decide) rfl ?_
  intro p e s m args below meth c s₁ B hml hv
  obtain ⟨rfl, hE, hM⟩ := hv
  have hx := B.exec
  have hb := B.bytes
  have hr := B.returns
  have hts0 := atoms_spec (ws := Cond.code yX2_addToSum cX2_addToSum 5 none :: lw_G) B.pre
  have hts : ∀ w ∈ lw_G, w.before _ s = true := fun w hw => hts0 w (List.mem_cons_of_mem _ hw)
  have hown : s.vm.findClass RX2 = some m.cls := findClass_of_methodNamed B.named
  have hlocks := B.notSynchronized
  have hC : CallFix p m c cX2_addToSum 5 s _ lw_G RX2 := ⟨hx, hb, hml, hown, hts⟩
  have hS : va_S (eA E) s.heap s.heap [] := va_S.rf
  have hl := lv_entry ([.ref this, .int a1, .int a2, .int a3, .int a4]) (n := 5) (Nat.le_of_ble_eq_true rfl)
  rw [lg_entry_eq]
  generalize (lg_sl ([.ref this, .int a1, .int a2, .int a3, .int a4]) ++ List.replicate (5 - (lg_sl ([.ref this, .int a1, .int a2, .int a3, .int a4])).length) Slot.unset).toArray = ls at hl ⊢
  have hl : lv_has ls 5 [(0, .ref this), (1, .int a1), (2, .int a2), (3, .int a3), (4, .int a4)] := hl
  unfold f_X2_addToSum at h
  show W p l e rm_X2_addToSum s m _ below meth c s.heap [] 0 0 _ _
  refine lv_aload_n hx hb dX2_addToSum_0 rfl (lv_at hl 0 rfl) ?_
  obtain ⟨v1, h1, h⟩ := ob h
  refine rgn_2_0 hx hb hts hown hE hM qw_82 h1 dX2_addToSum_1 ?_
  refine lv_iload_n hx hb dX2_addToSum_4 rfl (lv_at hl 1 rfl) ?_
  refine lv_iload_n hx hb dX2_addToSum_5 rfl (lv_at hl 2 rfl) ?_
  refine lv_iconst (v := 4) hx hb dX2_addToSum_6 (by decide) ?_
  refine lv_imul hx hb dX2_addToSum_7 ?_
  refine lv_iadd hx hb dX2_addToSum_8 ?_
  refine lv_iload_n hx hb dX2_addToSum_9 rfl (lv_at hl 3 rfl) ?_
  refine lv_iadd hx hb dX2_addToSum_10 ?_
  refine lv_dup2_11 hx hb dX2_addToSum_11 rfl rfl ?_
  obtain ⟨v2, h1, h⟩ := ob h
  refine r_iald hx hb hE hM h1 dX2_addToSum_12 ?_
  refine lv_iload hx hb dX2_addToSum_13 (lv_at hl 4 rfl) ?_
  refine lv_iadd hx hb dX2_addToSum_15 ?_
  obtain ⟨M3, h1, h⟩ := ob h
  refine r_iast hx hb hE hM hS h1 dX2_addToSum_16 (fun H locs hM hS => ?_)
  cases h
  exact eV_ hx hb hr hlocks hM hS dX2_addToSum_17 (Nat.le_of_ble_eq_true rfl) (Nat.le_of_ble_eq_true rfl)

theorem dd_X2_total : yX2_total.cls = RX2 ∧ yX2_total.cls ≠ "java/lang/invoke/MethodHandle" ∧ yX2_total.cls ≠ "java/lang/invoke/VarHandle" ∧ (parseMethodDescriptor yX2_total.desc).map (fun d => d.parameters.length) = some 1 := by decide +kernel
abbrev rm_X2_total : Room := ({ frames := 1, cells := 0, slots := 0, locals := 23 } : Room)
noncomputable def fj_X2_total_34 (x2 : Int32) (M : Mem) : Option (Int32 × Mem) :=
  some (x2, M)
set_option maxHeartbeats 4000000 in
set_option maxRecDepth 100000 in
theorem tj_X2_total_34 {p : Program} {l : Launch} {e : Env} {s : State} {m : MethodId} {args : Array Value} {below : List Frame} {meth : Method} {c : Code} {E : KEnv} {H : Heap} {locs : List Loc} {ls : Array Slot} {x2 : Int32} {M : Mem} {v : Int32} {M' : Mem} (hC : CallFix p m c cX2_total 4 s args lw_G RX2) (hr : meth.sig.returnType = (some .int)) (hlocks : meth.locks = false) (hE : EnvOK E s) (h : fj_X2_total_34 x2 M = some (v, M')) (hM : MOK E M H) (hS : va_S (eA E) s.heap H locs) (hl : lv_has ls 4 [(2, .int x2)]) : W p l e rm_X2_total s m args below meth c H locs 0 0 (MQ below (cQ E (some (.int v)) M') args s 0 0 (eA E)) (F0 m 34 ls []) := by
  obtain ⟨hx, hb, hml, hown, hts⟩ := id hC
  unfold fj_X2_total_34 at h
  refine lv_iload_n hx hb dX2_total_34 rfl (lv_at hl 0 rfl) ?_
  cases h
  exact eI hx hb hr hlocks hM hS dX2_total_35 (Nat.le_of_ble_eq_true rfl) (Nat.le_of_ble_eq_true rfl)
noncomputable def fc_X2_total_4 (x0 : Nat) (x1 : Int32) (x2 : Int32) (x3 : Int32) (M : Mem) : Option ((Int32 × Int32 × Mem) ⊕ (Int32 × Mem)) :=
  (if (4 : Int32) ≤ x3 then
  (fj_X2_total_34 x2 M).map Sum.inr
  else
  bn (cK 3 x0 M (f_X2_sum x0 4 x1 x3 M)) fun v1 M2 =>
  bn (cK 3 x0 M2 (f_X2_sum x0 20 x1 x3 M2)) fun v3 M4 =>
  some (.inl (x2 + (v1 - v3), x3 + 1, M4)))
noncomputable def fj_X2_total_4 (x0 : Nat) (x1 : Int32) (x2 : Int32) (x3 : Int32) (M : Mem) : Option (Int32 × Mem) := loopM (fun q : (Int32 × Int32 × Mem) => fc_X2_total_4 x0 x1 q.1 q.2.1 q.2.2) FU (x2, x3, M)
set_option maxHeartbeats 4000000 in
set_option maxRecDepth 100000 in
theorem tj_X2_total_4 {p : Program} {l : Launch} {e : Env} {s : State} {m : MethodId} {args : Array Value} {below : List Frame} {meth : Method} {c : Code} {E : KEnv} {H : Heap} {locs : List Loc} {ls : Array Slot} {x0 : Nat} {x1 : Int32} {x2 : Int32} {x3 : Int32} {M : Mem} {v : Int32} {M' : Mem} (hC : CallFix p m c cX2_total 4 s args lw_G RX2) (hr : meth.sig.returnType = (some .int)) (hlocks : meth.locks = false) (hE : EnvOK E s) (h : fj_X2_total_4 x0 x1 x2 x3 M = some (v, M')) (hM : MOK E M H) (hS : va_S (eA E) s.heap H locs) (hl : lv_has ls 4 [(0, .ref x0), (1, .int x1), (2, .int x2), (3, .int x3)]) : W p l e rm_X2_total s m args below meth c H locs 0 0 (MQ below (cQ E (some (.int v)) M') args s 0 0 (eA E)) (F0 m 4 ls []) := by
  refine loopM_ind (body := fun q : (Int32 × Int32 × Mem) => fc_X2_total_4 x0 x1 q.1 q.2.1 q.2.2) (x0 := (v, M')) (Wd := fun q : (Int32 × Int32 × Mem) => ∀ (H : Heap) (locs : List Loc) (ls : Array Slot), MOK E (q.2.2) H → va_S (eA E) s.heap H locs → lv_has ls 4 [(0, .ref x0), (1, .int x1), (2, .int q.1), (3, .int q.2.1)] → W p l e rm_X2_total s m args below meth c H locs 0 0 (MQ below (cQ E (some (.int v)) M') args s 0 0 (eA E)) (F0 m 4 ls [])) ?_ FU (x2, x3, M) h H locs ls hM hS hl
  clear h hM hS hl H locs ls M x2 x3
  obtain ⟨hx, hb, hml, hown, hts⟩ := id hC
  intro q y1 h hy1 H locs ls hM hS hl
  obtain ⟨x2, x3, M⟩ := q
  have h : fc_X2_total_4 x0 x1 x2 x3 M = some y1 := h
  have hM : MOK E M H := hM
  have hl : lv_has ls 4 [(0, .ref x0), (1, .int x1), (2, .int x2), (3, .int x3)] := hl
  unfold fc_X2_total_4 at h
  show W p l e rm_X2_total s m args below meth c H locs _ _ _ _
  refine lv_iload_n hx hb dX2_total_4 rfl (lv_at hl 3 rfl) ?_
  refine lv_iconst (v := 4) hx hb dX2_total_5 (by decide) ?_
  refine lv_icmp_ge (tgt := 34) hx hb dX2_total_6 (by decide) (fun c1 => ?_) (fun c1 => ?_)
  · have h := ifp c1 h
    obtain ⟨z0, h9, rfl⟩ := om h
    have e0 := hy1.2 _ rfl
    subst e0
    have h := h9
    refine W.widen (k := 0) (n := 0) (Nat.le_of_ble_eq_true rfl) (Nat.le_of_ble_eq_true rfl) ?_
    exact tj_X2_total_34  hC hr hlocks hE  h hM hS (lv_sub hl [2] rfl)
  · have h := ifn c1 h
    refine lv_iload_n hx hb dX2_total_9 rfl (lv_at hl 2 rfl) ?_
    refine lv_aload_n hx hb dX2_total_10 rfl (lv_at hl 0 rfl) ?_
    refine lv_iconst (v := 4) hx hb dX2_total_11 (by decide) ?_
    refine lv_iload_n hx hb dX2_total_12 rfl (lv_at hl 1 rfl) ?_
    refine lv_iload_n hx hb dX2_total_13 rfl (lv_at hl 3 rfl) ?_
    obtain ⟨v1, M2, h1, h⟩ := ob2 h
    obtain ⟨hk1, h1⟩ := ifg h1
    refine kV1 (ci := 2) (As := [.int 4, .int x1, .int x3]) (rest := [.int x2]) hC hE hS hM (mt_X2_sum _ E x0 4 x1 x3 _ _ _ h1) (gwV qw_639 qw_640 qw_641 qw_41 qw_642) ⟨rfl, rfl, (Nat.le_of_ble_eq_true rfl), (Nat.le_of_ble_eq_true rfl)⟩ dd_X2_sum rfl hk1 rfl rfl hl.1 (Nat.le_of_ble_eq_true rfl) dX2_total_14 ⟨(Nat.le_of_ble_eq_true rfl), (Nat.le_of_ble_eq_true rfl)⟩ (fun H locs hM hS => ?_)
    refine lv_aload_n hx hb dX2_total_17 rfl (lv_at hl 0 rfl) ?_
    refine lv_bipush (v := 20) hx hb dX2_total_18 (by decide) ?_
    refine lv_iload_n hx hb dX2_total_20 rfl (lv_at hl 1 rfl) ?_
    refine lv_iload_n hx hb dX2_total_21 rfl (lv_at hl 3 rfl) ?_
    obtain ⟨v3, M4, h1, h⟩ := ob2 h
    obtain ⟨hk1, h1⟩ := ifg h1
    refine kV1 (ci := 2) (As := [.int 20, .int x1, .int x3]) (rest := [.int v1, .int x2]) hC hE hS hM (mt_X2_sum _ E x0 20 x1 x3 _ _ _ h1) (gwV qw_639 qw_640 qw_641 qw_41 qw_642) ⟨rfl, rfl, (Nat.le_of_ble_eq_true rfl), (Nat.le_of_ble_eq_true rfl)⟩ dd_X2_sum rfl hk1 rfl rfl hl.1 (Nat.le_of_ble_eq_true rfl) dX2_total_22 ⟨(Nat.le_of_ble_eq_true rfl), (Nat.le_of_ble_eq_true rfl)⟩ (fun H locs hM hS => ?_)
    refine lv_isub hx hb dX2_total_25 ?_
    refine lv_iadd hx hb dX2_total_26 ?_
    refine lv_istore_n (lv' := [(2, .int (x2 + (v1 - v3))), (0, .ref x0), (1, .int x1), (3, .int x3)]) hx hb dX2_total_27 rfl hl (by decide) rfl (fun ls hl => ?_)
    refine lv_iinc (v := x3 + 1) (lv' := [(3, .int (x3 + 1)), (2, .int (x2 + (v1 - v3))), (0, .ref x0), (1, .int x1)]) hx hb dX2_total_28 hl (k := 3) rfl rfl (by decide) rfl (fun ls hl => ?_)
    refine lv_goto (tgt := 4) hx hb dX2_total_31 (by decide) ?_
    cases h
    exact hy1.1 _ rfl _ _ _ hM hS (lv_sub hl [2, 3, 1, 0] rfl)
noncomputable def f_X2_total (this : Nat) (a1 : Int32) (M : Mem) : Option (Int32 × Mem) :=
  fj_X2_total_4 this a1 0 0 M
set_option maxHeartbeats 4000000 in
set_option maxRecDepth 100000 in
theorem mt_X2_total (l : Launch) (E : KEnv) (this : Nat) (a1 : Int32) (M M' : Mem) (v : Int32) (h : f_X2_total this a1 M = some (v, M')) : Met l yX2_total (Cond.code yX2_total cX2_total 4 (some .int) :: lw_G) rm_X2_total (cPc E [.ref this, .int a1] M) (cQ E (some (.int v)) M') 0 0 (eA E) := by
  refine Met.ofW (cc := cX2_total) (maxL := 4) (ret := (some .int)) (by decide) rfl ?_
  intro p e s m args below meth c s₁ B hml hv
  obtain ⟨rfl, hE, hM⟩ := hv
  have hx := B.exec
  have hb := B.bytes
  have hr := B.returns
  have hts0 := atoms_spec (ws := Cond.code yX2_total cX2_total 4 (some .int) :: lw_G) B.pre
  have hts : ∀ w ∈ lw_G, w.before _ s = true := fun w hw => hts0 w (List.mem_cons_of_mem _ hw)
  have hown : s.vm.findClass RX2 = some m.cls := findClass_of_methodNamed B.named
  have hlocks := B.notSynchronized
  have hC : CallFix p m c cX2_total 4 s _ lw_G RX2 := ⟨hx, hb, hml, hown, hts⟩
  have hS : va_S (eA E) s.heap s.heap [] := va_S.rf
  have hl := lv_entry ([.ref this, .int a1]) (n := 4) (Nat.le_of_ble_eq_true rfl)
  rw [lg_entry_eq]
  generalize (lg_sl ([.ref this, .int a1]) ++ List.replicate (4 - (lg_sl ([.ref this, .int a1])).length) Slot.unset).toArray = ls at hl ⊢
  have hl : lv_has ls 4 [(0, .ref this), (1, .int a1)] := hl
  unfold f_X2_total at h
  show W p l e rm_X2_total s m _ below meth c s.heap [] 0 0 _ _
  refine lv_iconst (v := 0) hx hb dX2_total_0 (by decide) ?_
  refine lv_istore_n (lv' := [(2, .int 0), (0, .ref this), (1, .int a1)]) hx hb dX2_total_1 rfl hl (by decide) rfl (fun ls hl => ?_)
  refine lv_iconst (v := 0) hx hb dX2_total_2 (by decide) ?_
  refine lv_istore_n (lv' := [(3, .int 0), (2, .int 0), (0, .ref this), (1, .int a1)]) hx hb dX2_total_3 rfl hl (by decide) rfl (fun ls hl => ?_)
  refine W.widen (k := 0) (n := 0) (Nat.le_of_ble_eq_true rfl) (Nat.le_of_ble_eq_true rfl) ?_
  exact tj_X2_total_4  hC hr hlocks hE  h hM hS (lv_sub hl [2, 3, 1, 0] rfl)

theorem dd_X2_dotOfTag : yX2_dotOfTag.cls = RX2 ∧ yX2_dotOfTag.cls ≠ "java/lang/invoke/MethodHandle" ∧ yX2_dotOfTag.cls ≠ "java/lang/invoke/VarHandle" ∧ (parseMethodDescriptor yX2_dotOfTag.desc).map (fun d => d.parameters.length) = some 2 := by decide +kernel
abbrev rm_X2_dotOfTag : Room := ({ frames := 0, cells := 0, slots := 0, locals := 0 } : Room)
noncomputable def f_X2_dotOfTag (this : Nat) (a1 : Int32) (a2 : Int32) (M : Mem) : Option (Int32 × Mem) :=
  (gRn 3 64 this M).bind fun v1 =>
  (gA 9 v1 ((36 + (a1 * 4)) + a2) M).bind fun v2 =>
  some (v2, M)
set_option maxHeartbeats 4000000 in
set_option maxRecDepth 100000 in
theorem mt_X2_dotOfTag (l : Launch) (E : KEnv) (this : Nat) (a1 : Int32) (a2 : Int32) (M M' : Mem) (v : Int32) (h : f_X2_dotOfTag this a1 a2 M = some (v, M')) : Met l yX2_dotOfTag (Cond.code yX2_dotOfTag cX2_dotOfTag 3 (some .int) :: lw_G) rm_X2_dotOfTag (cPc E [.ref this, .int a1, .int a2] M) (cQ E (some (.int v)) M') 0 0 (eA E) := by
  refine Met.ofW (cc := cX2_dotOfTag) (maxL := 3) (ret := (some .int)) (by decide) rfl ?_
  intro p e s m args below meth c s₁ B hml hv
  obtain ⟨rfl, hE, hM⟩ := hv
  have hx := B.exec
  have hb := B.bytes
  have hr := B.returns
  have hts0 := atoms_spec (ws := Cond.code yX2_dotOfTag cX2_dotOfTag 3 (some .int) :: lw_G) B.pre
  have hts : ∀ w ∈ lw_G, w.before _ s = true := fun w hw => hts0 w (List.mem_cons_of_mem _ hw)
  have hown : s.vm.findClass RX2 = some m.cls := findClass_of_methodNamed B.named
  have hlocks := B.notSynchronized
  have hC : CallFix p m c cX2_dotOfTag 3 s _ lw_G RX2 := ⟨hx, hb, hml, hown, hts⟩
  have hS : va_S (eA E) s.heap s.heap [] := va_S.rf
  have hl := lv_entry ([.ref this, .int a1, .int a2]) (n := 3) (Nat.le_of_ble_eq_true rfl)
  rw [lg_entry_eq]
  generalize (lg_sl ([.ref this, .int a1, .int a2]) ++ List.replicate (3 - (lg_sl ([.ref this, .int a1, .int a2])).length) Slot.unset).toArray = ls at hl ⊢
  have hl : lv_has ls 3 [(0, .ref this), (1, .int a1), (2, .int a2)] := hl
  unfold f_X2_dotOfTag at h
  show W p l e rm_X2_dotOfTag s m _ below meth c s.heap [] 0 0 _ _
  refine lv_aload_n hx hb dX2_dotOfTag_0 rfl (lv_at hl 0 rfl) ?_
  obtain ⟨v1, h1, h⟩ := ob h
  refine rgn_2_0 hx hb hts hown hE hM qw_82 h1 dX2_dotOfTag_1 ?_
  refine lv_bipush (v := 36) hx hb dX2_dotOfTag_4 (by decide) ?_
  refine lv_iload_n hx hb dX2_dotOfTag_6 rfl (lv_at hl 1 rfl) ?_
  refine lv_iconst (v := 4) hx hb dX2_dotOfTag_7 (by decide) ?_
  refine lv_imul hx hb dX2_dotOfTag_8 ?_
  refine lv_iadd hx hb dX2_dotOfTag_9 ?_
  refine lv_iload_n hx hb dX2_dotOfTag_10 rfl (lv_at hl 2 rfl) ?_
  refine lv_iadd hx hb dX2_dotOfTag_11 ?_
  obtain ⟨v2, h1, h⟩ := ob h
  refine r_iald hx hb hE hM h1 dX2_dotOfTag_12 ?_
  cases h
  exact eI hx hb hr hlocks hM hS dX2_dotOfTag_13 (Nat.le_of_ble_eq_true rfl) (Nat.le_of_ble_eq_true rfl)

theorem dd_X2_dotsFrom : yX2_dotsFrom.cls = RX2 ∧ yX2_dotsFrom.cls ≠ "java/lang/invoke/MethodHandle" ∧ yX2_dotsFrom.cls ≠ "java/lang/invoke/VarHandle" ∧ (parseMethodDescriptor yX2_dotsFrom.desc).map (fun d => d.parameters.length) = some 1 := by decide +kernel
abbrev rm_X2_dotsFrom : Room := ({ frames := 0, cells := 0, slots := 0, locals := 0 } : Room)
noncomputable def fj_X2_dotsFrom_29 (x2 : Int32) (M : Mem) : Option (Int32 × Mem) :=
  some (x2, M)
set_option maxHeartbeats 4000000 in
set_option maxRecDepth 100000 in
theorem tj_X2_dotsFrom_29 {p : Program} {l : Launch} {e : Env} {s : State} {m : MethodId} {args : Array Value} {below : List Frame} {meth : Method} {c : Code} {E : KEnv} {H : Heap} {locs : List Loc} {ls : Array Slot} {x2 : Int32} {M : Mem} {v : Int32} {M' : Mem} (hC : CallFix p m c cX2_dotsFrom 4 s args lw_G RX2) (hr : meth.sig.returnType = (some .int)) (hlocks : meth.locks = false) (hE : EnvOK E s) (h : fj_X2_dotsFrom_29 x2 M = some (v, M')) (hM : MOK E M H) (hS : va_S (eA E) s.heap H locs) (hl : lv_has ls 4 [(2, .int x2)]) : W p l e rm_X2_dotsFrom s m args below meth c H locs 0 0 (MQ below (cQ E (some (.int v)) M') args s 0 0 (eA E)) (F0 m 29 ls []) := by
  obtain ⟨hx, hb, hml, hown, hts⟩ := id hC
  unfold fj_X2_dotsFrom_29 at h
  refine lv_iload_n hx hb dX2_dotsFrom_29 rfl (lv_at hl 0 rfl) ?_
  cases h
  exact eI hx hb hr hlocks hM hS dX2_dotsFrom_30 (Nat.le_of_ble_eq_true rfl) (Nat.le_of_ble_eq_true rfl)
noncomputable def fj_X2_dotsFrom_23 (x0 : Nat) (x1 : Int32) (x2 : Int32) (x3 : Int32) (M : Mem) : Option ((Int32 × Int32 × Mem) ⊕ (Int32 × Mem)) :=
  some (.inl (x2, x3 + 1, M))
set_option maxHeartbeats 4000000 in
set_option maxRecDepth 100000 in
theorem tj_X2_dotsFrom_23 {p : Program} {l : Launch} {e : Env} {s : State} {m : MethodId} {args : Array Value} {below : List Frame} {meth : Method} {c : Code} {E : KEnv} {H : Heap} {locs : List Loc} {ls : Array Slot} {x0 : Nat} {x1 : Int32} {x2 : Int32} {x3 : Int32} {y1 : ((Int32 × Int32 × Mem) ⊕ (Int32 × Mem))} {M : Mem} {v : Int32} {M' : Mem} (hC : CallFix p m c cX2_dotsFrom 4 s args lw_G RX2) (hr : meth.sig.returnType = (some .int)) (hlocks : meth.locks = false) (hE : EnvOK E s) (hy1 : (∀ q : (Int32 × Int32 × Mem), y1 = .inl q → ∀ (H : Heap) (locs : List Loc) (ls : Array Slot), MOK E (q.2.2) H → va_S (eA E) s.heap H locs → lv_has ls 4 [(0, .ref x0), (1, .int x1), (2, .int q.1), (3, .int q.2.1)] → W p l e rm_X2_dotsFrom s m args below meth c H locs 0 0 (MQ below (cQ E (some (.int v)) M') args s 0 0 (eA E)) (F0 m 4 ls [])) ∧ ∀ z, y1 = .inr z → z = (v, M')) (h : fj_X2_dotsFrom_23 x0 x1 x2 x3 M = some y1) (hM : MOK E M H) (hS : va_S (eA E) s.heap H locs) (hl : lv_has ls 4 [(0, .ref x0), (1, .int x1), (2, .int x2), (3, .int x3)]) : W p l e rm_X2_dotsFrom s m args below meth c H locs 0 0 (MQ below (cQ E (some (.int v)) M') args s 0 0 (eA E)) (F0 m 23 ls []) := by
  obtain ⟨hx, hb, hml, hown, hts⟩ := id hC
  unfold fj_X2_dotsFrom_23 at h
  refine lv_iinc (v := x3 + 1) (lv' := [(3, .int (x3 + 1)), (0, .ref x0), (1, .int x1), (2, .int x2)]) hx hb dX2_dotsFrom_23 hl (k := 3) rfl rfl (by decide) rfl (fun ls hl => ?_)
  refine lv_goto (tgt := 4) hx hb dX2_dotsFrom_26 (by decide) ?_
  cases h
  exact hy1.1 _ rfl _ _ _ hM hS (lv_sub hl [1, 2, 3, 0] rfl)
noncomputable def fc_X2_dotsFrom_4 (x0 : Nat) (x1 : Int32) (x2 : Int32) (x3 : Int32) (M : Mem) : Option ((Int32 × Int32 × Mem) ⊕ (Int32 × Mem)) :=
  (if (4 : Int32) ≤ x3 then
  (fj_X2_dotsFrom_29 x2 M).map Sum.inr
  else
  (gRn 3 64 x0 M).bind fun v1 =>
  (gA 9 v1 (x1 + x3) M).bind fun v2 =>
  (if v2 = 0 then
  fj_X2_dotsFrom_23 x0 x1 x2 x3 M
  else
  fj_X2_dotsFrom_23 x0 x1 (x2 + 1) x3 M))
noncomputable def fj_X2_dotsFrom_4 (x0 : Nat) (x1 : Int32) (x2 : Int32) (x3 : Int32) (M : Mem) : Option (Int32 × Mem) := loopM (fun q : (Int32 × Int32 × Mem) => fc_X2_dotsFrom_4 x0 x1 q.1 q.2.1 q.2.2) FU (x2, x3, M)
set_option maxHeartbeats 4000000 in
set_option maxRecDepth 100000 in
theorem tj_X2_dotsFrom_4 {p : Program} {l : Launch} {e : Env} {s : State} {m : MethodId} {args : Array Value} {below : List Frame} {meth : Method} {c : Code} {E : KEnv} {H : Heap} {locs : List Loc} {ls : Array Slot} {x0 : Nat} {x1 : Int32} {x2 : Int32} {x3 : Int32} {M : Mem} {v : Int32} {M' : Mem} (hC : CallFix p m c cX2_dotsFrom 4 s args lw_G RX2) (hr : meth.sig.returnType = (some .int)) (hlocks : meth.locks = false) (hE : EnvOK E s) (h : fj_X2_dotsFrom_4 x0 x1 x2 x3 M = some (v, M')) (hM : MOK E M H) (hS : va_S (eA E) s.heap H locs) (hl : lv_has ls 4 [(0, .ref x0), (1, .int x1), (2, .int x2), (3, .int x3)]) : W p l e rm_X2_dotsFrom s m args below meth c H locs 0 0 (MQ below (cQ E (some (.int v)) M') args s 0 0 (eA E)) (F0 m 4 ls []) := by
  refine loopM_ind (body := fun q : (Int32 × Int32 × Mem) => fc_X2_dotsFrom_4 x0 x1 q.1 q.2.1 q.2.2) (x0 := (v, M')) (Wd := fun q : (Int32 × Int32 × Mem) => ∀ (H : Heap) (locs : List Loc) (ls : Array Slot), MOK E (q.2.2) H → va_S (eA E) s.heap H locs → lv_has ls 4 [(0, .ref x0), (1, .int x1), (2, .int q.1), (3, .int q.2.1)] → W p l e rm_X2_dotsFrom s m args below meth c H locs 0 0 (MQ below (cQ E (some (.int v)) M') args s 0 0 (eA E)) (F0 m 4 ls [])) ?_ FU (x2, x3, M) h H locs ls hM hS hl
  clear h hM hS hl H locs ls M x2 x3
  obtain ⟨hx, hb, hml, hown, hts⟩ := id hC
  intro q y1 h hy1 H locs ls hM hS hl
  obtain ⟨x2, x3, M⟩ := q
  have h : fc_X2_dotsFrom_4 x0 x1 x2 x3 M = some y1 := h
  have hM : MOK E M H := hM
  have hl : lv_has ls 4 [(0, .ref x0), (1, .int x1), (2, .int x2), (3, .int x3)] := hl
  unfold fc_X2_dotsFrom_4 at h
  show W p l e rm_X2_dotsFrom s m args below meth c H locs _ _ _ _
  refine lv_iload_n hx hb dX2_dotsFrom_4 rfl (lv_at hl 3 rfl) ?_
  refine lv_iconst (v := 4) hx hb dX2_dotsFrom_5 (by decide) ?_
  refine lv_icmp_ge (tgt := 29) hx hb dX2_dotsFrom_6 (by decide) (fun c1 => ?_) (fun c1 => ?_)
  · have h := ifp c1 h
    obtain ⟨z0, h9, rfl⟩ := om h
    have e0 := hy1.2 _ rfl
    subst e0
    have h := h9
    refine W.widen (k := 0) (n := 0) (Nat.le_of_ble_eq_true rfl) (Nat.le_of_ble_eq_true rfl) ?_
    exact tj_X2_dotsFrom_29  hC hr hlocks hE  h hM hS (lv_sub hl [2] rfl)
  · have h := ifn c1 h
    refine lv_aload_n hx hb dX2_dotsFrom_9 rfl (lv_at hl 0 rfl) ?_
    obtain ⟨v1, h1, h⟩ := ob h
    refine rgn_2_0 hx hb hts hown hE hM qw_82 h1 dX2_dotsFrom_10 ?_
    refine lv_iload_n hx hb dX2_dotsFrom_13 rfl (lv_at hl 1 rfl) ?_
    refine lv_iload_n hx hb dX2_dotsFrom_14 rfl (lv_at hl 3 rfl) ?_
    refine lv_iadd hx hb dX2_dotsFrom_15 ?_
    obtain ⟨v2, h1, h⟩ := ob h
    refine r_iald hx hb hE hM h1 dX2_dotsFrom_16 ?_
    refine lv_if_eq (tgt := 23) hx hb dX2_dotsFrom_17 (by decide) (fun c1 => ?_) (fun c1 => ?_)
    · have h := ifp c1 h
      refine W.widen (k := 0) (n := 0) (Nat.le_of_ble_eq_true rfl) (Nat.le_of_ble_eq_true rfl) ?_
      exact tj_X2_dotsFrom_23  hC hr hlocks hE hy1  h hM hS (lv_sub hl [0, 1, 2, 3] rfl)
    · have h := ifn c1 h
      refine lv_iinc (v := x2 + 1) (lv' := [(2, .int (x2 + 1)), (0, .ref x0), (1, .int x1), (3, .int x3)]) hx hb dX2_dotsFrom_20 hl (k := 2) rfl rfl (by decide) rfl (fun ls hl => ?_)
      refine W.widen (k := 0) (n := 0) (Nat.le_of_ble_eq_true rfl) (Nat.le_of_ble_eq_true rfl) ?_
      exact tj_X2_dotsFrom_23  hC hr hlocks hE hy1  h hM hS (lv_sub hl [1, 2, 0, 3] rfl)
noncomputable def f_X2_dotsFrom (this : Nat) (a1 : Int32) (M : Mem) : Option (Int32 × Mem) :=
  fj_X2_dotsFrom_4 this a1 0 0 M
set_option maxHeartbeats 4000000 in
set_option maxRecDepth 100000 in
theorem mt_X2_dotsFrom (l : Launch) (E : KEnv) (this : Nat) (a1 : Int32) (M M' : Mem) (v : Int32) (h : f_X2_dotsFrom this a1 M = some (v, M')) : Met l yX2_dotsFrom (Cond.code yX2_dotsFrom cX2_dotsFrom 4 (some .int) :: lw_G) rm_X2_dotsFrom (cPc E [.ref this, .int a1] M) (cQ E (some (.int v)) M') 0 0 (eA E) := by
  refine Met.ofW (cc := cX2_dotsFrom) (maxL := 4) (ret := (some .int)) (by decide) rfl ?_
  intro p e s m args below meth c s₁ B hml hv
  obtain ⟨rfl, hE, hM⟩ := hv
  have hx := B.exec
  have hb := B.bytes
  have hr := B.returns
  have hts0 := atoms_spec (ws := Cond.code yX2_dotsFrom cX2_dotsFrom 4 (some .int) :: lw_G) B.pre
  have hts : ∀ w ∈ lw_G, w.before _ s = true := fun w hw => hts0 w (List.mem_cons_of_mem _ hw)
  have hown : s.vm.findClass RX2 = some m.cls := findClass_of_methodNamed B.named
  have hlocks := B.notSynchronized
  have hC : CallFix p m c cX2_dotsFrom 4 s _ lw_G RX2 := ⟨hx, hb, hml, hown, hts⟩
  have hS : va_S (eA E) s.heap s.heap [] := va_S.rf
  have hl := lv_entry ([.ref this, .int a1]) (n := 4) (Nat.le_of_ble_eq_true rfl)
  rw [lg_entry_eq]
  generalize (lg_sl ([.ref this, .int a1]) ++ List.replicate (4 - (lg_sl ([.ref this, .int a1])).length) Slot.unset).toArray = ls at hl ⊢
  have hl : lv_has ls 4 [(0, .ref this), (1, .int a1)] := hl
  unfold f_X2_dotsFrom at h
  show W p l e rm_X2_dotsFrom s m _ below meth c s.heap [] 0 0 _ _
  refine lv_iconst (v := 0) hx hb dX2_dotsFrom_0 (by decide) ?_
  refine lv_istore_n (lv' := [(2, .int 0), (0, .ref this), (1, .int a1)]) hx hb dX2_dotsFrom_1 rfl hl (by decide) rfl (fun ls hl => ?_)
  refine lv_iconst (v := 0) hx hb dX2_dotsFrom_2 (by decide) ?_
  refine lv_istore_n (lv' := [(3, .int 0), (2, .int 0), (0, .ref this), (1, .int a1)]) hx hb dX2_dotsFrom_3 rfl hl (by decide) rfl (fun ls hl => ?_)
  refine W.widen (k := 0) (n := 0) (Nat.le_of_ble_eq_true rfl) (Nat.le_of_ble_eq_true rfl) ?_
  exact tj_X2_dotsFrom_4  hC hr hlocks hE  h hM hS (lv_sub hl [2, 3, 1, 0] rfl)

theorem dd_X2_dotsOfTag : yX2_dotsOfTag.cls = RX2 ∧ yX2_dotsOfTag.cls ≠ "java/lang/invoke/MethodHandle" ∧ yX2_dotsOfTag.cls ≠ "java/lang/invoke/VarHandle" ∧ (parseMethodDescriptor yX2_dotsOfTag.desc).map (fun d => d.parameters.length) = some 1 := by decide +kernel
abbrev rm_X2_dotsOfTag : Room := ({ frames := 1, cells := 0, slots := 0, locals := 23 } : Room)
noncomputable def f_X2_dotsOfTag (this : Nat) (a1 : Int32) (M : Mem) : Option (Int32 × Mem) :=
  bn (cK 3 this M (f_X2_dotsFrom this (36 + (a1 * 4)) M)) fun v1 M2 =>
  some (v1, M2)
set_option maxHeartbeats 4000000 in
set_option maxRecDepth 100000 in
theorem mt_X2_dotsOfTag (l : Launch) (E : KEnv) (this : Nat) (a1 : Int32) (M M' : Mem) (v : Int32) (h : f_X2_dotsOfTag this a1 M = some (v, M')) : Met l yX2_dotsOfTag (Cond.code yX2_dotsOfTag cX2_dotsOfTag 2 (some .int) :: lw_G) rm_X2_dotsOfTag (cPc E [.ref this, .int a1] M) (cQ E (some (.int v)) M') 0 0 (eA E) := by
  refine Met.ofW (cc := cX2_dotsOfTag) (maxL := 2) (ret := (some .int)) (by decide) rfl ?_
  intro p e s m args below meth c s₁ B hml hv
  obtain ⟨rfl, hE, hM⟩ := hv
  have hx := B.exec
  have hb := B.bytes
  have hr := B.returns
  have hts0 := atoms_spec (ws := Cond.code yX2_dotsOfTag cX2_dotsOfTag 2 (some .int) :: lw_G) B.pre
  have hts : ∀ w ∈ lw_G, w.before _ s = true := fun w hw => hts0 w (List.mem_cons_of_mem _ hw)
  have hown : s.vm.findClass RX2 = some m.cls := findClass_of_methodNamed B.named
  have hlocks := B.notSynchronized
  have hC : CallFix p m c cX2_dotsOfTag 2 s _ lw_G RX2 := ⟨hx, hb, hml, hown, hts⟩
  have hS : va_S (eA E) s.heap s.heap [] := va_S.rf
  have hl := lv_entry ([.ref this, .int a1]) (n := 2) (Nat.le_of_ble_eq_true rfl)
  rw [lg_entry_eq]
  generalize (lg_sl ([.ref this, .int a1]) ++ List.replicate (2 - (lg_sl ([.ref this, .int a1])).length) Slot.unset).toArray = ls at hl ⊢
  have hl : lv_has ls 2 [(0, .ref this), (1, .int a1)] := hl
  unfold f_X2_dotsOfTag at h
  show W p l e rm_X2_dotsOfTag s m _ below meth c s.heap [] 0 0 _ _
  refine lv_aload_n hx hb dX2_dotsOfTag_0 rfl (lv_at hl 0 rfl) ?_
  refine lv_bipush (v := 36) hx hb dX2_dotsOfTag_1 (by decide) ?_
  refine lv_iload_n hx hb dX2_dotsOfTag_3 rfl (lv_at hl 1 rfl) ?_
  refine lv_iconst (v := 4) hx hb dX2_dotsOfTag_4 (by decide) ?_
  refine lv_imul hx hb dX2_dotsOfTag_5 ?_
  refine lv_iadd hx hb dX2_dotsOfTag_6 ?_
  obtain ⟨v1, M2, h1, h⟩ := ob2 h
  obtain ⟨hk1, h1⟩ := ifg h1
  refine kV1 (ci := 2) (As := [.int (36 + (a1 * 4))]) (rest := []) hC hE hS hM (mt_X2_dotsFrom _ E this (36 + (a1 * 4)) _ _ _ h1) (gwV qw_344 qw_346 qw_14 qw_41 qw_347) ⟨rfl, rfl, (Nat.le_of_ble_eq_true rfl), (Nat.le_of_ble_eq_true rfl)⟩ dd_X2_dotsFrom rfl hk1 rfl rfl hl.1 (Nat.le_of_ble_eq_true rfl) dX2_dotsOfTag_7 ⟨(Nat.le_of_ble_eq_true rfl), (Nat.le_of_ble_eq_true rfl)⟩ (fun H locs hM hS => ?_)
  cases h
  exact eI hx hb hr hlocks hM hS dX2_dotsOfTag_10 (Nat.le_of_ble_eq_true rfl) (Nat.le_of_ble_eq_true rfl)

theorem dd_X2_entries : yX2_entries.cls = RX2 ∧ yX2_entries.cls ≠ "java/lang/invoke/MethodHandle" ∧ yX2_entries.cls ≠ "java/lang/invoke/VarHandle" ∧ (parseMethodDescriptor yX2_entries.desc).map (fun d => d.parameters.length) = some 1 := by decide +kernel
abbrev rm_X2_entries : Room := ({ frames := 1, cells := 0, slots := 0, locals := 23 } : Room)
noncomputable def f_X2_entries (this : Nat) (a1 : Int32) (M : Mem) : Option (Int32 × Mem) :=
  bn (cK 3 this M (f_X2_dotsFrom this (100 + (a1 * 4)) M)) fun v1 M2 =>
  some (v1, M2)
set_option maxHeartbeats 4000000 in
set_option maxRecDepth 100000 in
theorem mt_X2_entries (l : Launch) (E : KEnv) (this : Nat) (a1 : Int32) (M M' : Mem) (v : Int32) (h : f_X2_entries this a1 M = some (v, M')) : Met l yX2_entries (Cond.code yX2_entries cX2_entries 2 (some .int) :: lw_G) rm_X2_entries (cPc E [.ref this, .int a1] M) (cQ E (some (.int v)) M') 0 0 (eA E) := by
  refine Met.ofW (cc := cX2_entries) (maxL := 2) (ret := (some .int)) (by decide) rfl ?_
  intro p e s m args below meth c s₁ B hml hv
  obtain ⟨rfl, hE, hM⟩ := hv
  have hx := B.exec
  have hb := B.bytes
  have hr := B.returns
  have hts0 := atoms_spec (ws := Cond.code yX2_entries cX2_entries 2 (some .int) :: lw_G) B.pre
  have hts : ∀ w ∈ lw_G, w.before _ s = true := fun w hw => hts0 w (List.mem_cons_of_mem _ hw)
  have hown : s.vm.findClass RX2 = some m.cls := findClass_of_methodNamed B.named
  have hlocks := B.notSynchronized
  have hC : CallFix p m c cX2_entries 2 s _ lw_G RX2 := ⟨hx, hb, hml, hown, hts⟩
  have hS : va_S (eA E) s.heap s.heap [] := va_S.rf
  have hl := lv_entry ([.ref this, .int a1]) (n := 2) (Nat.le_of_ble_eq_true rfl)
  rw [lg_entry_eq]
  generalize (lg_sl ([.ref this, .int a1]) ++ List.replicate (2 - (lg_sl ([.ref this, .int a1])).length) Slot.unset).toArray = ls at hl ⊢
  have hl : lv_has ls 2 [(0, .ref this), (1, .int a1)] := hl
  unfold f_X2_entries at h
  show W p l e rm_X2_entries s m _ below meth c s.heap [] 0 0 _ _
  refine lv_aload_n hx hb dX2_entries_0 rfl (lv_at hl 0 rfl) ?_
  refine lv_bipush (v := 100) hx hb dX2_entries_1 (by decide) ?_
  refine lv_iload_n hx hb dX2_entries_3 rfl (lv_at hl 1 rfl) ?_
  refine lv_iconst (v := 4) hx hb dX2_entries_4 (by decide) ?_
  refine lv_imul hx hb dX2_entries_5 ?_
  refine lv_iadd hx hb dX2_entries_6 ?_
  obtain ⟨v1, M2, h1, h⟩ := ob2 h
  obtain ⟨hk1, h1⟩ := ifg h1
  refine kV1 (ci := 2) (As := [.int (100 + (a1 * 4))]) (rest := []) hC hE hS hM (mt_X2_dotsFrom _ E this (100 + (a1 * 4)) _ _ _ h1) (gwV qw_344 qw_346 qw_14 qw_41 qw_347) ⟨rfl, rfl, (Nat.le_of_ble_eq_true rfl), (Nat.le_of_ble_eq_true rfl)⟩ dd_X2_dotsFrom rfl hk1 rfl rfl hl.1 (Nat.le_of_ble_eq_true rfl) dX2_entries_7 ⟨(Nat.le_of_ble_eq_true rfl), (Nat.le_of_ble_eq_true rfl)⟩ (fun H locs hM hS => ?_)
  cases h
  exact eI hx hb hr hlocks hM hS dX2_entries_10 (Nat.le_of_ble_eq_true rfl) (Nat.le_of_ble_eq_true rfl)

theorem dd_X2_valueBy : yX2_valueBy.cls = RX2 ∧ yX2_valueBy.cls ≠ "java/lang/invoke/MethodHandle" ∧ yX2_valueBy.cls ≠ "java/lang/invoke/VarHandle" ∧ (parseMethodDescriptor yX2_valueBy.desc).map (fun d => d.parameters.length) = some 2 := by decide +kernel
abbrev rm_X2_valueBy : Room := ({ frames := 0, cells := 0, slots := 0, locals := 0 } : Room)
noncomputable def fj_X2_valueBy_31 (s0 : Int32) (M : Mem) : Option (Int32 × Mem) :=
  some (s0, M)
set_option maxHeartbeats 4000000 in
set_option maxRecDepth 100000 in
theorem tj_X2_valueBy_31 {p : Program} {l : Launch} {e : Env} {s : State} {m : MethodId} {args : Array Value} {below : List Frame} {meth : Method} {c : Code} {E : KEnv} {H : Heap} {locs : List Loc} {ls : Array Slot} {s0 : Int32} {M : Mem} {v : Int32} {M' : Mem} (hC : CallFix p m c cX2_valueBy 4 s args lw_G RX2) (hr : meth.sig.returnType = (some .int)) (hlocks : meth.locks = false) (hE : EnvOK E s) (h : fj_X2_valueBy_31 s0 M = some (v, M')) (hM : MOK E M H) (hS : va_S (eA E) s.heap H locs) (hl : lv_has ls 4 []) : W p l e rm_X2_valueBy s m args below meth c H locs 0 0 (MQ below (cQ E (some (.int v)) M') args s 0 0 (eA E)) (F0 m 31 ls [.int s0]) := by
  obtain ⟨hx, hb, hml, hown, hts⟩ := id hC
  unfold fj_X2_valueBy_31 at h
  cases h
  exact eI hx hb hr hlocks hM hS dX2_valueBy_31 (Nat.le_of_ble_eq_true rfl) (Nat.le_of_ble_eq_true rfl)
noncomputable def f_X2_valueBy (this : Nat) (a1 : Int32) (a2 : Int32) (M : Mem) : Option (Int32 × Mem) :=
  (gRn 3 64 this M).bind fun v1 =>
  (gA 9 v1 (100 + ((a1 * 4) + a2)) M).bind fun v2 =>
  (if v2 = 0 then
  fj_X2_valueBy_31 (-1) M
  else
  (gRn 3 64 this M).bind fun v3 =>
  (gA 9 v3 (116 + ((a1 * 4) + a2)) M).bind fun v4 =>
  fj_X2_valueBy_31 v4 M)
set_option maxHeartbeats 4000000 in
set_option maxRecDepth 100000 in
theorem mt_X2_valueBy (l : Launch) (E : KEnv) (this : Nat) (a1 : Int32) (a2 : Int32) (M M' : Mem) (v : Int32) (h : f_X2_valueBy this a1 a2 M = some (v, M')) : Met l yX2_valueBy (Cond.code yX2_valueBy cX2_valueBy 4 (some .int) :: lw_G) rm_X2_valueBy (cPc E [.ref this, .int a1, .int a2] M) (cQ E (some (.int v)) M') 0 0 (eA E) := by
  refine Met.ofW (cc := cX2_valueBy) (maxL := 4) (ret := (some .int)) (by decide) rfl ?_
  intro p e s m args below meth c s₁ B hml hv
  obtain ⟨rfl, hE, hM⟩ := hv
  have hx := B.exec
  have hb := B.bytes
  have hr := B.returns
  have hts0 := atoms_spec (ws := Cond.code yX2_valueBy cX2_valueBy 4 (some .int) :: lw_G) B.pre
  have hts : ∀ w ∈ lw_G, w.before _ s = true := fun w hw => hts0 w (List.mem_cons_of_mem _ hw)
  have hown : s.vm.findClass RX2 = some m.cls := findClass_of_methodNamed B.named
  have hlocks := B.notSynchronized
  have hC : CallFix p m c cX2_valueBy 4 s _ lw_G RX2 := ⟨hx, hb, hml, hown, hts⟩
  have hS : va_S (eA E) s.heap s.heap [] := va_S.rf
  have hl := lv_entry ([.ref this, .int a1, .int a2]) (n := 4) (Nat.le_of_ble_eq_true rfl)
  rw [lg_entry_eq]
  generalize (lg_sl ([.ref this, .int a1, .int a2]) ++ List.replicate (4 - (lg_sl ([.ref this, .int a1, .int a2])).length) Slot.unset).toArray = ls at hl ⊢
  have hl : lv_has ls 4 [(0, .ref this), (1, .int a1), (2, .int a2)] := hl
  unfold f_X2_valueBy at h
  show W p l e rm_X2_valueBy s m _ below meth c s.heap [] 0 0 _ _
  refine lv_iload_n hx hb dX2_valueBy_0 rfl (lv_at hl 1 rfl) ?_
  refine lv_iconst (v := 4) hx hb dX2_valueBy_1 (by decide) ?_
  refine lv_imul hx hb dX2_valueBy_2 ?_
  refine lv_iload_n hx hb dX2_valueBy_3 rfl (lv_at hl 2 rfl) ?_
  refine lv_iadd hx hb dX2_valueBy_4 ?_
  refine lv_istore_n (lv' := [(3, .int ((a1 * 4) + a2)), (0, .ref this), (1, .int a1), (2, .int a2)]) hx hb dX2_valueBy_5 rfl hl (by decide) rfl (fun ls hl => ?_)
  refine lv_aload_n hx hb dX2_valueBy_6 rfl (lv_at hl 1 rfl) ?_
  obtain ⟨v1, h1, h⟩ := ob h
  refine rgn_2_0 hx hb hts hown hE hM qw_82 h1 dX2_valueBy_7 ?_
  refine lv_bipush (v := 100) hx hb dX2_valueBy_10 (by decide) ?_
  refine lv_iload_n hx hb dX2_valueBy_12 rfl (lv_at hl 0 rfl) ?_
  refine lv_iadd hx hb dX2_valueBy_13 ?_
  obtain ⟨v2, h1, h⟩ := ob h
  refine r_iald hx hb hE hM h1 dX2_valueBy_14 ?_
  refine lv_if_ne (tgt := 22) hx hb dX2_valueBy_15 (by decide) (fun c1 => ?_) (fun c1 => ?_)
  · have h := ifn c1 h
    refine lv_aload_n hx hb dX2_valueBy_22 rfl (lv_at hl 1 rfl) ?_
    obtain ⟨v3, h1, h⟩ := ob h
    refine rgn_2_0 hx hb hts hown hE hM qw_82 h1 dX2_valueBy_23 ?_
    refine lv_bipush (v := 116) hx hb dX2_valueBy_26 (by decide) ?_
    refine lv_iload_n hx hb dX2_valueBy_28 rfl (lv_at hl 0 rfl) ?_
    refine lv_iadd hx hb dX2_valueBy_29 ?_
    obtain ⟨v4, h1, h⟩ := ob h
    refine r_iald hx hb hE hM h1 dX2_valueBy_30 ?_
    refine W.widen (k := 0) (n := 0) (Nat.le_of_ble_eq_true rfl) (Nat.le_of_ble_eq_true rfl) ?_
    exact tj_X2_valueBy_31  hC hr hlocks hE  h hM hS (lv_sub hl [] rfl)
  · have h := ifp c1 h
    refine lv_iconst (v := (-1)) hx hb dX2_valueBy_18 (by decide) ?_
    refine lv_goto (tgt := 31) hx hb dX2_valueBy_19 (by decide) ?_
    refine W.widen (k := 0) (n := 0) (Nat.le_of_ble_eq_true rfl) (Nat.le_of_ble_eq_true rfl) ?_
    exact tj_X2_valueBy_31  hC hr hlocks hE  h hM hS (lv_sub hl [] rfl)

theorem dd_X2_presentTags : yX2_presentTags.cls = RX2 ∧ yX2_presentTags.cls ≠ "java/lang/invoke/MethodHandle" ∧ yX2_presentTags.cls ≠ "java/lang/invoke/VarHandle" ∧ (parseMethodDescriptor yX2_presentTags.desc).map (fun d => d.parameters.length) = some 0 := by decide +kernel
abbrev rm_X2_presentTags : Room := ({ frames := 2, cells := 0, slots := 0, locals := 44 } : Room)
noncomputable def fj_X2_presentTags_27 (x1 : Int32) (M : Mem) : Option (Int32 × Mem) :=
  some (x1, M)
set_option maxHeartbeats 4000000 in
set_option maxRecDepth 100000 in
theorem tj_X2_presentTags_27 {p : Program} {l : Launch} {e : Env} {s : State} {m : MethodId} {args : Array Value} {below : List Frame} {meth : Method} {c : Code} {E : KEnv} {H : Heap} {locs : List Loc} {ls : Array Slot} {x1 : Int32} {M : Mem} {v : Int32} {M' : Mem} (hC : CallFix p m c cX2_presentTags 3 s args lw_G RX2) (hr : meth.sig.returnType = (some .int)) (hlocks : meth.locks = false) (hE : EnvOK E s) (h : fj_X2_presentTags_27 x1 M = some (v, M')) (hM : MOK E M H) (hS : va_S (eA E) s.heap H locs) (hl : lv_has ls 3 [(1, .int x1)]) : W p l e rm_X2_presentTags s m args below meth c H locs 0 0 (MQ below (cQ E (some (.int v)) M') args s 0 0 (eA E)) (F0 m 27 ls []) := by
  obtain ⟨hx, hb, hml, hown, hts⟩ := id hC
  unfold fj_X2_presentTags_27 at h
  refine lv_iload_n hx hb dX2_presentTags_27 rfl (lv_at hl 0 rfl) ?_
  cases h
  exact eI hx hb hr hlocks hM hS dX2_presentTags_28 (Nat.le_of_ble_eq_true rfl) (Nat.le_of_ble_eq_true rfl)
noncomputable def fj_X2_presentTags_21 (x0 : Nat) (x1 : Int32) (x2 : Int32) (M : Mem) : Option ((Int32 × Int32 × Mem) ⊕ (Int32 × Mem)) :=
  some (.inl (x1, x2 + 1, M))
set_option maxHeartbeats 4000000 in
set_option maxRecDepth 100000 in
theorem tj_X2_presentTags_21 {p : Program} {l : Launch} {e : Env} {s : State} {m : MethodId} {args : Array Value} {below : List Frame} {meth : Method} {c : Code} {E : KEnv} {H : Heap} {locs : List Loc} {ls : Array Slot} {x0 : Nat} {x1 : Int32} {x2 : Int32} {y1 : ((Int32 × Int32 × Mem) ⊕ (Int32 × Mem))} {M : Mem} {v : Int32} {M' : Mem} (hC : CallFix p m c cX2_presentTags 3 s args lw_G RX2) (hr : meth.sig.returnType = (some .int)) (hlocks : meth.locks = false) (hE : EnvOK E s) (hy1 : (∀ q : (Int32 × Int32 × Mem), y1 = .inl q → ∀ (H : Heap) (locs : List Loc) (ls : Array Slot), MOK E (q.2.2) H → va_S (eA E) s.heap H locs → lv_has ls 3 [(0, .ref x0), (1, .int q.1), (2, .int q.2.1)] → W p l e rm_X2_presentTags s m args below meth c H locs 0 0 (MQ below (cQ E (some (.int v)) M') args s 0 0 (eA E)) (F0 m 4 ls [])) ∧ ∀ z, y1 = .inr z → z = (v, M')) (h : fj_X2_presentTags_21 x0 x1 x2 M = some y1) (hM : MOK E M H) (hS : va_S (eA E) s.heap H locs) (hl : lv_has ls 3 [(0, .ref x0), (1, .int x1), (2, .int x2)]) : W p l e rm_X2_presentTags s m args below meth c H locs 0 0 (MQ below (cQ E (some (.int v)) M') args s 0 0 (eA E)) (F0 m 21 ls []) := by
  obtain ⟨hx, hb, hml, hown, hts⟩ := id hC
  unfold fj_X2_presentTags_21 at h
  refine lv_iinc (v := x2 + 1) (lv' := [(2, .int (x2 + 1)), (0, .ref x0), (1, .int x1)]) hx hb dX2_presentTags_21 hl (k := 2) rfl rfl (by decide) rfl (fun ls hl => ?_)
  refine lv_goto (tgt := 4) hx hb dX2_presentTags_24 (by decide) ?_
  cases h
  exact hy1.1 _ rfl _ _ _ hM hS (lv_sub hl [1, 2, 0] rfl)
noncomputable def fc_X2_presentTags_4 (x0 : Nat) (x1 : Int32) (x2 : Int32) (M : Mem) : Option ((Int32 × Int32 × Mem) ⊕ (Int32 × Mem)) :=
  (if (16 : Int32) ≤ x2 then
  (fj_X2_presentTags_27 x1 M).map Sum.inr
  else
  bn (cK 3 x0 M (f_X2_dotsOfTag x0 x2 M)) fun v1 M2 =>
  (if v1 ≤ 0 then
  fj_X2_presentTags_21 x0 x1 x2 M2
  else
  fj_X2_presentTags_21 x0 (x1 + 1) x2 M2))
noncomputable def fj_X2_presentTags_4 (x0 : Nat) (x1 : Int32) (x2 : Int32) (M : Mem) : Option (Int32 × Mem) := loopM (fun q : (Int32 × Int32 × Mem) => fc_X2_presentTags_4 x0 q.1 q.2.1 q.2.2) FU (x1, x2, M)
set_option maxHeartbeats 4000000 in
set_option maxRecDepth 100000 in
theorem tj_X2_presentTags_4 {p : Program} {l : Launch} {e : Env} {s : State} {m : MethodId} {args : Array Value} {below : List Frame} {meth : Method} {c : Code} {E : KEnv} {H : Heap} {locs : List Loc} {ls : Array Slot} {x0 : Nat} {x1 : Int32} {x2 : Int32} {M : Mem} {v : Int32} {M' : Mem} (hC : CallFix p m c cX2_presentTags 3 s args lw_G RX2) (hr : meth.sig.returnType = (some .int)) (hlocks : meth.locks = false) (hE : EnvOK E s) (h : fj_X2_presentTags_4 x0 x1 x2 M = some (v, M')) (hM : MOK E M H) (hS : va_S (eA E) s.heap H locs) (hl : lv_has ls 3 [(0, .ref x0), (1, .int x1), (2, .int x2)]) : W p l e rm_X2_presentTags s m args below meth c H locs 0 0 (MQ below (cQ E (some (.int v)) M') args s 0 0 (eA E)) (F0 m 4 ls []) := by
  refine loopM_ind (body := fun q : (Int32 × Int32 × Mem) => fc_X2_presentTags_4 x0 q.1 q.2.1 q.2.2) (x0 := (v, M')) (Wd := fun q : (Int32 × Int32 × Mem) => ∀ (H : Heap) (locs : List Loc) (ls : Array Slot), MOK E (q.2.2) H → va_S (eA E) s.heap H locs → lv_has ls 3 [(0, .ref x0), (1, .int q.1), (2, .int q.2.1)] → W p l e rm_X2_presentTags s m args below meth c H locs 0 0 (MQ below (cQ E (some (.int v)) M') args s 0 0 (eA E)) (F0 m 4 ls [])) ?_ FU (x1, x2, M) h H locs ls hM hS hl
  clear h hM hS hl H locs ls M x1 x2
  obtain ⟨hx, hb, hml, hown, hts⟩ := id hC
  intro q y1 h hy1 H locs ls hM hS hl
  obtain ⟨x1, x2, M⟩ := q
  have h : fc_X2_presentTags_4 x0 x1 x2 M = some y1 := h
  have hM : MOK E M H := hM
  have hl : lv_has ls 3 [(0, .ref x0), (1, .int x1), (2, .int x2)] := hl
  unfold fc_X2_presentTags_4 at h
  show W p l e rm_X2_presentTags s m args below meth c H locs _ _ _ _
  refine lv_iload_n hx hb dX2_presentTags_4 rfl (lv_at hl 2 rfl) ?_
  refine lv_bipush (v := 16) hx hb dX2_presentTags_5 (by decide) ?_
  refine lv_icmp_ge (tgt := 27) hx hb dX2_presentTags_7 (by decide) (fun c1 => ?_) (fun c1 => ?_)
  · have h := ifp c1 h
    obtain ⟨z0, h9, rfl⟩ := om h
    have e0 := hy1.2 _ rfl
    subst e0
    have h := h9
    refine W.widen (k := 0) (n := 0) (Nat.le_of_ble_eq_true rfl) (Nat.le_of_ble_eq_true rfl) ?_
    exact tj_X2_presentTags_27  hC hr hlocks hE  h hM hS (lv_sub hl [1] rfl)
  · have h := ifn c1 h
    refine lv_aload_n hx hb dX2_presentTags_10 rfl (lv_at hl 0 rfl) ?_
    refine lv_iload_n hx hb dX2_presentTags_11 rfl (lv_at hl 2 rfl) ?_
    obtain ⟨v1, M2, h1, h⟩ := ob2 h
    obtain ⟨hk1, h1⟩ := ifg h1
    refine kV1 (ci := 2) (As := [.int x2]) (rest := []) hC hE hS hM (mt_X2_dotsOfTag _ E x0 x2 _ _ _ h1) (gwV qw_1079 qw_341 qw_342 qw_41 qw_343) ⟨rfl, rfl, (Nat.le_of_ble_eq_true rfl), (Nat.le_of_ble_eq_true rfl)⟩ dd_X2_dotsOfTag rfl hk1 rfl rfl hl.1 (Nat.le_of_ble_eq_true rfl) dX2_presentTags_12 ⟨(Nat.le_of_ble_eq_true rfl), (Nat.le_of_ble_eq_true rfl)⟩ (fun H locs hM hS => ?_)
    refine lv_if_le (tgt := 21) hx hb dX2_presentTags_15 (by decide) (fun c1 => ?_) (fun c1 => ?_)
    · have h := ifp c1 h
      refine W.widen (k := 0) (n := 0) (Nat.le_of_ble_eq_true rfl) (Nat.le_of_ble_eq_true rfl) ?_
      exact tj_X2_presentTags_21  hC hr hlocks hE hy1  h hM hS (lv_sub hl [0, 1, 2] rfl)
    · have h := ifn c1 h
      refine lv_iinc (v := x1 + 1) (lv' := [(1, .int (x1 + 1)), (0, .ref x0), (2, .int x2)]) hx hb dX2_presentTags_18 hl (k := 1) rfl rfl (by decide) rfl (fun ls hl => ?_)
      refine W.widen (k := 0) (n := 0) (Nat.le_of_ble_eq_true rfl) (Nat.le_of_ble_eq_true rfl) ?_
      exact tj_X2_presentTags_21  hC hr hlocks hE hy1  h hM hS (lv_sub hl [1, 0, 2] rfl)
noncomputable def f_X2_presentTags (this : Nat) (M : Mem) : Option (Int32 × Mem) :=
  fj_X2_presentTags_4 this 0 0 M
set_option maxHeartbeats 4000000 in
set_option maxRecDepth 100000 in
theorem mt_X2_presentTags (l : Launch) (E : KEnv) (this : Nat) (M M' : Mem) (v : Int32) (h : f_X2_presentTags this M = some (v, M')) : Met l yX2_presentTags (Cond.code yX2_presentTags cX2_presentTags 3 (some .int) :: lw_G) rm_X2_presentTags (cPc E [.ref this] M) (cQ E (some (.int v)) M') 0 0 (eA E) := by
  refine Met.ofW (cc := cX2_presentTags) (maxL := 3) (ret := (some .int)) (by decide) rfl ?_
  intro p e s m args below meth c s₁ B hml hv
  obtain ⟨rfl, hE, hM⟩ := hv
  have hx := B.exec
  have hb := B.bytes
  have hr := B.returns
  have hts0 := atoms_spec (ws := Cond.code yX2_presentTags cX2_presentTags 3 (some .int) :: lw_G) B.pre
  have hts : ∀ w ∈ lw_G, w.before _ s = true := fun w hw => hts0 w (List.mem_cons_of_mem _ hw)
  have hown : s.vm.findClass RX2 = some m.cls := findClass_of_methodNamed B.named
  have hlocks := B.notSynchronized
  have hC : CallFix p m c cX2_presentTags 3 s _ lw_G RX2 := ⟨hx, hb, hml, hown, hts⟩
  have hS : va_S (eA E) s.heap s.heap [] := va_S.rf
  have hl := lv_entry ([.ref this]) (n := 3) (Nat.le_of_ble_eq_true rfl)
  rw [lg_entry_eq]
  generalize (lg_sl ([.ref this]) ++ List.replicate (3 - (lg_sl ([.ref this])).length) Slot.unset).toArray = ls at hl ⊢
  have hl : lv_has ls 3 [(0, .ref this)] := hl
  unfold f_X2_presentTags at h
  show W p l e rm_X2_presentTags s m _ below meth c s.heap [] 0 0 _ _
  refine lv_iconst (v := 0) hx hb dX2_presentTags_0 (by decide) ?_
  refine lv_istore_n (lv' := [(1, .int 0), (0, .ref this)]) hx hb dX2_presentTags_1 rfl hl (by decide) rfl (fun ls hl => ?_)
  refine lv_iconst (v := 0) hx hb dX2_presentTags_2 (by decide) ?_
  refine lv_istore_n (lv' := [(2, .int 0), (1, .int 0), (0, .ref this)]) hx hb dX2_presentTags_3 rfl hl (by decide) rfl (fun ls hl => ?_)
  refine W.widen (k := 0) (n := 0) (Nat.le_of_ble_eq_true rfl) (Nat.le_of_ble_eq_true rfl) ?_
  exact tj_X2_presentTags_4  hC hr hlocks hE  h hM hS (lv_sub hl [2, 1, 0] rfl)

theorem dd_X2_presentTag : yX2_presentTag.cls = RX2 ∧ yX2_presentTag.cls ≠ "java/lang/invoke/MethodHandle" ∧ yX2_presentTag.cls ≠ "java/lang/invoke/VarHandle" ∧ (parseMethodDescriptor yX2_presentTag.desc).map (fun d => d.parameters.length) = some 1 := by decide +kernel
abbrev rm_X2_presentTag : Room := ({ frames := 2, cells := 0, slots := 0, locals := 44 } : Room)
noncomputable def fj_X2_presentTag_34  (M : Mem) : Option (Int32 × Mem) :=
  some ((-1), M)
set_option maxHeartbeats 4000000 in
set_option maxRecDepth 100000 in
theorem tj_X2_presentTag_34 {p : Program} {l : Launch} {e : Env} {s : State} {m : MethodId} {args : Array Value} {below : List Frame} {meth : Method} {c : Code} {E : KEnv} {H : Heap} {locs : List Loc} {ls : Array Slot}  {M : Mem} {v : Int32} {M' : Mem} (hC : CallFix p m c cX2_presentTag 4 s args lw_G RX2) (hr : meth.sig.returnType = (some .int)) (hlocks : meth.locks = false) (hE : EnvOK E s) (h : fj_X2_presentTag_34  M = some (v, M')) (hM : MOK E M H) (hS : va_S (eA E) s.heap H locs) (hl : lv_has ls 4 []) : W p l e rm_X2_presentTag s m args below meth c H locs 0 0 (MQ below (cQ E (some (.int v)) M') args s 0 0 (eA E)) (F0 m 34 ls []) := by
  obtain ⟨hx, hb, hml, hown, hts⟩ := id hC
  unfold fj_X2_presentTag_34 at h
  refine lv_iconst (v := (-1)) hx hb dX2_presentTag_34 (by decide) ?_
  cases h
  exact eI hx hb hr hlocks hM hS dX2_presentTag_35 (Nat.le_of_ble_eq_true rfl) (Nat.le_of_ble_eq_true rfl)
noncomputable def fj_X2_presentTag_28 (x0 : Nat) (x1 : Int32) (x2 : Int32) (x3 : Int32) (M : Mem) : Option ((Int32 × Int32 × Mem) ⊕ (Int32 × Mem)) :=
  some (.inl (x2, x3 + 1, M))
set_option maxHeartbeats 4000000 in
set_option maxRecDepth 100000 in
theorem tj_X2_presentTag_28 {p : Program} {l : Launch} {e : Env} {s : State} {m : MethodId} {args : Array Value} {below : List Frame} {meth : Method} {c : Code} {E : KEnv} {H : Heap} {locs : List Loc} {ls : Array Slot} {x0 : Nat} {x1 : Int32} {x2 : Int32} {x3 : Int32} {y1 : ((Int32 × Int32 × Mem) ⊕ (Int32 × Mem))} {M : Mem} {v : Int32} {M' : Mem} (hC : CallFix p m c cX2_presentTag 4 s args lw_G RX2) (hr : meth.sig.returnType = (some .int)) (hlocks : meth.locks = false) (hE : EnvOK E s) (hy1 : (∀ q : (Int32 × Int32 × Mem), y1 = .inl q → ∀ (H : Heap) (locs : List Loc) (ls : Array Slot), MOK E (q.2.2) H → va_S (eA E) s.heap H locs → lv_has ls 4 [(0, .ref x0), (1, .int x1), (2, .int q.1), (3, .int q.2.1)] → W p l e rm_X2_presentTag s m args below meth c H locs 0 0 (MQ below (cQ E (some (.int v)) M') args s 0 0 (eA E)) (F0 m 4 ls [])) ∧ ∀ z, y1 = .inr z → z = (v, M')) (h : fj_X2_presentTag_28 x0 x1 x2 x3 M = some y1) (hM : MOK E M H) (hS : va_S (eA E) s.heap H locs) (hl : lv_has ls 4 [(0, .ref x0), (1, .int x1), (2, .int x2), (3, .int x3)]) : W p l e rm_X2_presentTag s m args below meth c H locs 0 0 (MQ below (cQ E (some (.int v)) M') args s 0 0 (eA E)) (F0 m 28 ls []) := by
  obtain ⟨hx, hb, hml, hown, hts⟩ := id hC
  unfold fj_X2_presentTag_28 at h
  refine lv_iinc (v := x3 + 1) (lv' := [(3, .int (x3 + 1)), (0, .ref x0), (1, .int x1), (2, .int x2)]) hx hb dX2_presentTag_28 hl (k := 3) rfl rfl (by decide) rfl (fun ls hl => ?_)
  refine lv_goto (tgt := 4) hx hb dX2_presentTag_31 (by decide) ?_
  cases h
  exact hy1.1 _ rfl _ _ _ hM hS (lv_sub hl [1, 2, 3, 0] rfl)
noncomputable def fj_X2_presentTag_23 (x3 : Int32) (M : Mem) : Option (Int32 × Mem) :=
  some (x3, M)
set_option maxHeartbeats 4000000 in
set_option maxRecDepth 100000 in
theorem tj_X2_presentTag_23 {p : Program} {l : Launch} {e : Env} {s : State} {m : MethodId} {args : Array Value} {below : List Frame} {meth : Method} {c : Code} {E : KEnv} {H : Heap} {locs : List Loc} {ls : Array Slot} {x3 : Int32} {M : Mem} {v : Int32} {M' : Mem} (hC : CallFix p m c cX2_presentTag 4 s args lw_G RX2) (hr : meth.sig.returnType = (some .int)) (hlocks : meth.locks = false) (hE : EnvOK E s) (h : fj_X2_presentTag_23 x3 M = some (v, M')) (hM : MOK E M H) (hS : va_S (eA E) s.heap H locs) (hl : lv_has ls 4 [(3, .int x3)]) : W p l e rm_X2_presentTag s m args below meth c H locs 0 0 (MQ below (cQ E (some (.int v)) M') args s 0 0 (eA E)) (F0 m 23 ls []) := by
  obtain ⟨hx, hb, hml, hown, hts⟩ := id hC
  unfold fj_X2_presentTag_23 at h
  refine lv_iload_n hx hb dX2_presentTag_23 rfl (lv_at hl 0 rfl) ?_
  cases h
  exact eI hx hb hr hlocks hM hS dX2_presentTag_24 (Nat.le_of_ble_eq_true rfl) (Nat.le_of_ble_eq_true rfl)
noncomputable def fc_X2_presentTag_4 (x0 : Nat) (x1 : Int32) (x2 : Int32) (x3 : Int32) (M : Mem) : Option ((Int32 × Int32 × Mem) ⊕ (Int32 × Mem)) :=
  (if (16 : Int32) ≤ x3 then
  (fj_X2_presentTag_34 M).map Sum.inr
  else
  bn (cK 3 x0 M (f_X2_dotsOfTag x0 x3 M)) fun v1 M2 =>
  (if v1 ≤ 0 then
  fj_X2_presentTag_28 x0 x1 x2 x3 M2
  else
  (if x2 = x1 then
  (fj_X2_presentTag_23 x3 M2).map Sum.inr
  else
  fj_X2_presentTag_28 x0 x1 (x2 + 1) x3 M2)))
noncomputable def fj_X2_presentTag_4 (x0 : Nat) (x1 : Int32) (x2 : Int32) (x3 : Int32) (M : Mem) : Option (Int32 × Mem) := loopM (fun q : (Int32 × Int32 × Mem) => fc_X2_presentTag_4 x0 x1 q.1 q.2.1 q.2.2) FU (x2, x3, M)
set_option maxHeartbeats 4000000 in
set_option maxRecDepth 100000 in
theorem tj_X2_presentTag_4 {p : Program} {l : Launch} {e : Env} {s : State} {m : MethodId} {args : Array Value} {below : List Frame} {meth : Method} {c : Code} {E : KEnv} {H : Heap} {locs : List Loc} {ls : Array Slot} {x0 : Nat} {x1 : Int32} {x2 : Int32} {x3 : Int32} {M : Mem} {v : Int32} {M' : Mem} (hC : CallFix p m c cX2_presentTag 4 s args lw_G RX2) (hr : meth.sig.returnType = (some .int)) (hlocks : meth.locks = false) (hE : EnvOK E s) (h : fj_X2_presentTag_4 x0 x1 x2 x3 M = some (v, M')) (hM : MOK E M H) (hS : va_S (eA E) s.heap H locs) (hl : lv_has ls 4 [(0, .ref x0), (1, .int x1), (2, .int x2), (3, .int x3)]) : W p l e rm_X2_presentTag s m args below meth c H locs 0 0 (MQ below (cQ E (some (.int v)) M') args s 0 0 (eA E)) (F0 m 4 ls []) := by
  refine loopM_ind (body := fun q : (Int32 × Int32 × Mem) => fc_X2_presentTag_4 x0 x1 q.1 q.2.1 q.2.2) (x0 := (v, M')) (Wd := fun q : (Int32 × Int32 × Mem) => ∀ (H : Heap) (locs : List Loc) (ls : Array Slot), MOK E (q.2.2) H → va_S (eA E) s.heap H locs → lv_has ls 4 [(0, .ref x0), (1, .int x1), (2, .int q.1), (3, .int q.2.1)] → W p l e rm_X2_presentTag s m args below meth c H locs 0 0 (MQ below (cQ E (some (.int v)) M') args s 0 0 (eA E)) (F0 m 4 ls [])) ?_ FU (x2, x3, M) h H locs ls hM hS hl
  clear h hM hS hl H locs ls M x2 x3
  obtain ⟨hx, hb, hml, hown, hts⟩ := id hC
  intro q y1 h hy1 H locs ls hM hS hl
  obtain ⟨x2, x3, M⟩ := q
  have h : fc_X2_presentTag_4 x0 x1 x2 x3 M = some y1 := h
  have hM : MOK E M H := hM
  have hl : lv_has ls 4 [(0, .ref x0), (1, .int x1), (2, .int x2), (3, .int x3)] := hl
  unfold fc_X2_presentTag_4 at h
  show W p l e rm_X2_presentTag s m args below meth c H locs _ _ _ _
  refine lv_iload_n hx hb dX2_presentTag_4 rfl (lv_at hl 3 rfl) ?_
  refine lv_bipush (v := 16) hx hb dX2_presentTag_5 (by decide) ?_
  refine lv_icmp_ge (tgt := 34) hx hb dX2_presentTag_7 (by decide) (fun c1 => ?_) (fun c1 => ?_)
  · have h := ifp c1 h
    obtain ⟨z0, h9, rfl⟩ := om h
    have e0 := hy1.2 _ rfl
    subst e0
    have h := h9
    refine W.widen (k := 0) (n := 0) (Nat.le_of_ble_eq_true rfl) (Nat.le_of_ble_eq_true rfl) ?_
    exact tj_X2_presentTag_34  hC hr hlocks hE  h hM hS (lv_sub hl [] rfl)
  · have h := ifn c1 h
    refine lv_aload_n hx hb dX2_presentTag_10 rfl (lv_at hl 0 rfl) ?_
    refine lv_iload_n hx hb dX2_presentTag_11 rfl (lv_at hl 3 rfl) ?_
    obtain ⟨v1, M2, h1, h⟩ := ob2 h
    obtain ⟨hk1, h1⟩ := ifg h1
    refine kV1 (ci := 2) (As := [.int x3]) (rest := []) hC hE hS hM (mt_X2_dotsOfTag _ E x0 x3 _ _ _ h1) (gwV qw_1079 qw_341 qw_342 qw_41 qw_343) ⟨rfl, rfl, (Nat.le_of_ble_eq_true rfl), (Nat.le_of_ble_eq_true rfl)⟩ dd_X2_dotsOfTag rfl hk1 rfl rfl hl.1 (Nat.le_of_ble_eq_true rfl) dX2_presentTag_12 ⟨(Nat.le_of_ble_eq_true rfl), (Nat.le_of_ble_eq_true rfl)⟩ (fun H locs hM hS => ?_)
    refine lv_if_le (tgt := 28) hx hb dX2_presentTag_15 (by decide) (fun c1 => ?_) (fun c1 => ?_)
    · have h := ifp c1 h
      refine W.widen (k := 0) (n := 0) (Nat.le_of_ble_eq_true rfl) (Nat.le_of_ble_eq_true rfl) ?_
      exact tj_X2_presentTag_28  hC hr hlocks hE hy1  h hM hS (lv_sub hl [0, 1, 2, 3] rfl)
    · have h := ifn c1 h
      refine lv_iload_n hx hb dX2_presentTag_18 rfl (lv_at hl 2 rfl) ?_
      refine lv_iload_n hx hb dX2_presentTag_19 rfl (lv_at hl 1 rfl) ?_
      refine lv_icmp_ne (tgt := 25) hx hb dX2_presentTag_20 (by decide) (fun c1 => ?_) (fun c1 => ?_)
      · have h := ifn c1 h
        refine lv_iinc (v := x2 + 1) (lv' := [(2, .int (x2 + 1)), (0, .ref x0), (1, .int x1), (3, .int x3)]) hx hb dX2_presentTag_25 hl (k := 2) rfl rfl (by decide) rfl (fun ls hl => ?_)
        refine W.widen (k := 0) (n := 0) (Nat.le_of_ble_eq_true rfl) (Nat.le_of_ble_eq_true rfl) ?_
        exact tj_X2_presentTag_28  hC hr hlocks hE hy1  h hM hS (lv_sub hl [1, 2, 0, 3] rfl)
      · have h := ifp c1 h
        obtain ⟨z0, h9, rfl⟩ := om h
        have e0 := hy1.2 _ rfl
        subst e0
        have h := h9
        refine W.widen (k := 0) (n := 0) (Nat.le_of_ble_eq_true rfl) (Nat.le_of_ble_eq_true rfl) ?_
        exact tj_X2_presentTag_23  hC hr hlocks hE  h hM hS (lv_sub hl [3] rfl)
noncomputable def f_X2_presentTag (this : Nat) (a1 : Int32) (M : Mem) : Option (Int32 × Mem) :=
  fj_X2_presentTag_4 this a1 0 0 M
set_option maxHeartbeats 4000000 in
set_option maxRecDepth 100000 in
theorem mt_X2_presentTag (l : Launch) (E : KEnv) (this : Nat) (a1 : Int32) (M M' : Mem) (v : Int32) (h : f_X2_presentTag this a1 M = some (v, M')) : Met l yX2_presentTag (Cond.code yX2_presentTag cX2_presentTag 4 (some .int) :: lw_G) rm_X2_presentTag (cPc E [.ref this, .int a1] M) (cQ E (some (.int v)) M') 0 0 (eA E) := by
  refine Met.ofW (cc := cX2_presentTag) (maxL := 4) (ret := (some .int)) (by decide) rfl ?_
  intro p e s m args below meth c s₁ B hml hv
  obtain ⟨rfl, hE, hM⟩ := hv
  have hx := B.exec
  have hb := B.bytes
  have hr := B.returns
  have hts0 := atoms_spec (ws := Cond.code yX2_presentTag cX2_presentTag 4 (some .int) :: lw_G) B.pre
  have hts : ∀ w ∈ lw_G, w.before _ s = true := fun w hw => hts0 w (List.mem_cons_of_mem _ hw)
  have hown : s.vm.findClass RX2 = some m.cls := findClass_of_methodNamed B.named
  have hlocks := B.notSynchronized
  have hC : CallFix p m c cX2_presentTag 4 s _ lw_G RX2 := ⟨hx, hb, hml, hown, hts⟩
  have hS : va_S (eA E) s.heap s.heap [] := va_S.rf
  have hl := lv_entry ([.ref this, .int a1]) (n := 4) (Nat.le_of_ble_eq_true rfl)
  rw [lg_entry_eq]
  generalize (lg_sl ([.ref this, .int a1]) ++ List.replicate (4 - (lg_sl ([.ref this, .int a1])).length) Slot.unset).toArray = ls at hl ⊢
  have hl : lv_has ls 4 [(0, .ref this), (1, .int a1)] := hl
  unfold f_X2_presentTag at h
  show W p l e rm_X2_presentTag s m _ below meth c s.heap [] 0 0 _ _
  refine lv_iconst (v := 0) hx hb dX2_presentTag_0 (by decide) ?_
  refine lv_istore_n (lv' := [(2, .int 0), (0, .ref this), (1, .int a1)]) hx hb dX2_presentTag_1 rfl hl (by decide) rfl (fun ls hl => ?_)
  refine lv_iconst (v := 0) hx hb dX2_presentTag_2 (by decide) ?_
  refine lv_istore_n (lv' := [(3, .int 0), (2, .int 0), (0, .ref this), (1, .int a1)]) hx hb dX2_presentTag_3 rfl hl (by decide) rfl (fun ls hl => ?_)
  refine W.widen (k := 0) (n := 0) (Nat.le_of_ble_eq_true rfl) (Nat.le_of_ble_eq_true rfl) ?_
  exact tj_X2_presentTag_4  hC hr hlocks hE  h hM hS (lv_sub hl [2, 3, 1, 0] rfl)

theorem dd_X2_tagsMissingIn : yX2_tagsMissingIn.cls = RX2 ∧ yX2_tagsMissingIn.cls ≠ "java/lang/invoke/MethodHandle" ∧ yX2_tagsMissingIn.cls ≠ "java/lang/invoke/VarHandle" ∧ (parseMethodDescriptor yX2_tagsMissingIn.desc).map (fun d => d.parameters.length) = some 1 := by decide +kernel
abbrev rm_X2_tagsMissingIn : Room := ({ frames := 2, cells := 0, slots := 0, locals := 44 } : Room)
noncomputable def fj_X2_tagsMissingIn_35 (x2 : Int32) (M : Mem) : Option (Int32 × Mem) :=
  some (x2, M)
set_option maxHeartbeats 4000000 in
set_option maxRecDepth 100000 in
theorem tj_X2_tagsMissingIn_35 {p : Program} {l : Launch} {e : Env} {s : State} {m : MethodId} {args : Array Value} {below : List Frame} {meth : Method} {c : Code} {E : KEnv} {H : Heap} {locs : List Loc} {ls : Array Slot} {x2 : Int32} {M : Mem} {v : Int32} {M' : Mem} (hC : CallFix p m c cX2_tagsMissingIn 4 s args lw_G RX2) (hr : meth.sig.returnType = (some .int)) (hlocks : meth.locks = false) (hE : EnvOK E s) (h : fj_X2_tagsMissingIn_35 x2 M = some (v, M')) (hM : MOK E M H) (hS : va_S (eA E) s.heap H locs) (hl : lv_has ls 4 [(2, .int x2)]) : W p l e rm_X2_tagsMissingIn s m args below meth c H locs 0 0 (MQ below (cQ E (some (.int v)) M') args s 0 0 (eA E)) (F0 m 35 ls []) := by
  obtain ⟨hx, hb, hml, hown, hts⟩ := id hC
  unfold fj_X2_tagsMissingIn_35 at h
  refine lv_iload_n hx hb dX2_tagsMissingIn_35 rfl (lv_at hl 0 rfl) ?_
  cases h
  exact eI hx hb hr hlocks hM hS dX2_tagsMissingIn_36 (Nat.le_of_ble_eq_true rfl) (Nat.le_of_ble_eq_true rfl)
noncomputable def fj_X2_tagsMissingIn_29 (x0 : Nat) (x1 : Nat) (x2 : Int32) (x3 : Int32) (M : Mem) : Option ((Int32 × Int32 × Mem) ⊕ (Int32 × Mem)) :=
  some (.inl (x2, x3 + 1, M))
set_option maxHeartbeats 4000000 in
set_option maxRecDepth 100000 in
theorem tj_X2_tagsMissingIn_29 {p : Program} {l : Launch} {e : Env} {s : State} {m : MethodId} {args : Array Value} {below : List Frame} {meth : Method} {c : Code} {E : KEnv} {H : Heap} {locs : List Loc} {ls : Array Slot} {x0 : Nat} {x1 : Nat} {x2 : Int32} {x3 : Int32} {y1 : ((Int32 × Int32 × Mem) ⊕ (Int32 × Mem))} {M : Mem} {v : Int32} {M' : Mem} (hC : CallFix p m c cX2_tagsMissingIn 4 s args lw_G RX2) (hr : meth.sig.returnType = (some .int)) (hlocks : meth.locks = false) (hE : EnvOK E s) (hy1 : (∀ q : (Int32 × Int32 × Mem), y1 = .inl q → ∀ (H : Heap) (locs : List Loc) (ls : Array Slot), MOK E (q.2.2) H → va_S (eA E) s.heap H locs → lv_has ls 4 [(0, .ref x0), (1, .ref x1), (2, .int q.1), (3, .int q.2.1)] → W p l e rm_X2_tagsMissingIn s m args below meth c H locs 0 0 (MQ below (cQ E (some (.int v)) M') args s 0 0 (eA E)) (F0 m 4 ls [])) ∧ ∀ z, y1 = .inr z → z = (v, M')) (h : fj_X2_tagsMissingIn_29 x0 x1 x2 x3 M = some y1) (hM : MOK E M H) (hS : va_S (eA E) s.heap H locs) (hl : lv_has ls 4 [(0, .ref x0), (1, .ref x1), (2, .int x2), (3, .int x3)]) : W p l e rm_X2_tagsMissingIn s m args below meth c H locs 0 0 (MQ below (cQ E (some (.int v)) M') args s 0 0 (eA E)) (F0 m 29 ls []) := by
  obtain ⟨hx, hb, hml, hown, hts⟩ := id hC
  unfold fj_X2_tagsMissingIn_29 at h
  refine lv_iinc (v := x3 + 1) (lv' := [(3, .int (x3 + 1)), (0, .ref x0), (1, .ref x1), (2, .int x2)]) hx hb dX2_tagsMissingIn_29 hl (k := 3) rfl rfl (by decide) rfl (fun ls hl => ?_)
  refine lv_goto (tgt := 4) hx hb dX2_tagsMissingIn_32 (by decide) ?_
  cases h
  exact hy1.1 _ rfl _ _ _ hM hS (lv_sub hl [1, 2, 3, 0] rfl)
noncomputable def fc_X2_tagsMissingIn_4 (x0 : Nat) (x1 : Nat) (x2 : Int32) (x3 : Int32) (M : Mem) : Option ((Int32 × Int32 × Mem) ⊕ (Int32 × Mem)) :=
  (if (16 : Int32) ≤ x3 then
  (fj_X2_tagsMissingIn_35 x2 M).map Sum.inr
  else
  bn (cK 3 x0 M (f_X2_dotsOfTag x0 x3 M)) fun v1 M2 =>
  (if v1 ≤ 0 then
  fj_X2_tagsMissingIn_29 x0 x1 x2 x3 M2
  else
  bn (cK 3 x1 M2 (f_X2_dotsOfTag x1 x3 M2)) fun v3 M4 =>
  (if v3 = 0 then
  fj_X2_tagsMissingIn_29 x0 x1 (x2 + 1) x3 M4
  else
  fj_X2_tagsMissingIn_29 x0 x1 x2 x3 M4)))
noncomputable def fj_X2_tagsMissingIn_4 (x0 : Nat) (x1 : Nat) (x2 : Int32) (x3 : Int32) (M : Mem) : Option (Int32 × Mem) := loopM (fun q : (Int32 × Int32 × Mem) => fc_X2_tagsMissingIn_4 x0 x1 q.1 q.2.1 q.2.2) FU (x2, x3, M)
set_option maxHeartbeats 4000000 in
set_option maxRecDepth 100000 in
theorem tj_X2_tagsMissingIn_4 {p : Program} {l : Launch} {e : Env} {s : State} {m : MethodId} {args : Array Value} {below : List Frame} {meth : Method} {c : Code} {E : KEnv} {H : Heap} {locs : List Loc} {ls : Array Slot} {x0 : Nat} {x1 : Nat} {x2 : Int32} {x3 : Int32} {M : Mem} {v : Int32} {M' : Mem} (hC : CallFix p m c cX2_tagsMissingIn 4 s args lw_G RX2) (hr : meth.sig.returnType = (some .int)) (hlocks : meth.locks = false) (hE : EnvOK E s) (h : fj_X2_tagsMissingIn_4 x0 x1 x2 x3 M = some (v, M')) (hM : MOK E M H) (hS : va_S (eA E) s.heap H locs) (hl : lv_has ls 4 [(0, .ref x0), (1, .ref x1), (2, .int x2), (3, .int x3)]) : W p l e rm_X2_tagsMissingIn s m args below meth c H locs 0 0 (MQ below (cQ E (some (.int v)) M') args s 0 0 (eA E)) (F0 m 4 ls []) := by
  refine loopM_ind (body := fun q : (Int32 × Int32 × Mem) => fc_X2_tagsMissingIn_4 x0 x1 q.1 q.2.1 q.2.2) (x0 := (v, M')) (Wd := fun q : (Int32 × Int32 × Mem) => ∀ (H : Heap) (locs : List Loc) (ls : Array Slot), MOK E (q.2.2) H → va_S (eA E) s.heap H locs → lv_has ls 4 [(0, .ref x0), (1, .ref x1), (2, .int q.1), (3, .int q.2.1)] → W p l e rm_X2_tagsMissingIn s m args below meth c H locs 0 0 (MQ below (cQ E (some (.int v)) M') args s 0 0 (eA E)) (F0 m 4 ls [])) ?_ FU (x2, x3, M) h H locs ls hM hS hl
  clear h hM hS hl H locs ls M x2 x3
  obtain ⟨hx, hb, hml, hown, hts⟩ := id hC
  intro q y1 h hy1 H locs ls hM hS hl
  obtain ⟨x2, x3, M⟩ := q
  have h : fc_X2_tagsMissingIn_4 x0 x1 x2 x3 M = some y1 := h
  have hM : MOK E M H := hM
  have hl : lv_has ls 4 [(0, .ref x0), (1, .ref x1), (2, .int x2), (3, .int x3)] := hl
  unfold fc_X2_tagsMissingIn_4 at h
  show W p l e rm_X2_tagsMissingIn s m args below meth c H locs _ _ _ _
  refine lv_iload_n hx hb dX2_tagsMissingIn_4 rfl (lv_at hl 3 rfl) ?_
  refine lv_bipush (v := 16) hx hb dX2_tagsMissingIn_5 (by decide) ?_
  refine lv_icmp_ge (tgt := 35) hx hb dX2_tagsMissingIn_7 (by decide) (fun c1 => ?_) (fun c1 => ?_)
  · have h := ifp c1 h
    obtain ⟨z0, h9, rfl⟩ := om h
    have e0 := hy1.2 _ rfl
    subst e0
    have h := h9
    refine W.widen (k := 0) (n := 0) (Nat.le_of_ble_eq_true rfl) (Nat.le_of_ble_eq_true rfl) ?_
    exact tj_X2_tagsMissingIn_35  hC hr hlocks hE  h hM hS (lv_sub hl [2] rfl)
  · have h := ifn c1 h
    refine lv_aload_n hx hb dX2_tagsMissingIn_10 rfl (lv_at hl 0 rfl) ?_
    refine lv_iload_n hx hb dX2_tagsMissingIn_11 rfl (lv_at hl 3 rfl) ?_
    obtain ⟨v1, M2, h1, h⟩ := ob2 h
    obtain ⟨hk1, h1⟩ := ifg h1
    refine kV1 (ci := 2) (As := [.int x3]) (rest := []) hC hE hS hM (mt_X2_dotsOfTag _ E x0 x3 _ _ _ h1) (gwV qw_1079 qw_341 qw_342 qw_41 qw_343) ⟨rfl, rfl, (Nat.le_of_ble_eq_true rfl), (Nat.le_of_ble_eq_true rfl)⟩ dd_X2_dotsOfTag rfl hk1 rfl rfl hl.1 (Nat.le_of_ble_eq_true rfl) dX2_tagsMissingIn_12 ⟨(Nat.le_of_ble_eq_true rfl), (Nat.le_of_ble_eq_true rfl)⟩ (fun H locs hM hS => ?_)
    refine lv_if_le (tgt := 29) hx hb dX2_tagsMissingIn_15 (by decide) (fun c1 => ?_) (fun c1 => ?_)
    · have h := ifp c1 h
      refine W.widen (k := 0) (n := 0) (Nat.le_of_ble_eq_true rfl) (Nat.le_of_ble_eq_true rfl) ?_
      exact tj_X2_tagsMissingIn_29  hC hr hlocks hE hy1  h hM hS (lv_sub hl [0, 1, 2, 3] rfl)
    · have h := ifn c1 h
      refine lv_aload_n hx hb dX2_tagsMissingIn_18 rfl (lv_at hl 1 rfl) ?_
      refine lv_iload_n hx hb dX2_tagsMissingIn_19 rfl (lv_at hl 3 rfl) ?_
      obtain ⟨v3, M4, h1, h⟩ := ob2 h
      obtain ⟨hk1, h1⟩ := ifg h1
      refine kV1 (ci := 2) (As := [.int x3]) (rest := []) hC hE hS hM (mt_X2_dotsOfTag _ E x1 x3 _ _ _ h1) (gwV qw_1079 qw_341 qw_342 qw_41 qw_343) ⟨rfl, rfl, (Nat.le_of_ble_eq_true rfl), (Nat.le_of_ble_eq_true rfl)⟩ dd_X2_dotsOfTag rfl hk1 rfl rfl hl.1 (Nat.le_of_ble_eq_true rfl) dX2_tagsMissingIn_20 ⟨(Nat.le_of_ble_eq_true rfl), (Nat.le_of_ble_eq_true rfl)⟩ (fun H locs hM hS => ?_)
      refine lv_if_ne (tgt := 29) hx hb dX2_tagsMissingIn_23 (by decide) (fun c1 => ?_) (fun c1 => ?_)
      · have h := ifn c1 h
        refine W.widen (k := 0) (n := 0) (Nat.le_of_ble_eq_true rfl) (Nat.le_of_ble_eq_true rfl) ?_
        exact tj_X2_tagsMissingIn_29  hC hr hlocks hE hy1  h hM hS (lv_sub hl [0, 1, 2, 3] rfl)
      · have h := ifp c1 h
        refine lv_iinc (v := x2 + 1) (lv' := [(2, .int (x2 + 1)), (0, .ref x0), (1, .ref x1), (3, .int x3)]) hx hb dX2_tagsMissingIn_26 hl (k := 2) rfl rfl (by decide) rfl (fun ls hl => ?_)
        refine W.widen (k := 0) (n := 0) (Nat.le_of_ble_eq_true rfl) (Nat.le_of_ble_eq_true rfl) ?_
        exact tj_X2_tagsMissingIn_29  hC hr hlocks hE hy1  h hM hS (lv_sub hl [1, 2, 0, 3] rfl)
noncomputable def f_X2_tagsMissingIn (this : Nat) (a1 : Nat) (M : Mem) : Option (Int32 × Mem) :=
  fj_X2_tagsMissingIn_4 this a1 0 0 M
set_option maxHeartbeats 4000000 in
set_option maxRecDepth 100000 in
theorem mt_X2_tagsMissingIn (l : Launch) (E : KEnv) (this : Nat) (a1 : Nat) (M M' : Mem) (v : Int32) (h : f_X2_tagsMissingIn this a1 M = some (v, M')) : Met l yX2_tagsMissingIn (Cond.code yX2_tagsMissingIn cX2_tagsMissingIn 4 (some .int) :: lw_G) rm_X2_tagsMissingIn (cPc E [.ref this, .ref a1] M) (cQ E (some (.int v)) M') 0 0 (eA E) := by
  refine Met.ofW (cc := cX2_tagsMissingIn) (maxL := 4) (ret := (some .int)) (by decide) rfl ?_
  intro p e s m args below meth c s₁ B hml hv
  obtain ⟨rfl, hE, hM⟩ := hv
  have hx := B.exec
  have hb := B.bytes
  have hr := B.returns
  have hts0 := atoms_spec (ws := Cond.code yX2_tagsMissingIn cX2_tagsMissingIn 4 (some .int) :: lw_G) B.pre
  have hts : ∀ w ∈ lw_G, w.before _ s = true := fun w hw => hts0 w (List.mem_cons_of_mem _ hw)
  have hown : s.vm.findClass RX2 = some m.cls := findClass_of_methodNamed B.named
  have hlocks := B.notSynchronized
  have hC : CallFix p m c cX2_tagsMissingIn 4 s _ lw_G RX2 := ⟨hx, hb, hml, hown, hts⟩
  have hS : va_S (eA E) s.heap s.heap [] := va_S.rf
  have hl := lv_entry ([.ref this, .ref a1]) (n := 4) (Nat.le_of_ble_eq_true rfl)
  rw [lg_entry_eq]
  generalize (lg_sl ([.ref this, .ref a1]) ++ List.replicate (4 - (lg_sl ([.ref this, .ref a1])).length) Slot.unset).toArray = ls at hl ⊢
  have hl : lv_has ls 4 [(0, .ref this), (1, .ref a1)] := hl
  unfold f_X2_tagsMissingIn at h
  show W p l e rm_X2_tagsMissingIn s m _ below meth c s.heap [] 0 0 _ _
  refine lv_iconst (v := 0) hx hb dX2_tagsMissingIn_0 (by decide) ?_
  refine lv_istore_n (lv' := [(2, .int 0), (0, .ref this), (1, .ref a1)]) hx hb dX2_tagsMissingIn_1 rfl hl (by decide) rfl (fun ls hl => ?_)
  refine lv_iconst (v := 0) hx hb dX2_tagsMissingIn_2 (by decide) ?_
  refine lv_istore_n (lv' := [(3, .int 0), (2, .int 0), (0, .ref this), (1, .ref a1)]) hx hb dX2_tagsMissingIn_3 rfl hl (by decide) rfl (fun ls hl => ?_)
  refine W.widen (k := 0) (n := 0) (Nat.le_of_ble_eq_true rfl) (Nat.le_of_ble_eq_true rfl) ?_
  exact tj_X2_tagsMissingIn_4  hC hr hlocks hE  h hM hS (lv_sub hl [2, 3, 1, 0] rfl)

theorem dd_X2_registersInConflict : yX2_registersInConflict.cls = RX2 ∧ yX2_registersInConflict.cls ≠ "java/lang/invoke/MethodHandle" ∧ yX2_registersInConflict.cls ≠ "java/lang/invoke/VarHandle" ∧ (parseMethodDescriptor yX2_registersInConflict.desc).map (fun d => d.parameters.length) = some 0 := by decide +kernel
abbrev rm_X2_registersInConflict : Room := ({ frames := 2, cells := 0, slots := 0, locals := 44 } : Room)
noncomputable def fj_X2_registersInConflict_27 (x1 : Int32) (M : Mem) : Option (Int32 × Mem) :=
  some (x1, M)
set_option maxHeartbeats 4000000 in
set_option maxRecDepth 100000 in
theorem tj_X2_registersInConflict_27 {p : Program} {l : Launch} {e : Env} {s : State} {m : MethodId} {args : Array Value} {below : List Frame} {meth : Method} {c : Code} {E : KEnv} {H : Heap} {locs : List Loc} {ls : Array Slot} {x1 : Int32} {M : Mem} {v : Int32} {M' : Mem} (hC : CallFix p m c cX2_registersInConflict 3 s args lw_G RX2) (hr : meth.sig.returnType = (some .int)) (hlocks : meth.locks = false) (hE : EnvOK E s) (h : fj_X2_registersInConflict_27 x1 M = some (v, M')) (hM : MOK E M H) (hS : va_S (eA E) s.heap H locs) (hl : lv_has ls 3 [(1, .int x1)]) : W p l e rm_X2_registersInConflict s m args below meth c H locs 0 0 (MQ below (cQ E (some (.int v)) M') args s 0 0 (eA E)) (F0 m 27 ls []) := by
  obtain ⟨hx, hb, hml, hown, hts⟩ := id hC
  unfold fj_X2_registersInConflict_27 at h
  refine lv_iload_n hx hb dX2_registersInConflict_27 rfl (lv_at hl 0 rfl) ?_
  cases h
  exact eI hx hb hr hlocks hM hS dX2_registersInConflict_28 (Nat.le_of_ble_eq_true rfl) (Nat.le_of_ble_eq_true rfl)
noncomputable def fj_X2_registersInConflict_21 (x0 : Nat) (x1 : Int32) (x2 : Int32) (M : Mem) : Option ((Int32 × Int32 × Mem) ⊕ (Int32 × Mem)) :=
  some (.inl (x1, x2 + 1, M))
set_option maxHeartbeats 4000000 in
set_option maxRecDepth 100000 in
theorem tj_X2_registersInConflict_21 {p : Program} {l : Launch} {e : Env} {s : State} {m : MethodId} {args : Array Value} {below : List Frame} {meth : Method} {c : Code} {E : KEnv} {H : Heap} {locs : List Loc} {ls : Array Slot} {x0 : Nat} {x1 : Int32} {x2 : Int32} {y1 : ((Int32 × Int32 × Mem) ⊕ (Int32 × Mem))} {M : Mem} {v : Int32} {M' : Mem} (hC : CallFix p m c cX2_registersInConflict 3 s args lw_G RX2) (hr : meth.sig.returnType = (some .int)) (hlocks : meth.locks = false) (hE : EnvOK E s) (hy1 : (∀ q : (Int32 × Int32 × Mem), y1 = .inl q → ∀ (H : Heap) (locs : List Loc) (ls : Array Slot), MOK E (q.2.2) H → va_S (eA E) s.heap H locs → lv_has ls 3 [(0, .ref x0), (1, .int q.1), (2, .int q.2.1)] → W p l e rm_X2_registersInConflict s m args below meth c H locs 0 0 (MQ below (cQ E (some (.int v)) M') args s 0 0 (eA E)) (F0 m 4 ls [])) ∧ ∀ z, y1 = .inr z → z = (v, M')) (h : fj_X2_registersInConflict_21 x0 x1 x2 M = some y1) (hM : MOK E M H) (hS : va_S (eA E) s.heap H locs) (hl : lv_has ls 3 [(0, .ref x0), (1, .int x1), (2, .int x2)]) : W p l e rm_X2_registersInConflict s m args below meth c H locs 0 0 (MQ below (cQ E (some (.int v)) M') args s 0 0 (eA E)) (F0 m 21 ls []) := by
  obtain ⟨hx, hb, hml, hown, hts⟩ := id hC
  unfold fj_X2_registersInConflict_21 at h
  refine lv_iinc (v := x2 + 1) (lv' := [(2, .int (x2 + 1)), (0, .ref x0), (1, .int x1)]) hx hb dX2_registersInConflict_21 hl (k := 2) rfl rfl (by decide) rfl (fun ls hl => ?_)
  refine lv_goto (tgt := 4) hx hb dX2_registersInConflict_24 (by decide) ?_
  cases h
  exact hy1.1 _ rfl _ _ _ hM hS (lv_sub hl [1, 2, 0] rfl)
noncomputable def fc_X2_registersInConflict_4 (x0 : Nat) (x1 : Int32) (x2 : Int32) (M : Mem) : Option ((Int32 × Int32 × Mem) ⊕ (Int32 × Mem)) :=
  (if (4 : Int32) ≤ x2 then
  (fj_X2_registersInConflict_27 x1 M).map Sum.inr
  else
  bn (cK 3 x0 M (f_X2_entries x0 x2 M)) fun v1 M2 =>
  (if v1 ≤ 1 then
  fj_X2_registersInConflict_21 x0 x1 x2 M2
  else
  fj_X2_registersInConflict_21 x0 (x1 + 1) x2 M2))
noncomputable def fj_X2_registersInConflict_4 (x0 : Nat) (x1 : Int32) (x2 : Int32) (M : Mem) : Option (Int32 × Mem) := loopM (fun q : (Int32 × Int32 × Mem) => fc_X2_registersInConflict_4 x0 q.1 q.2.1 q.2.2) FU (x1, x2, M)
set_option maxHeartbeats 4000000 in
set_option maxRecDepth 100000 in
theorem tj_X2_registersInConflict_4 {p : Program} {l : Launch} {e : Env} {s : State} {m : MethodId} {args : Array Value} {below : List Frame} {meth : Method} {c : Code} {E : KEnv} {H : Heap} {locs : List Loc} {ls : Array Slot} {x0 : Nat} {x1 : Int32} {x2 : Int32} {M : Mem} {v : Int32} {M' : Mem} (hC : CallFix p m c cX2_registersInConflict 3 s args lw_G RX2) (hr : meth.sig.returnType = (some .int)) (hlocks : meth.locks = false) (hE : EnvOK E s) (h : fj_X2_registersInConflict_4 x0 x1 x2 M = some (v, M')) (hM : MOK E M H) (hS : va_S (eA E) s.heap H locs) (hl : lv_has ls 3 [(0, .ref x0), (1, .int x1), (2, .int x2)]) : W p l e rm_X2_registersInConflict s m args below meth c H locs 0 0 (MQ below (cQ E (some (.int v)) M') args s 0 0 (eA E)) (F0 m 4 ls []) := by
  refine loopM_ind (body := fun q : (Int32 × Int32 × Mem) => fc_X2_registersInConflict_4 x0 q.1 q.2.1 q.2.2) (x0 := (v, M')) (Wd := fun q : (Int32 × Int32 × Mem) => ∀ (H : Heap) (locs : List Loc) (ls : Array Slot), MOK E (q.2.2) H → va_S (eA E) s.heap H locs → lv_has ls 3 [(0, .ref x0), (1, .int q.1), (2, .int q.2.1)] → W p l e rm_X2_registersInConflict s m args below meth c H locs 0 0 (MQ below (cQ E (some (.int v)) M') args s 0 0 (eA E)) (F0 m 4 ls [])) ?_ FU (x1, x2, M) h H locs ls hM hS hl
  clear h hM hS hl H locs ls M x1 x2
  obtain ⟨hx, hb, hml, hown, hts⟩ := id hC
  intro q y1 h hy1 H locs ls hM hS hl
  obtain ⟨x1, x2, M⟩ := q
  have h : fc_X2_registersInConflict_4 x0 x1 x2 M = some y1 := h
  have hM : MOK E M H := hM
  have hl : lv_has ls 3 [(0, .ref x0), (1, .int x1), (2, .int x2)] := hl
  unfold fc_X2_registersInConflict_4 at h
  show W p l e rm_X2_registersInConflict s m args below meth c H locs _ _ _ _
  refine lv_iload_n hx hb dX2_registersInConflict_4 rfl (lv_at hl 2 rfl) ?_
  refine lv_iconst (v := 4) hx hb dX2_registersInConflict_5 (by decide) ?_
  refine lv_icmp_ge (tgt := 27) hx hb dX2_registersInConflict_6 (by decide) (fun c1 => ?_) (fun c1 => ?_)
  · have h := ifp c1 h
    obtain ⟨z0, h9, rfl⟩ := om h
    have e0 := hy1.2 _ rfl
    subst e0
    have h := h9
    refine W.widen (k := 0) (n := 0) (Nat.le_of_ble_eq_true rfl) (Nat.le_of_ble_eq_true rfl) ?_
    exact tj_X2_registersInConflict_27  hC hr hlocks hE  h hM hS (lv_sub hl [1] rfl)
  · have h := ifn c1 h
    refine lv_aload_n hx hb dX2_registersInConflict_9 rfl (lv_at hl 0 rfl) ?_
    refine lv_iload_n hx hb dX2_registersInConflict_10 rfl (lv_at hl 2 rfl) ?_
    obtain ⟨v1, M2, h1, h⟩ := ob2 h
    obtain ⟨hk1, h1⟩ := ifg h1
    refine kV1 (ci := 2) (As := [.int x2]) (rest := []) hC hE hS hM (mt_X2_entries _ E x0 x2 _ _ _ h1) (gwV qw_1106 qw_686 qw_687 qw_41 qw_688) ⟨rfl, rfl, (Nat.le_of_ble_eq_true rfl), (Nat.le_of_ble_eq_true rfl)⟩ dd_X2_entries rfl hk1 rfl rfl hl.1 (Nat.le_of_ble_eq_true rfl) dX2_registersInConflict_11 ⟨(Nat.le_of_ble_eq_true rfl), (Nat.le_of_ble_eq_true rfl)⟩ (fun H locs hM hS => ?_)
    refine lv_iconst (v := 1) hx hb dX2_registersInConflict_14 (by decide) ?_
    refine lv_icmp_le (tgt := 21) hx hb dX2_registersInConflict_15 (by decide) (fun c1 => ?_) (fun c1 => ?_)
    · have h := ifp c1 h
      refine W.widen (k := 0) (n := 0) (Nat.le_of_ble_eq_true rfl) (Nat.le_of_ble_eq_true rfl) ?_
      exact tj_X2_registersInConflict_21  hC hr hlocks hE hy1  h hM hS (lv_sub hl [0, 1, 2] rfl)
    · have h := ifn c1 h
      refine lv_iinc (v := x1 + 1) (lv' := [(1, .int (x1 + 1)), (0, .ref x0), (2, .int x2)]) hx hb dX2_registersInConflict_18 hl (k := 1) rfl rfl (by decide) rfl (fun ls hl => ?_)
      refine W.widen (k := 0) (n := 0) (Nat.le_of_ble_eq_true rfl) (Nat.le_of_ble_eq_true rfl) ?_
      exact tj_X2_registersInConflict_21  hC hr hlocks hE hy1  h hM hS (lv_sub hl [1, 0, 2] rfl)
noncomputable def f_X2_registersInConflict (this : Nat) (M : Mem) : Option (Int32 × Mem) :=
  fj_X2_registersInConflict_4 this 0 0 M
set_option maxHeartbeats 4000000 in
set_option maxRecDepth 100000 in
theorem mt_X2_registersInConflict (l : Launch) (E : KEnv) (this : Nat) (M M' : Mem) (v : Int32) (h : f_X2_registersInConflict this M = some (v, M')) : Met l yX2_registersInConflict (Cond.code yX2_registersInConflict cX2_registersInConflict 3 (some .int) :: lw_G) rm_X2_registersInConflict (cPc E [.ref this] M) (cQ E (some (.int v)) M') 0 0 (eA E) := by
  refine Met.ofW (cc := cX2_registersInConflict) (maxL := 3) (ret := (some .int)) (by decide) rfl ?_
  intro p e s m args below meth c s₁ B hml hv
  obtain ⟨rfl, hE, hM⟩ := hv
  have hx := B.exec
  have hb := B.bytes
  have hr := B.returns
  have hts0 := atoms_spec (ws := Cond.code yX2_registersInConflict cX2_registersInConflict 3 (some .int) :: lw_G) B.pre
  have hts : ∀ w ∈ lw_G, w.before _ s = true := fun w hw => hts0 w (List.mem_cons_of_mem _ hw)
  have hown : s.vm.findClass RX2 = some m.cls := findClass_of_methodNamed B.named
  have hlocks := B.notSynchronized
  have hC : CallFix p m c cX2_registersInConflict 3 s _ lw_G RX2 := ⟨hx, hb, hml, hown, hts⟩
  have hS : va_S (eA E) s.heap s.heap [] := va_S.rf
  have hl := lv_entry ([.ref this]) (n := 3) (Nat.le_of_ble_eq_true rfl)
  rw [lg_entry_eq]
  generalize (lg_sl ([.ref this]) ++ List.replicate (3 - (lg_sl ([.ref this])).length) Slot.unset).toArray = ls at hl ⊢
  have hl : lv_has ls 3 [(0, .ref this)] := hl
  unfold f_X2_registersInConflict at h
  show W p l e rm_X2_registersInConflict s m _ below meth c s.heap [] 0 0 _ _
  refine lv_iconst (v := 0) hx hb dX2_registersInConflict_0 (by decide) ?_
  refine lv_istore_n (lv' := [(1, .int 0), (0, .ref this)]) hx hb dX2_registersInConflict_1 rfl hl (by decide) rfl (fun ls hl => ?_)
  refine lv_iconst (v := 0) hx hb dX2_registersInConflict_2 (by decide) ?_
  refine lv_istore_n (lv' := [(2, .int 0), (1, .int 0), (0, .ref this)]) hx hb dX2_registersInConflict_3 rfl hl (by decide) rfl (fun ls hl => ?_)
  refine W.widen (k := 0) (n := 0) (Nat.le_of_ble_eq_true rfl) (Nat.le_of_ble_eq_true rfl) ?_
  exact tj_X2_registersInConflict_4  hC hr hlocks hE  h hM hS (lv_sub hl [2, 1, 0] rfl)

theorem dd_X2_putNewDot : yX2_putNewDot.cls = RX2 ∧ yX2_putNewDot.cls ≠ "java/lang/invoke/MethodHandle" ∧ yX2_putNewDot.cls ≠ "java/lang/invoke/VarHandle" ∧ (parseMethodDescriptor yX2_putNewDot.desc).map (fun d => d.parameters.length) = some 3 := by decide +kernel
abbrev rm_X2_putNewDot : Room := ({ frames := 1, cells := 0, slots := 0, locals := 23 } : Room)
noncomputable def fj_X2_putNewDot_62 (x0 : Nat) (x1 : Int32) (x2 : Int32) (x3 : Int32) (x4 : Int32) (s0 : Nat) (s1 : Int32) (s2 : Int32) (s3 : Int32) (M : Mem) : Option ((Int32 × Mem) ⊕ Mem) :=
  (cK 3 s0 M (f_X2_setDot s0 s1 s2 s3 M)).bind fun M5 =>
  some (.inl (x4 + 1, M5))
set_option maxHeartbeats 4000000 in
set_option maxRecDepth 100000 in
theorem tj_X2_putNewDot_62 {p : Program} {l : Launch} {e : Env} {s : State} {m : MethodId} {args : Array Value} {below : List Frame} {meth : Method} {c : Code} {E : KEnv} {H : Heap} {locs : List Loc} {ls : Array Slot} {x0 : Nat} {x1 : Int32} {x2 : Int32} {x3 : Int32} {x4 : Int32} {s0 : Nat} {s1 : Int32} {s2 : Int32} {s3 : Int32} {y1 : ((Int32 × Mem) ⊕ Mem)} {M : Mem} {M' : Mem} (hC : CallFix p m c cX2_putNewDot 6 s args lw_G RX2) (hr : meth.sig.returnType = none) (hlocks : meth.locks = false) (hE : EnvOK E s) (hy1 : (∀ q : (Int32 × Mem), y1 = .inl q → ∀ (H : Heap) (locs : List Loc) (ls : Array Slot), MOK E (q.2) H → va_S (eA E) s.heap H locs → lv_has ls 6 [(0, .ref x0), (1, .int x1), (2, .int x2), (3, .int x3), (4, .int q.1)] → W p l e rm_X2_putNewDot s m args below meth c H locs 0 0 (MQ below (cQ E none M') args s 0 0 (eA E)) (F0 m 13 ls [])) ∧ ∀ z, y1 = .inr z → z = M') (h : fj_X2_putNewDot_62 x0 x1 x2 x3 x4 s0 s1 s2 s3 M = some y1) (hM : MOK E M H) (hS : va_S (eA E) s.heap H locs) (hl : lv_has ls 6 [(0, .ref x0), (1, .int x1), (2, .int x2), (3, .int x3), (4, .int x4)]) : W p l e rm_X2_putNewDot s m args below meth c H locs 0 0 (MQ below (cQ E none M') args s 0 0 (eA E)) (F0 m 62 ls [.int s3, .int s2, .int s1, .ref s0]) := by
  obtain ⟨hx, hb, hml, hown, hts⟩ := id hC
  unfold fj_X2_putNewDot_62 at h
  obtain ⟨M5, h1, h⟩ := ob h
  obtain ⟨hk1, h1⟩ := ifg h1
  refine kV0 (ci := 2) (As := [.int s1, .int s2, .int s3]) (rest := []) hC hE hS hM (mt_X2_setDot _ E s0 s1 s2 s3 _ _ h1) (gwV qw_331 qw_333 qw_12 qw_41 qw_334) ⟨rfl, rfl, (Nat.le_of_ble_eq_true rfl), (Nat.le_of_ble_eq_true rfl)⟩ dd_X2_setDot rfl hk1 rfl rfl hl.1 (Nat.le_of_ble_eq_true rfl) dX2_putNewDot_62 ⟨(Nat.le_of_ble_eq_true rfl), (Nat.le_of_ble_eq_true rfl)⟩ (fun H locs hM hS => ?_)
  refine lv_iinc (v := x4 + 1) (lv' := [(4, .int (x4 + 1)), (0, .ref x0), (1, .int x1), (2, .int x2), (3, .int x3)]) hx hb dX2_putNewDot_65 hl (k := 4) rfl rfl (by decide) rfl (fun ls hl => ?_)
  refine lv_goto (tgt := 13) hx hb dX2_putNewDot_68 (by decide) ?_
  cases h
  exact hy1.1 _ rfl _ _ _ hM hS (lv_sub hl [1, 2, 3, 4, 0] rfl)
noncomputable def fj_X2_putNewDot_52 (x0 : Nat) (x1 : Int32) (x2 : Int32) (x3 : Int32) (x4 : Int32) (x5 : Int32) (s0 : Nat) (s1 : Int32) (s2 : Int32) (M : Mem) : Option ((Int32 × Mem) ⊕ Mem) :=
  (if x5 = 0 then
  fj_X2_putNewDot_62 x0 x1 x2 x3 x4 s0 s1 s2 0 M
  else
  fj_X2_putNewDot_62 x0 x1 x2 x3 x4 s0 s1 s2 x3 M)
set_option maxHeartbeats 4000000 in
set_option maxRecDepth 100000 in
theorem tj_X2_putNewDot_52 {p : Program} {l : Launch} {e : Env} {s : State} {m : MethodId} {args : Array Value} {below : List Frame} {meth : Method} {c : Code} {E : KEnv} {H : Heap} {locs : List Loc} {ls : Array Slot} {x0 : Nat} {x1 : Int32} {x2 : Int32} {x3 : Int32} {x4 : Int32} {x5 : Int32} {s0 : Nat} {s1 : Int32} {s2 : Int32} {y1 : ((Int32 × Mem) ⊕ Mem)} {M : Mem} {M' : Mem} (hC : CallFix p m c cX2_putNewDot 6 s args lw_G RX2) (hr : meth.sig.returnType = none) (hlocks : meth.locks = false) (hE : EnvOK E s) (hy1 : (∀ q : (Int32 × Mem), y1 = .inl q → ∀ (H : Heap) (locs : List Loc) (ls : Array Slot), MOK E (q.2) H → va_S (eA E) s.heap H locs → lv_has ls 6 [(0, .ref x0), (1, .int x1), (2, .int x2), (3, .int x3), (4, .int q.1)] → W p l e rm_X2_putNewDot s m args below meth c H locs 0 0 (MQ below (cQ E none M') args s 0 0 (eA E)) (F0 m 13 ls [])) ∧ ∀ z, y1 = .inr z → z = M') (h : fj_X2_putNewDot_52 x0 x1 x2 x3 x4 x5 s0 s1 s2 M = some y1) (hM : MOK E M H) (hS : va_S (eA E) s.heap H locs) (hl : lv_has ls 6 [(0, .ref x0), (1, .int x1), (2, .int x2), (3, .int x3), (4, .int x4), (5, .int x5)]) : W p l e rm_X2_putNewDot s m args below meth c H locs 0 0 (MQ below (cQ E none M') args s 0 0 (eA E)) (F0 m 52 ls [.int s2, .int s1, .ref s0]) := by
  obtain ⟨hx, hb, hml, hown, hts⟩ := id hC
  unfold fj_X2_putNewDot_52 at h
  refine lv_iload hx hb dX2_putNewDot_52 (lv_at hl 5 rfl) ?_
  refine lv_if_eq (tgt := 61) hx hb dX2_putNewDot_54 (by decide) (fun c1 => ?_) (fun c1 => ?_)
  · have h := ifp c1 h
    refine lv_iconst (v := 0) hx hb dX2_putNewDot_61 (by decide) ?_
    refine W.widen (k := 0) (n := 0) (Nat.le_of_ble_eq_true rfl) (Nat.le_of_ble_eq_true rfl) ?_
    exact tj_X2_putNewDot_62  hC hr hlocks hE hy1  h hM hS (lv_sub hl [0, 1, 2, 3, 4] rfl)
  · have h := ifn c1 h
    refine lv_iload_n hx hb dX2_putNewDot_57 rfl (lv_at hl 3 rfl) ?_
    refine lv_goto (tgt := 62) hx hb dX2_putNewDot_58 (by decide) ?_
    refine W.widen (k := 0) (n := 0) (Nat.le_of_ble_eq_true rfl) (Nat.le_of_ble_eq_true rfl) ?_
    exact tj_X2_putNewDot_62  hC hr hlocks hE hy1  h hM hS (lv_sub hl [0, 1, 2, 3, 4] rfl)
noncomputable def fj_X2_putNewDot_30 (x0 : Nat) (x1 : Int32) (x2 : Int32) (x3 : Int32) (x4 : Int32) (s0 : Int32) (M : Mem) : Option ((Int32 × Mem) ⊕ Mem) :=
  (if s0 = 0 then
  fj_X2_putNewDot_52 x0 x1 x2 x3 x4 s0 x0 (x1 + x4) 0 M
  else
  (gRn 3 64 x0 M).bind fun v6 =>
  (gA 9 v6 x2 M).bind fun v7 =>
  fj_X2_putNewDot_52 x0 x1 x2 x3 x4 s0 x0 (x1 + x4) v7 M)
set_option maxHeartbeats 4000000 in
set_option maxRecDepth 100000 in
theorem tj_X2_putNewDot_30 {p : Program} {l : Launch} {e : Env} {s : State} {m : MethodId} {args : Array Value} {below : List Frame} {meth : Method} {c : Code} {E : KEnv} {H : Heap} {locs : List Loc} {ls : Array Slot} {x0 : Nat} {x1 : Int32} {x2 : Int32} {x3 : Int32} {x4 : Int32} {s0 : Int32} {y1 : ((Int32 × Mem) ⊕ Mem)} {M : Mem} {M' : Mem} (hC : CallFix p m c cX2_putNewDot 6 s args lw_G RX2) (hr : meth.sig.returnType = none) (hlocks : meth.locks = false) (hE : EnvOK E s) (hy1 : (∀ q : (Int32 × Mem), y1 = .inl q → ∀ (H : Heap) (locs : List Loc) (ls : Array Slot), MOK E (q.2) H → va_S (eA E) s.heap H locs → lv_has ls 6 [(0, .ref x0), (1, .int x1), (2, .int x2), (3, .int x3), (4, .int q.1)] → W p l e rm_X2_putNewDot s m args below meth c H locs 0 0 (MQ below (cQ E none M') args s 0 0 (eA E)) (F0 m 13 ls [])) ∧ ∀ z, y1 = .inr z → z = M') (h : fj_X2_putNewDot_30 x0 x1 x2 x3 x4 s0 M = some y1) (hM : MOK E M H) (hS : va_S (eA E) s.heap H locs) (hl : lv_has ls 6 [(0, .ref x0), (1, .int x1), (2, .int x2), (3, .int x3), (4, .int x4)]) : W p l e rm_X2_putNewDot s m args below meth c H locs 0 0 (MQ below (cQ E none M') args s 0 0 (eA E)) (F0 m 30 ls [.int s0]) := by
  obtain ⟨hx, hb, hml, hown, hts⟩ := id hC
  unfold fj_X2_putNewDot_30 at h
  refine lv_istore (lv' := [(5, .int s0), (0, .ref x0), (1, .int x1), (2, .int x2), (3, .int x3), (4, .int x4)]) hx hb dX2_putNewDot_30 hl (by decide) rfl (fun ls hl => ?_)
  refine lv_aload_n hx hb dX2_putNewDot_32 rfl (lv_at hl 1 rfl) ?_
  refine lv_iload_n hx hb dX2_putNewDot_33 rfl (lv_at hl 2 rfl) ?_
  refine lv_iload hx hb dX2_putNewDot_34 (lv_at hl 5 rfl) ?_
  refine lv_iadd hx hb dX2_putNewDot_36 ?_
  refine lv_iload hx hb dX2_putNewDot_37 (lv_at hl 0 rfl) ?_
  refine lv_if_eq (tgt := 51) hx hb dX2_putNewDot_39 (by decide) (fun c1 => ?_) (fun c1 => ?_)
  · have h := ifp c1 h
    refine lv_iconst (v := 0) hx hb dX2_putNewDot_51 (by decide) ?_
    refine W.widen (k := 0) (n := 0) (Nat.le_of_ble_eq_true rfl) (Nat.le_of_ble_eq_true rfl) ?_
    exact tj_X2_putNewDot_52  hC hr hlocks hE hy1  h hM hS (lv_sub hl [1, 2, 3, 4, 5, 0] rfl)
  · have h := ifn c1 h
    refine lv_aload_n hx hb dX2_putNewDot_42 rfl (lv_at hl 1 rfl) ?_
    obtain ⟨v6, h1, h⟩ := ob h
    refine rgn_2_0 hx hb hts hown hE hM qw_82 h1 dX2_putNewDot_43 ?_
    refine lv_iload_n hx hb dX2_putNewDot_46 rfl (lv_at hl 3 rfl) ?_
    obtain ⟨v7, h1, h⟩ := ob h
    refine r_iald hx hb hE hM h1 dX2_putNewDot_47 ?_
    refine lv_goto (tgt := 52) hx hb dX2_putNewDot_48 (by decide) ?_
    refine W.widen (k := 0) (n := 0) (Nat.le_of_ble_eq_true rfl) (Nat.le_of_ble_eq_true rfl) ?_
    exact tj_X2_putNewDot_52  hC hr hlocks hE hy1  h hM hS (lv_sub hl [1, 2, 3, 4, 5, 0] rfl)
noncomputable def fc_X2_putNewDot_13 (x0 : Nat) (x1 : Int32) (x2 : Int32) (x3 : Int32) (x4 : Int32) (M : Mem) : Option ((Int32 × Mem) ⊕ Mem) :=
  (if (4 : Int32) ≤ x4 then
  some (.inr (M))
  else
  (if x4 = x2 then
  fj_X2_putNewDot_30 x0 x1 x2 x3 x4 1 M
  else
  fj_X2_putNewDot_30 x0 x1 x2 x3 x4 0 M))
noncomputable def fj_X2_putNewDot_13 (x0 : Nat) (x1 : Int32) (x2 : Int32) (x3 : Int32) (x4 : Int32) (M : Mem) : Option Mem := loopM (fun q : (Int32 × Mem) => fc_X2_putNewDot_13 x0 x1 x2 x3 q.1 q.2) FU (x4, M)
set_option maxHeartbeats 4000000 in
set_option maxRecDepth 100000 in
theorem tj_X2_putNewDot_13 {p : Program} {l : Launch} {e : Env} {s : State} {m : MethodId} {args : Array Value} {below : List Frame} {meth : Method} {c : Code} {E : KEnv} {H : Heap} {locs : List Loc} {ls : Array Slot} {x0 : Nat} {x1 : Int32} {x2 : Int32} {x3 : Int32} {x4 : Int32} {M : Mem} {M' : Mem} (hC : CallFix p m c cX2_putNewDot 6 s args lw_G RX2) (hr : meth.sig.returnType = none) (hlocks : meth.locks = false) (hE : EnvOK E s) (h : fj_X2_putNewDot_13 x0 x1 x2 x3 x4 M = some M') (hM : MOK E M H) (hS : va_S (eA E) s.heap H locs) (hl : lv_has ls 6 [(0, .ref x0), (1, .int x1), (2, .int x2), (3, .int x3), (4, .int x4)]) : W p l e rm_X2_putNewDot s m args below meth c H locs 0 0 (MQ below (cQ E none M') args s 0 0 (eA E)) (F0 m 13 ls []) := by
  refine loopM_ind (body := fun q : (Int32 × Mem) => fc_X2_putNewDot_13 x0 x1 x2 x3 q.1 q.2) (x0 := M') (Wd := fun q : (Int32 × Mem) => ∀ (H : Heap) (locs : List Loc) (ls : Array Slot), MOK E (q.2) H → va_S (eA E) s.heap H locs → lv_has ls 6 [(0, .ref x0), (1, .int x1), (2, .int x2), (3, .int x3), (4, .int q.1)] → W p l e rm_X2_putNewDot s m args below meth c H locs 0 0 (MQ below (cQ E none M') args s 0 0 (eA E)) (F0 m 13 ls [])) ?_ FU (x4, M) h H locs ls hM hS hl
  clear h hM hS hl H locs ls M x4
  obtain ⟨hx, hb, hml, hown, hts⟩ := id hC
  intro q y1 h hy1 H locs ls hM hS hl
  obtain ⟨x4, M⟩ := q
  have h : fc_X2_putNewDot_13 x0 x1 x2 x3 x4 M = some y1 := h
  have hM : MOK E M H := hM
  have hl : lv_has ls 6 [(0, .ref x0), (1, .int x1), (2, .int x2), (3, .int x3), (4, .int x4)] := hl
  unfold fc_X2_putNewDot_13 at h
  show W p l e rm_X2_putNewDot s m args below meth c H locs _ _ _ _
  refine lv_iload hx hb dX2_putNewDot_13 (lv_at hl 4 rfl) ?_
  refine lv_iconst (v := 4) hx hb dX2_putNewDot_15 (by decide) ?_
  refine lv_icmp_ge (tgt := 71) hx hb dX2_putNewDot_16 (by decide) (fun c1 => ?_) (fun c1 => ?_)
  · have h := ifp c1 h
    cases h
    cases (hy1.2 _ rfl)
    exact eV_ hx hb hr hlocks hM hS dX2_putNewDot_71 (Nat.le_of_ble_eq_true rfl) (Nat.le_of_ble_eq_true rfl)
  · have h := ifn c1 h
    refine lv_iload hx hb dX2_putNewDot_19 (lv_at hl 4 rfl) ?_
    refine lv_iload_n hx hb dX2_putNewDot_21 rfl (lv_at hl 2 rfl) ?_
    refine lv_icmp_ne (tgt := 29) hx hb dX2_putNewDot_22 (by decide) (fun c1 => ?_) (fun c1 => ?_)
    · have h := ifn c1 h
      refine lv_iconst (v := 0) hx hb dX2_putNewDot_29 (by decide) ?_
      refine W.widen (k := 0) (n := 0) (Nat.le_of_ble_eq_true rfl) (Nat.le_of_ble_eq_true rfl) ?_
      exact tj_X2_putNewDot_30  hC hr hlocks hE hy1  h hM hS (lv_sub hl [0, 1, 2, 3, 4] rfl)
    · have h := ifp c1 h
      refine lv_iconst (v := 1) hx hb dX2_putNewDot_25 (by decide) ?_
      refine lv_goto (tgt := 30) hx hb dX2_putNewDot_26 (by decide) ?_
      refine W.widen (k := 0) (n := 0) (Nat.le_of_ble_eq_true rfl) (Nat.le_of_ble_eq_true rfl) ?_
      exact tj_X2_putNewDot_30  hC hr hlocks hE hy1  h hM hS (lv_sub hl [0, 1, 2, 3, 4] rfl)
noncomputable def f_X2_putNewDot (this : Nat) (a1 : Int32) (a2 : Int32) (a3 : Int32) (M : Mem) : Option Mem :=
  (gRn 3 64 this M).bind fun v1 =>
  (gA 9 v1 a2 M).bind fun v2 =>
  (sA 9 v1 a2 (v2 + 1) M).bind fun M3 =>
  fj_X2_putNewDot_13 this a1 a2 a3 0 M3
set_option maxHeartbeats 4000000 in
set_option maxRecDepth 100000 in
theorem mt_X2_putNewDot (l : Launch) (E : KEnv) (this : Nat) (a1 : Int32) (a2 : Int32) (a3 : Int32) (M M' : Mem) (h : f_X2_putNewDot this a1 a2 a3 M = some M') : Met l yX2_putNewDot (Cond.code yX2_putNewDot cX2_putNewDot 6 none :: lw_G) rm_X2_putNewDot (cPc E [.ref this, .int a1, .int a2, .int a3] M) (cQ E none M') 0 0 (eA E) := by
  refine Met.ofW (cc := cX2_putNewDot) (maxL := 6) (ret := none) (by decide) rfl ?_
  intro p e s m args below meth c s₁ B hml hv
  obtain ⟨rfl, hE, hM⟩ := hv
  have hx := B.exec
  have hb := B.bytes
  have hr := B.returns
  have hts0 := atoms_spec (ws := Cond.code yX2_putNewDot cX2_putNewDot 6 none :: lw_G) B.pre
  have hts : ∀ w ∈ lw_G, w.before _ s = true := fun w hw => hts0 w (List.mem_cons_of_mem _ hw)
  have hown : s.vm.findClass RX2 = some m.cls := findClass_of_methodNamed B.named
  have hlocks := B.notSynchronized
  have hC : CallFix p m c cX2_putNewDot 6 s _ lw_G RX2 := ⟨hx, hb, hml, hown, hts⟩
  have hS : va_S (eA E) s.heap s.heap [] := va_S.rf
  have hl := lv_entry ([.ref this, .int a1, .int a2, .int a3]) (n := 6) (Nat.le_of_ble_eq_true rfl)
  rw [lg_entry_eq]
  generalize (lg_sl ([.ref this, .int a1, .int a2, .int a3]) ++ List.replicate (6 - (lg_sl ([.ref this, .int a1, .int a2, .int a3])).length) Slot.unset).toArray = ls at hl ⊢
  have hl : lv_has ls 6 [(0, .ref this), (1, .int a1), (2, .int a2), (3, .int a3)] := hl
  unfold f_X2_putNewDot at h
  show W p l e rm_X2_putNewDot s m _ below meth c s.heap [] 0 0 _ _
  refine lv_aload_n hx hb dX2_putNewDot_0 rfl (lv_at hl 0 rfl) ?_
  obtain ⟨v1, h1, h⟩ := ob h
  refine rgn_2_0 hx hb hts hown hE hM qw_82 h1 dX2_putNewDot_1 ?_
  refine lv_iload_n hx hb dX2_putNewDot_4 rfl (lv_at hl 2 rfl) ?_
  refine lv_dup2_11 hx hb dX2_putNewDot_5 rfl rfl ?_
  obtain ⟨v2, h1, h⟩ := ob h
  refine r_iald hx hb hE hM h1 dX2_putNewDot_6 ?_
  refine lv_iconst (v := 1) hx hb dX2_putNewDot_7 (by decide) ?_
  refine lv_iadd hx hb dX2_putNewDot_8 ?_
  obtain ⟨M3, h1, h⟩ := ob h
  refine r_iast hx hb hE hM hS h1 dX2_putNewDot_9 (fun H locs hM hS => ?_)
  refine lv_iconst (v := 0) hx hb dX2_putNewDot_10 (by decide) ?_
  refine lv_istore (lv' := [(4, .int 0), (0, .ref this), (1, .int a1), (2, .int a2), (3, .int a3)]) hx hb dX2_putNewDot_11 hl (by decide) rfl (fun ls hl => ?_)
  refine W.widen (k := 0) (n := 0) (Nat.le_of_ble_eq_true rfl) (Nat.le_of_ble_eq_true rfl) ?_
  exact tj_X2_putNewDot_13  hC hr hlocks hE  h hM hS (lv_sub hl [1, 2, 3, 4, 0] rfl)

theorem dd_X2_putTag : yX2_putTag.cls = RX2 ∧ yX2_putTag.cls ≠ "java/lang/invoke/MethodHandle" ∧ yX2_putTag.cls ≠ "java/lang/invoke/VarHandle" ∧ (parseMethodDescriptor yX2_putTag.desc).map (fun d => d.parameters.length) = some 2 := by decide +kernel
abbrev rm_X2_putTag : Room := ({ frames := 2, cells := 0, slots := 0, locals := 48 } : Room)
noncomputable def f_X2_putTag (this : Nat) (a1 : Int32) (a2 : Int32) (M : Mem) : Option Mem :=
  (cK 3 this M (f_X2_putNewDot this (36 + (a2 * 4)) a1 0 M)).bind fun M2 =>
  some M2
set_option maxHeartbeats 4000000 in
set_option maxRecDepth 100000 in
theorem mt_X2_putTag (l : Launch) (E : KEnv) (this : Nat) (a1 : Int32) (a2 : Int32) (M M' : Mem) (h : f_X2_putTag this a1 a2 M = some M') : Met l yX2_putTag (Cond.code yX2_putTag cX2_putTag 3 none :: lw_G) rm_X2_putTag (cPc E [.ref this, .int a1, .int a2] M) (cQ E none M') 0 0 (eA E) := by
  refine Met.ofW (cc := cX2_putTag) (maxL := 3) (ret := none) (by decide) rfl ?_
  intro p e s m args below meth c s₁ B hml hv
  obtain ⟨rfl, hE, hM⟩ := hv
  have hx := B.exec
  have hb := B.bytes
  have hr := B.returns
  have hts0 := atoms_spec (ws := Cond.code yX2_putTag cX2_putTag 3 none :: lw_G) B.pre
  have hts : ∀ w ∈ lw_G, w.before _ s = true := fun w hw => hts0 w (List.mem_cons_of_mem _ hw)
  have hown : s.vm.findClass RX2 = some m.cls := findClass_of_methodNamed B.named
  have hlocks := B.notSynchronized
  have hC : CallFix p m c cX2_putTag 3 s _ lw_G RX2 := ⟨hx, hb, hml, hown, hts⟩
  have hS : va_S (eA E) s.heap s.heap [] := va_S.rf
  have hl := lv_entry ([.ref this, .int a1, .int a2]) (n := 3) (Nat.le_of_ble_eq_true rfl)
  rw [lg_entry_eq]
  generalize (lg_sl ([.ref this, .int a1, .int a2]) ++ List.replicate (3 - (lg_sl ([.ref this, .int a1, .int a2])).length) Slot.unset).toArray = ls at hl ⊢
  have hl : lv_has ls 3 [(0, .ref this), (1, .int a1), (2, .int a2)] := hl
  unfold f_X2_putTag at h
  show W p l e rm_X2_putTag s m _ below meth c s.heap [] 0 0 _ _
  refine lv_aload_n hx hb dX2_putTag_0 rfl (lv_at hl 0 rfl) ?_
  refine lv_bipush (v := 36) hx hb dX2_putTag_1 (by decide) ?_
  refine lv_iload_n hx hb dX2_putTag_3 rfl (lv_at hl 2 rfl) ?_
  refine lv_iconst (v := 4) hx hb dX2_putTag_4 (by decide) ?_
  refine lv_imul hx hb dX2_putTag_5 ?_
  refine lv_iadd hx hb dX2_putTag_6 ?_
  refine lv_iload_n hx hb dX2_putTag_7 rfl (lv_at hl 1 rfl) ?_
  refine lv_iconst (v := 0) hx hb dX2_putTag_8 (by decide) ?_
  obtain ⟨M2, h1, h⟩ := ob h
  obtain ⟨hk1, h1⟩ := ifg h1
  refine kV0 (ci := 2) (As := [.int (36 + (a2 * 4)), .int a1, .int 0]) (rest := []) hC hE hS hM (mt_X2_putNewDot _ E this (36 + (a2 * 4)) a1 0 _ _ h1) (gwV qw_327 qw_329 qw_11 qw_41 qw_330) ⟨rfl, rfl, (Nat.le_of_ble_eq_true rfl), (Nat.le_of_ble_eq_true rfl)⟩ dd_X2_putNewDot rfl hk1 rfl rfl hl.1 (Nat.le_of_ble_eq_true rfl) dX2_putTag_9 ⟨(Nat.le_of_ble_eq_true rfl), (Nat.le_of_ble_eq_true rfl)⟩ (fun H locs hM hS => ?_)
  cases h
  exact eV_ hx hb hr hlocks hM hS dX2_putTag_12 (Nat.le_of_ble_eq_true rfl) (Nat.le_of_ble_eq_true rfl)

theorem dd_X2_clearTag : yX2_clearTag.cls = RX2 ∧ yX2_clearTag.cls ≠ "java/lang/invoke/MethodHandle" ∧ yX2_clearTag.cls ≠ "java/lang/invoke/VarHandle" ∧ (parseMethodDescriptor yX2_clearTag.desc).map (fun d => d.parameters.length) = some 1 := by decide +kernel
abbrev rm_X2_clearTag : Room := ({ frames := 1, cells := 0, slots := 0, locals := 23 } : Room)
noncomputable def fc_X2_clearTag_2 (x0 : Nat) (x1 : Int32) (x2 : Int32) (M : Mem) : Option ((Int32 × Mem) ⊕ Mem) :=
  (if (4 : Int32) ≤ x2 then
  some (.inr (M))
  else
  (cK 3 x0 M (f_X2_setDot x0 ((36 + (x1 * 4)) + x2) 0 0 M)).bind fun M2 =>
  some (.inl (x2 + 1, M2)))
noncomputable def fj_X2_clearTag_2 (x0 : Nat) (x1 : Int32) (x2 : Int32) (M : Mem) : Option Mem := loopM (fun q : (Int32 × Mem) => fc_X2_clearTag_2 x0 x1 q.1 q.2) FU (x2, M)
set_option maxHeartbeats 4000000 in
set_option maxRecDepth 100000 in
theorem tj_X2_clearTag_2 {p : Program} {l : Launch} {e : Env} {s : State} {m : MethodId} {args : Array Value} {below : List Frame} {meth : Method} {c : Code} {E : KEnv} {H : Heap} {locs : List Loc} {ls : Array Slot} {x0 : Nat} {x1 : Int32} {x2 : Int32} {M : Mem} {M' : Mem} (hC : CallFix p m c cX2_clearTag 3 s args lw_G RX2) (hr : meth.sig.returnType = none) (hlocks : meth.locks = false) (hE : EnvOK E s) (h : fj_X2_clearTag_2 x0 x1 x2 M = some M') (hM : MOK E M H) (hS : va_S (eA E) s.heap H locs) (hl : lv_has ls 3 [(0, .ref x0), (1, .int x1), (2, .int x2)]) : W p l e rm_X2_clearTag s m args below meth c H locs 0 0 (MQ below (cQ E none M') args s 0 0 (eA E)) (F0 m 2 ls []) := by
  refine loopM_ind (body := fun q : (Int32 × Mem) => fc_X2_clearTag_2 x0 x1 q.1 q.2) (x0 := M') (Wd := fun q : (Int32 × Mem) => ∀ (H : Heap) (locs : List Loc) (ls : Array Slot), MOK E (q.2) H → va_S (eA E) s.heap H locs → lv_has ls 3 [(0, .ref x0), (1, .int x1), (2, .int q.1)] → W p l e rm_X2_clearTag s m args below meth c H locs 0 0 (MQ below (cQ E none M') args s 0 0 (eA E)) (F0 m 2 ls [])) ?_ FU (x2, M) h H locs ls hM hS hl
  clear h hM hS hl H locs ls M x2
  obtain ⟨hx, hb, hml, hown, hts⟩ := id hC
  intro q y1 h hy1 H locs ls hM hS hl
  obtain ⟨x2, M⟩ := q
  have h : fc_X2_clearTag_2 x0 x1 x2 M = some y1 := h
  have hM : MOK E M H := hM
  have hl : lv_has ls 3 [(0, .ref x0), (1, .int x1), (2, .int x2)] := hl
  unfold fc_X2_clearTag_2 at h
  show W p l e rm_X2_clearTag s m args below meth c H locs _ _ _ _
  refine lv_iload_n hx hb dX2_clearTag_2 rfl (lv_at hl 2 rfl) ?_
  refine lv_iconst (v := 4) hx hb dX2_clearTag_3 (by decide) ?_
  refine lv_icmp_ge (tgt := 27) hx hb dX2_clearTag_4 (by decide) (fun c1 => ?_) (fun c1 => ?_)
  · have h := ifp c1 h
    cases h
    cases (hy1.2 _ rfl)
    exact eV_ hx hb hr hlocks hM hS dX2_clearTag_27 (Nat.le_of_ble_eq_true rfl) (Nat.le_of_ble_eq_true rfl)
  · have h := ifn c1 h
    refine lv_aload_n hx hb dX2_clearTag_7 rfl (lv_at hl 0 rfl) ?_
    refine lv_bipush (v := 36) hx hb dX2_clearTag_8 (by decide) ?_
    refine lv_iload_n hx hb dX2_clearTag_10 rfl (lv_at hl 1 rfl) ?_
    refine lv_iconst (v := 4) hx hb dX2_clearTag_11 (by decide) ?_
    refine lv_imul hx hb dX2_clearTag_12 ?_
    refine lv_iadd hx hb dX2_clearTag_13 ?_
    refine lv_iload_n hx hb dX2_clearTag_14 rfl (lv_at hl 2 rfl) ?_
    refine lv_iadd hx hb dX2_clearTag_15 ?_
    refine lv_iconst (v := 0) hx hb dX2_clearTag_16 (by decide) ?_
    refine lv_iconst (v := 0) hx hb dX2_clearTag_17 (by decide) ?_
    obtain ⟨M2, h1, h⟩ := ob h
    obtain ⟨hk1, h1⟩ := ifg h1
    refine kV0 (ci := 2) (As := [.int ((36 + (x1 * 4)) + x2), .int 0, .int 0]) (rest := []) hC hE hS hM (mt_X2_setDot _ E x0 ((36 + (x1 * 4)) + x2) 0 0 _ _ h1) (gwV qw_331 qw_333 qw_12 qw_41 qw_334) ⟨rfl, rfl, (Nat.le_of_ble_eq_true rfl), (Nat.le_of_ble_eq_true rfl)⟩ dd_X2_setDot rfl hk1 rfl rfl hl.1 (Nat.le_of_ble_eq_true rfl) dX2_clearTag_18 ⟨(Nat.le_of_ble_eq_true rfl), (Nat.le_of_ble_eq_true rfl)⟩ (fun H locs hM hS => ?_)
    refine lv_iinc (v := x2 + 1) (lv' := [(2, .int (x2 + 1)), (0, .ref x0), (1, .int x1)]) hx hb dX2_clearTag_21 hl (k := 2) rfl rfl (by decide) rfl (fun ls hl => ?_)
    refine lv_goto (tgt := 2) hx hb dX2_clearTag_24 (by decide) ?_
    cases h
    exact hy1.1 _ rfl _ _ _ hM hS (lv_sub hl [1, 2, 0] rfl)
noncomputable def f_X2_clearTag (this : Nat) (a1 : Int32) (M : Mem) : Option Mem :=
  fj_X2_clearTag_2 this a1 0 M
set_option maxHeartbeats 4000000 in
set_option maxRecDepth 100000 in
theorem mt_X2_clearTag (l : Launch) (E : KEnv) (this : Nat) (a1 : Int32) (M M' : Mem) (h : f_X2_clearTag this a1 M = some M') : Met l yX2_clearTag (Cond.code yX2_clearTag cX2_clearTag 3 none :: lw_G) rm_X2_clearTag (cPc E [.ref this, .int a1] M) (cQ E none M') 0 0 (eA E) := by
  refine Met.ofW (cc := cX2_clearTag) (maxL := 3) (ret := none) (by decide) rfl ?_
  intro p e s m args below meth c s₁ B hml hv
  obtain ⟨rfl, hE, hM⟩ := hv
  have hx := B.exec
  have hb := B.bytes
  have hr := B.returns
  have hts0 := atoms_spec (ws := Cond.code yX2_clearTag cX2_clearTag 3 none :: lw_G) B.pre
  have hts : ∀ w ∈ lw_G, w.before _ s = true := fun w hw => hts0 w (List.mem_cons_of_mem _ hw)
  have hown : s.vm.findClass RX2 = some m.cls := findClass_of_methodNamed B.named
  have hlocks := B.notSynchronized
  have hC : CallFix p m c cX2_clearTag 3 s _ lw_G RX2 := ⟨hx, hb, hml, hown, hts⟩
  have hS : va_S (eA E) s.heap s.heap [] := va_S.rf
  have hl := lv_entry ([.ref this, .int a1]) (n := 3) (Nat.le_of_ble_eq_true rfl)
  rw [lg_entry_eq]
  generalize (lg_sl ([.ref this, .int a1]) ++ List.replicate (3 - (lg_sl ([.ref this, .int a1])).length) Slot.unset).toArray = ls at hl ⊢
  have hl : lv_has ls 3 [(0, .ref this), (1, .int a1)] := hl
  unfold f_X2_clearTag at h
  show W p l e rm_X2_clearTag s m _ below meth c s.heap [] 0 0 _ _
  refine lv_iconst (v := 0) hx hb dX2_clearTag_0 (by decide) ?_
  refine lv_istore_n (lv' := [(2, .int 0), (0, .ref this), (1, .int a1)]) hx hb dX2_clearTag_1 rfl hl (by decide) rfl (fun ls hl => ?_)
  refine W.widen (k := 0) (n := 0) (Nat.le_of_ble_eq_true rfl) (Nat.le_of_ble_eq_true rfl) ?_
  exact tj_X2_clearTag_2  hC hr hlocks hE  h hM hS (lv_sub hl [1, 2, 0] rfl)

theorem dd_X2_putEntry : yX2_putEntry.cls = RX2 ∧ yX2_putEntry.cls ≠ "java/lang/invoke/MethodHandle" ∧ yX2_putEntry.cls ≠ "java/lang/invoke/VarHandle" ∧ (parseMethodDescriptor yX2_putEntry.desc).map (fun d => d.parameters.length) = some 3 := by decide +kernel
abbrev rm_X2_putEntry : Room := ({ frames := 2, cells := 0, slots := 0, locals := 48 } : Room)
noncomputable def f_X2_putEntry (this : Nat) (a1 : Int32) (a2 : Int32) (a3 : Int32) (M : Mem) : Option Mem :=
  (cK 3 this M (f_X2_putNewDot this (100 + (a2 * 4)) a1 a3 M)).bind fun M2 =>
  some M2
set_option maxHeartbeats 4000000 in
set_option maxRecDepth 100000 in
theorem mt_X2_putEntry (l : Launch) (E : KEnv) (this : Nat) (a1 : Int32) (a2 : Int32) (a3 : Int32) (M M' : Mem) (h : f_X2_putEntry this a1 a2 a3 M = some M') : Met l yX2_putEntry (Cond.code yX2_putEntry cX2_putEntry 4 none :: lw_G) rm_X2_putEntry (cPc E [.ref this, .int a1, .int a2, .int a3] M) (cQ E none M') 0 0 (eA E) := by
  refine Met.ofW (cc := cX2_putEntry) (maxL := 4) (ret := none) (by decide) rfl ?_
  intro p e s m args below meth c s₁ B hml hv
  obtain ⟨rfl, hE, hM⟩ := hv
  have hx := B.exec
  have hb := B.bytes
  have hr := B.returns
  have hts0 := atoms_spec (ws := Cond.code yX2_putEntry cX2_putEntry 4 none :: lw_G) B.pre
  have hts : ∀ w ∈ lw_G, w.before _ s = true := fun w hw => hts0 w (List.mem_cons_of_mem _ hw)
  have hown : s.vm.findClass RX2 = some m.cls := findClass_of_methodNamed B.named
  have hlocks := B.notSynchronized
  have hC : CallFix p m c cX2_putEntry 4 s _ lw_G RX2 := ⟨hx, hb, hml, hown, hts⟩
  have hS : va_S (eA E) s.heap s.heap [] := va_S.rf
  have hl := lv_entry ([.ref this, .int a1, .int a2, .int a3]) (n := 4) (Nat.le_of_ble_eq_true rfl)
  rw [lg_entry_eq]
  generalize (lg_sl ([.ref this, .int a1, .int a2, .int a3]) ++ List.replicate (4 - (lg_sl ([.ref this, .int a1, .int a2, .int a3])).length) Slot.unset).toArray = ls at hl ⊢
  have hl : lv_has ls 4 [(0, .ref this), (1, .int a1), (2, .int a2), (3, .int a3)] := hl
  unfold f_X2_putEntry at h
  show W p l e rm_X2_putEntry s m _ below meth c s.heap [] 0 0 _ _
  refine lv_aload_n hx hb dX2_putEntry_0 rfl (lv_at hl 0 rfl) ?_
  refine lv_bipush (v := 100) hx hb dX2_putEntry_1 (by decide) ?_
  refine lv_iload_n hx hb dX2_putEntry_3 rfl (lv_at hl 2 rfl) ?_
  refine lv_iconst (v := 4) hx hb dX2_putEntry_4 (by decide) ?_
  refine lv_imul hx hb dX2_putEntry_5 ?_
  refine lv_iadd hx hb dX2_putEntry_6 ?_
  refine lv_iload_n hx hb dX2_putEntry_7 rfl (lv_at hl 1 rfl) ?_
  refine lv_iload_n hx hb dX2_putEntry_8 rfl (lv_at hl 3 rfl) ?_
  obtain ⟨M2, h1, h⟩ := ob h
  obtain ⟨hk1, h1⟩ := ifg h1
  refine kV0 (ci := 2) (As := [.int (100 + (a2 * 4)), .int a1, .int a3]) (rest := []) hC hE hS hM (mt_X2_putNewDot _ E this (100 + (a2 * 4)) a1 a3 _ _ h1) (gwV qw_327 qw_329 qw_11 qw_41 qw_330) ⟨rfl, rfl, (Nat.le_of_ble_eq_true rfl), (Nat.le_of_ble_eq_true rfl)⟩ dd_X2_putNewDot rfl hk1 rfl rfl hl.1 (Nat.le_of_ble_eq_true rfl) dX2_putEntry_9 ⟨(Nat.le_of_ble_eq_true rfl), (Nat.le_of_ble_eq_true rfl)⟩ (fun H locs hM hS => ?_)
  cases h
  exact eV_ hx hb hr hlocks hM hS dX2_putEntry_12 (Nat.le_of_ble_eq_true rfl) (Nat.le_of_ble_eq_true rfl)
