/-! printed by wip/p56/gen2.py: methods as functions over the memory, and that the code does what they say -/
theorem dd_L_next : yL_next.cls ≠ "java/lang/invoke/MethodHandle" ∧ yL_next.cls ≠ "java/lang/invoke/VarHandle" ∧ (parseMethodDescriptor yL_next.desc).map (fun d => d.parameters.length) = some 1 := by decide +kernel
abbrev rm_L_next : Room := ({ frames := 0, cells := 0, slots := 0, locals := 0 } : Room)
noncomputable def f_L_next (a1 : Nat) (M : Mem) : Option (Int32 × Mem) :=
  (gA 9 a1 0 M).bind fun v1 =>
  (sA 9 a1 0 ((v1 * 1103515245) + 12345) M).bind fun M2 =>
  (gA 9 a1 0 M2).bind fun v3 =>
  (gA 9 a1 0 M2).bind fun v4 =>
  (sA 9 a1 0 (v3 ^^^ ((v4.toUInt32 >>> ((15 : Int32).toUInt32 &&& Int32.toUInt32 31)).toInt32)) M2).bind fun M5 =>
  (gA 9 a1 0 M5).bind fun v6 =>
  some ((v6.toUInt32 >>> ((9 : Int32).toUInt32 &&& Int32.toUInt32 31)).toInt32, M5)
set_option maxHeartbeats 4000000 in
set_option maxRecDepth 100000 in
theorem mt_L_next (l : Launch) (E : KEnv) (a1 : Nat) (M M' : Mem) (v : Int32) (h : f_L_next a1 M = some (v, M')) : Met l yL_next (Cond.code yL_next cL_next 1 (some .int) :: lw_G) rm_L_next (cPc E [.ref a1] M) (cQ E (some (.int v)) M') 0 0 (eA E) := by
  refine Met.ofW (cc := cL_next) (maxL := 1) (ret := (some .int)) (by decide) rfl ?_
  intro p e s m args below meth c s₁ B hml hv
  obtain ⟨rfl, hE, hM⟩ := hv
  have hx := B.exec
  have hb := B.bytes
  have hr := B.returns
  have hts0 := atoms_spec (ws := Cond.code yL_next cL_next 1 (some .int) :: lw_G) B.pre
  have hts : ∀ w ∈ lw_G, w.before _ s = true := fun w hw => hts0 w (List.mem_cons_of_mem _ hw)
  have hown : s.vm.findClass RL = some m.cls := findClass_of_methodNamed B.named
  have hlocks := B.notSynchronized
  have hC : CallFix p m c cL_next 1 s _ lw_G RL := ⟨hx, hb, hml, hown, hts⟩
  have hS : va_S (eA E) s.heap s.heap [] := va_S.rf
  have hl := lv_entry ([.ref a1]) (n := 1) (Nat.le_of_ble_eq_true rfl)
  rw [lg_entry_eq]
  generalize (lg_sl ([.ref a1]) ++ List.replicate (1 - (lg_sl ([.ref a1])).length) Slot.unset).toArray = ls at hl ⊢
  have hl : lv_has ls 1 [(0, .ref a1)] := hl
  unfold f_L_next at h
  show W p l e rm_L_next s m _ below meth c s.heap [] 0 0 _ _
  refine lv_aload_n hx hb dL_next_0 rfl (lv_at hl 0 rfl) ?_
  refine lv_iconst (v := 0) hx hb dL_next_1 (by decide) ?_
  refine lv_aload_n hx hb dL_next_2 rfl (lv_at hl 0 rfl) ?_
  refine lv_iconst (v := 0) hx hb dL_next_3 (by decide) ?_
  obtain ⟨v1, h1, h⟩ := ob h
  refine r_iald hx hb hE hM h1 dL_next_4 ?_
  refine lv_ldc (v := 1103515245) hx hb hown (hts _ qw_550) dL_next_5 ?_
  refine lv_imul hx hb dL_next_7 ?_
  refine lv_sipush (v := 12345) hx hb dL_next_8 (by decide) ?_
  refine lv_iadd hx hb dL_next_11 ?_
  obtain ⟨M2, h1, h⟩ := ob h
  refine r_iast hx hb hE hM hS h1 dL_next_12 (fun H locs hM hS => ?_)
  refine lv_aload_n hx hb dL_next_13 rfl (lv_at hl 0 rfl) ?_
  refine lv_iconst (v := 0) hx hb dL_next_14 (by decide) ?_
  refine lv_dup2_11 hx hb dL_next_15 rfl rfl ?_
  obtain ⟨v3, h1, h⟩ := ob h
  refine r_iald hx hb hE hM h1 dL_next_16 ?_
  refine lv_aload_n hx hb dL_next_17 rfl (lv_at hl 0 rfl) ?_
  refine lv_iconst (v := 0) hx hb dL_next_18 (by decide) ?_
  obtain ⟨v4, h1, h⟩ := ob h
  refine r_iald hx hb hE hM h1 dL_next_19 ?_
  refine lv_bipush (v := 15) hx hb dL_next_20 (by decide) ?_
  refine lv_iushr (v := (v4.toUInt32 >>> ((15 : Int32).toUInt32 &&& Int32.toUInt32 31)).toInt32) hx hb dL_next_22 rfl ?_
  refine lv_ixor hx hb dL_next_23 ?_
  obtain ⟨M5, h1, h⟩ := ob h
  refine r_iast hx hb hE hM hS h1 dL_next_24 (fun H locs hM hS => ?_)
  refine lv_aload_n hx hb dL_next_25 rfl (lv_at hl 0 rfl) ?_
  refine lv_iconst (v := 0) hx hb dL_next_26 (by decide) ?_
  obtain ⟨v6, h1, h⟩ := ob h
  refine r_iald hx hb hE hM h1 dL_next_27 ?_
  refine lv_bipush (v := 9) hx hb dL_next_28 (by decide) ?_
  refine lv_iushr (v := (v6.toUInt32 >>> ((9 : Int32).toUInt32 &&& Int32.toUInt32 31)).toInt32) hx hb dL_next_30 rfl ?_
  cases h
  exact eI hx hb hr hlocks hM hS dL_next_31 (Nat.le_of_ble_eq_true rfl) (Nat.le_of_ble_eq_true rfl)

theorem dd_L_type : yL_type.cls ≠ "java/lang/invoke/MethodHandle" ∧ yL_type.cls ≠ "java/lang/invoke/VarHandle" ∧ (parseMethodDescriptor yL_type.desc).map (fun d => d.parameters.length) = some 2 := by decide +kernel
abbrev rm_L_type : Room := ({ frames := 4, cells := 1, slots := 5, locals := 162 } : Room)
noncomputable def fj_L_type_102 (x1 : Nat) (M : Mem) : Option (Int32 × Mem) :=
  bn (cK 6 x1 M (f_J0_length_8abf5 x1 M)) fun v5 M6 =>
  some (v5, M6)
set_option maxHeartbeats 4000000 in
set_option maxRecDepth 100000 in
theorem tj_L_type_102 {p : Program} {l : Launch} {e : Env} {s : State} {m : MethodId} {args : Array Value} {below : List Frame} {meth : Method} {c : Code} {E : KEnv} {H : Heap} {locs : List Loc} {ls : Array Slot} {x1 : Nat} {M : Mem} {v : Int32} {M' : Mem} (hC : CallFix p m c cL_type 6 s args lw_G RL) (hr : meth.sig.returnType = (some .int)) (hlocks : meth.locks = false) (hE : EnvOK E s) (h : fj_L_type_102 x1 M = some (v, M')) (hM : MOK E M H) (hS : va_S (eA E) s.heap H locs) (hl : lv_has ls 6 [(1, .ref x1)]) : W p l e rm_L_type s m args below meth c H locs 1 5 (MQ below (cQ E (some (.int v)) M') args s 1 5 (eA E)) (F0 m 102 ls []) := by
  obtain ⟨hx, hb, hml, hown, hts⟩ := id hC
  unfold fj_L_type_102 at h
  refine lv_aload_n hx hb dL_type_102 rfl (lv_at hl 0 rfl) ?_
  obtain ⟨v5, M6, h1, h⟩ := ob2 h
  obtain ⟨hk1, h1⟩ := ifg h1
  refine kV1 (ci := 5) (As := []) (rest := []) hC hE hS hM (mt_J0_length_8abf5 _ E x1 _ _ _ h1) (gwV qw_559 qw_193 qw_194 qw_44 qw_195) ⟨rfl, rfl, (Nat.le_of_ble_eq_true rfl), (Nat.le_of_ble_eq_true rfl)⟩ dd_J0_length_8abf5 rfl hk1 rfl rfl hl.1 (Nat.le_of_ble_eq_true rfl) dL_type_103 ⟨(Nat.le_of_ble_eq_true rfl), (Nat.le_of_ble_eq_true rfl)⟩ (fun H locs hM hS => ?_)
  cases h
  exact eI hx hb hr hlocks hM hS dL_type_106 (Nat.le_of_ble_eq_true rfl) (Nat.le_of_ble_eq_true rfl)
noncomputable def fj_L_type_76 (x0 : Nat) (x1 : Nat) (x3 : Nat) (x4 : Int32) (M : Mem) : Option ((Int32 × Mem) ⊕ (Int32 × Mem)) :=
  (gA 9 x3 0 M).bind fun v7 =>
  (gA 9 x3 1 M).bind fun v8 =>
  (gA 9 x3 2 M).bind fun v9 =>
  (gA 9 x3 3 M).bind fun v10 =>
  (gA 9 x3 4 M).bind fun v11 =>
  bq (cK 5 x0 M (f_X4_append x0 v7 v8 v9 v10 v11 M)) fun v12 M13 =>
  some (.inl (x4 + 20, M13))
set_option maxHeartbeats 4000000 in
set_option maxRecDepth 100000 in
theorem tj_L_type_76 {p : Program} {l : Launch} {e : Env} {s : State} {m : MethodId} {args : Array Value} {below : List Frame} {meth : Method} {c : Code} {E : KEnv} {H : Heap} {locs : List Loc} {ls : Array Slot} {x0 : Nat} {x1 : Nat} {x3 : Nat} {x4 : Int32} {y1 : ((Int32 × Mem) ⊕ (Int32 × Mem))} {M : Mem} {v : Int32} {M' : Mem} (hC : CallFix p m c cL_type 6 s args lw_G RL) (hr : meth.sig.returnType = (some .int)) (hlocks : meth.locks = false) (hE : EnvOK E s) (hy1 : (∀ q : (Int32 × Mem), y1 = .inl q → ∀ (H : Heap) (locs : List Loc) (ls : Array Slot), MOK E (q.2) H → va_S (eA E) s.heap H locs → lv_has ls 6 [(0, .ref x0), (1, .ref x1), (3, .ref x3), (4, .int q.1)] → W p l e rm_L_type s m args below meth c H locs 1 5 (MQ below (cQ E (some (.int v)) M') args s 1 5 (eA E)) (F0 m 9 ls [])) ∧ ∀ z, y1 = .inr z → z = (v, M')) (h : fj_L_type_76 x0 x1 x3 x4 M = some y1) (hM : MOK E M H) (hS : va_S (eA E) s.heap H locs) (hl : lv_has ls 6 [(0, .ref x0), (1, .ref x1), (3, .ref x3), (4, .int x4)]) : W p l e rm_L_type s m args below meth c H locs 1 5 (MQ below (cQ E (some (.int v)) M') args s 1 5 (eA E)) (F0 m 76 ls []) := by
  obtain ⟨hx, hb, hml, hown, hts⟩ := id hC
  unfold fj_L_type_76 at h
  refine lv_aload_n hx hb dL_type_76 rfl (lv_at hl 0 rfl) ?_
  refine lv_aload_n hx hb dL_type_77 rfl (lv_at hl 2 rfl) ?_
  refine lv_iconst (v := 0) hx hb dL_type_78 (by decide) ?_
  obtain ⟨v7, h1, h⟩ := ob h
  refine r_iald hx hb hE hM h1 dL_type_79 ?_
  refine lv_aload_n hx hb dL_type_80 rfl (lv_at hl 2 rfl) ?_
  refine lv_iconst (v := 1) hx hb dL_type_81 (by decide) ?_
  obtain ⟨v8, h1, h⟩ := ob h
  refine r_iald hx hb hE hM h1 dL_type_82 ?_
  refine lv_aload_n hx hb dL_type_83 rfl (lv_at hl 2 rfl) ?_
  refine lv_iconst (v := 2) hx hb dL_type_84 (by decide) ?_
  obtain ⟨v9, h1, h⟩ := ob h
  refine r_iald hx hb hE hM h1 dL_type_85 ?_
  refine lv_aload_n hx hb dL_type_86 rfl (lv_at hl 2 rfl) ?_
  refine lv_iconst (v := 3) hx hb dL_type_87 (by decide) ?_
  obtain ⟨v10, h1, h⟩ := ob h
  refine r_iald hx hb hE hM h1 dL_type_88 ?_
  refine lv_aload_n hx hb dL_type_89 rfl (lv_at hl 2 rfl) ?_
  refine lv_iconst (v := 4) hx hb dL_type_90 (by decide) ?_
  obtain ⟨v11, h1, h⟩ := ob h
  refine r_iald hx hb hE hM h1 dL_type_91 ?_
  obtain ⟨v12, M13, h1, h⟩ := obq h
  obtain ⟨hk1, h1⟩ := ifg h1
  refine kV1 (ci := 4) (As := [.int v7, .int v8, .int v9, .int v10, .int v11]) (rest := []) hC hE hS hM (mq_X4_append _ E x0 v7 v8 v9 v10 v11 _ _ _ h1) (gwV qw_561 qw_562 qw_563 qw_39 qw_564) ⟨rfl, rfl, (Nat.le_of_ble_eq_true rfl), (Nat.le_of_ble_eq_true rfl)⟩ dd_X4_append rfl hk1 rfl rfl hl.1 (Nat.le_of_ble_eq_true rfl) dL_type_92 ⟨(Nat.le_of_ble_eq_true rfl), (Nat.le_of_ble_eq_true rfl)⟩ (fun H locs hM hS => ?_)
  refine lv_istore_n (lv' := [(2, .int v12), (0, .ref x0), (1, .ref x1), (3, .ref x3), (4, .int x4)]) hx hb dL_type_95 rfl hl (by decide) rfl (fun ls hl => ?_)
  refine lv_iinc (v := x4 + 20) (lv' := [(4, .int (x4 + 20)), (2, .int v12), (0, .ref x0), (1, .ref x1), (3, .ref x3)]) hx hb dL_type_96 hl (k := 4) rfl rfl (by decide) rfl (fun ls hl => ?_)
  refine lv_goto (tgt := 9) hx hb dL_type_99 (by decide) ?_
  cases h
  exact hy1.1 _ rfl _ _ _ hM hS (lv_sub hl [2, 3, 4, 0] rfl)
noncomputable def fj_L_type_68 (x0 : Nat) (x1 : Nat) (x3 : Nat) (x4 : Int32) (x5 : Int32) (s0 : Nat) (s1 : Int32) (s2 : Int32) (s3 : Int32) (M : Mem) : Option ((Int32 × Mem) ⊕ ((Int32 × Mem) ⊕ (Int32 × Mem))) :=
  (sA 9 s0 s1 (s2 ||| s3) M).bind fun M17 =>
  some (.inl (x5 + 1, M17))
set_option maxHeartbeats 4000000 in
set_option maxRecDepth 100000 in
theorem tj_L_type_68 {p : Program} {l : Launch} {e : Env} {s : State} {m : MethodId} {args : Array Value} {below : List Frame} {meth : Method} {c : Code} {E : KEnv} {H : Heap} {locs : List Loc} {ls : Array Slot} {x0 : Nat} {x1 : Nat} {x3 : Nat} {x4 : Int32} {x5 : Int32} {s0 : Nat} {s1 : Int32} {s2 : Int32} {s3 : Int32} {y1 : ((Int32 × Mem) ⊕ (Int32 × Mem))} {y2 : ((Int32 × Mem) ⊕ ((Int32 × Mem) ⊕ (Int32 × Mem)))} {M : Mem} {v : Int32} {M' : Mem} (hC : CallFix p m c cL_type 6 s args lw_G RL) (hr : meth.sig.returnType = (some .int)) (hlocks : meth.locks = false) (hE : EnvOK E s) (hy1 : (∀ q : (Int32 × Mem), y1 = .inl q → ∀ (H : Heap) (locs : List Loc) (ls : Array Slot), MOK E (q.2) H → va_S (eA E) s.heap H locs → lv_has ls 6 [(0, .ref x0), (1, .ref x1), (3, .ref x3), (4, .int q.1)] → W p l e rm_L_type s m args below meth c H locs 1 5 (MQ below (cQ E (some (.int v)) M') args s 1 5 (eA E)) (F0 m 9 ls [])) ∧ ∀ z, y1 = .inr z → z = (v, M')) (hy2 : (∀ q : (Int32 × Mem), y2 = .inl q → ∀ (H : Heap) (locs : List Loc) (ls : Array Slot), MOK E (q.2) H → va_S (eA E) s.heap H locs → lv_has ls 6 [(0, .ref x0), (1, .ref x1), (3, .ref x3), (4, .int x4), (5, .int q.1)] → W p l e rm_L_type s m args below meth c H locs 1 5 (MQ below (cQ E (some (.int v)) M') args s 1 5 (eA E)) (F0 m 21 ls [])) ∧ ∀ z, y2 = .inr z → z = y1) (h : fj_L_type_68 x0 x1 x3 x4 x5 s0 s1 s2 s3 M = some y2) (hM : MOK E M H) (hS : va_S (eA E) s.heap H locs) (hl : lv_has ls 6 [(0, .ref x0), (1, .ref x1), (3, .ref x3), (4, .int x4), (5, .int x5)]) : W p l e rm_L_type s m args below meth c H locs 1 5 (MQ below (cQ E (some (.int v)) M') args s 1 5 (eA E)) (F0 m 68 ls [.int s3, .int s2, .int s1, .ref s0]) := by
  obtain ⟨hx, hb, hml, hown, hts⟩ := id hC
  unfold fj_L_type_68 at h
  refine lv_ior hx hb dL_type_68 ?_
  obtain ⟨M17, h1, h⟩ := ob h
  refine r_iast hx hb hE hM hS h1 dL_type_69 (fun H locs hM hS => ?_)
  refine lv_iinc (v := x5 + 1) (lv' := [(5, .int (x5 + 1)), (0, .ref x0), (1, .ref x1), (3, .ref x3), (4, .int x4)]) hx hb dL_type_70 hl (k := 4) rfl rfl (by decide) rfl (fun ls hl => ?_)
  refine lv_goto (tgt := 21) hx hb dL_type_73 (by decide) ?_
  cases h
  exact hy2.1 _ rfl _ _ _ hM hS (lv_sub hl [1, 2, 3, 4, 0] rfl)
noncomputable def fc_L_type_21 (x0 : Nat) (x1 : Nat) (x3 : Nat) (x4 : Int32) (x5 : Int32) (M : Mem) : Option ((Int32 × Mem) ⊕ ((Int32 × Mem) ⊕ (Int32 × Mem))) :=
  (if (20 : Int32) ≤ x5 then
  (fj_L_type_76 x0 x1 x3 x4 M).map Sum.inr
  else
  (gA 9 x3 (x5 / 4) M).bind fun v14 =>
  bn (cK 6 x1 M (f_J0_length_8abf5 x1 M)) fun v15 M16 =>
  (if v15 ≤ (x4 + x5) then
  fj_L_type_68 x0 x1 x3 x4 x5 x3 (x5 / 4) (v14 <<< (8 &&& 31)) 32 M16
  else
  bn (cK 6 x1 M16 (f_J0_charAt_5068e x1 (x4 + x5) M16)) fun v18 M19 =>
  fj_L_type_68 x0 x1 x3 x4 x5 x3 (x5 / 4) (v14 <<< (8 &&& 31)) v18 M19))
noncomputable def fj_L_type_21 (x0 : Nat) (x1 : Nat) (x3 : Nat) (x4 : Int32) (x5 : Int32) (M : Mem) : Option ((Int32 × Mem) ⊕ (Int32 × Mem)) := loopM (fun q : (Int32 × Mem) => fc_L_type_21 x0 x1 x3 x4 q.1 q.2) FU (x5, M)
set_option maxHeartbeats 4000000 in
set_option maxRecDepth 100000 in
theorem tj_L_type_21 {p : Program} {l : Launch} {e : Env} {s : State} {m : MethodId} {args : Array Value} {below : List Frame} {meth : Method} {c : Code} {E : KEnv} {H : Heap} {locs : List Loc} {ls : Array Slot} {x0 : Nat} {x1 : Nat} {x3 : Nat} {x4 : Int32} {x5 : Int32} {y1 : ((Int32 × Mem) ⊕ (Int32 × Mem))} {M : Mem} {v : Int32} {M' : Mem} (hC : CallFix p m c cL_type 6 s args lw_G RL) (hr : meth.sig.returnType = (some .int)) (hlocks : meth.locks = false) (hE : EnvOK E s) (hy1 : (∀ q : (Int32 × Mem), y1 = .inl q → ∀ (H : Heap) (locs : List Loc) (ls : Array Slot), MOK E (q.2) H → va_S (eA E) s.heap H locs → lv_has ls 6 [(0, .ref x0), (1, .ref x1), (3, .ref x3), (4, .int q.1)] → W p l e rm_L_type s m args below meth c H locs 1 5 (MQ below (cQ E (some (.int v)) M') args s 1 5 (eA E)) (F0 m 9 ls [])) ∧ ∀ z, y1 = .inr z → z = (v, M')) (h : fj_L_type_21 x0 x1 x3 x4 x5 M = some y1) (hM : MOK E M H) (hS : va_S (eA E) s.heap H locs) (hl : lv_has ls 6 [(0, .ref x0), (1, .ref x1), (3, .ref x3), (4, .int x4), (5, .int x5)]) : W p l e rm_L_type s m args below meth c H locs 1 5 (MQ below (cQ E (some (.int v)) M') args s 1 5 (eA E)) (F0 m 21 ls []) := by
  refine loopM_ind (body := fun q : (Int32 × Mem) => fc_L_type_21 x0 x1 x3 x4 q.1 q.2) (x0 := y1) (Wd := fun q : (Int32 × Mem) => ∀ (H : Heap) (locs : List Loc) (ls : Array Slot), MOK E (q.2) H → va_S (eA E) s.heap H locs → lv_has ls 6 [(0, .ref x0), (1, .ref x1), (3, .ref x3), (4, .int x4), (5, .int q.1)] → W p l e rm_L_type s m args below meth c H locs 1 5 (MQ below (cQ E (some (.int v)) M') args s 1 5 (eA E)) (F0 m 21 ls [])) ?_ FU (x5, M) h H locs ls hM hS hl
  clear h hM hS hl H locs ls M x5
  obtain ⟨hx, hb, hml, hown, hts⟩ := id hC
  intro q y2 h hy2 H locs ls hM hS hl
  obtain ⟨x5, M⟩ := q
  have h : fc_L_type_21 x0 x1 x3 x4 x5 M = some y2 := h
  have hM : MOK E M H := hM
  have hl : lv_has ls 6 [(0, .ref x0), (1, .ref x1), (3, .ref x3), (4, .int x4), (5, .int x5)] := hl
  unfold fc_L_type_21 at h
  show W p l e rm_L_type s m args below meth c H locs _ _ _ _
  refine lv_iload hx hb dL_type_21 (lv_at hl 4 rfl) ?_
  refine lv_bipush (v := 20) hx hb dL_type_23 (by decide) ?_
  refine lv_icmp_ge (tgt := 76) hx hb dL_type_25 (by decide) (fun c1 => ?_) (fun c1 => ?_)
  · have h := ifp c1 h
    obtain ⟨z0, h9, rfl⟩ := om h
    have e0 := hy2.2 _ rfl
    subst e0
    have h := h9
    refine W.widen (k := 1) (n := 5) (Nat.le_of_ble_eq_true rfl) (Nat.le_of_ble_eq_true rfl) ?_
    exact tj_L_type_76  hC hr hlocks hE hy1  h hM hS (lv_sub hl [0, 1, 2, 3] rfl)
  · have h := ifn c1 h
    refine lv_aload_n hx hb dL_type_28 rfl (lv_at hl 2 rfl) ?_
    refine lv_iload hx hb dL_type_29 (lv_at hl 4 rfl) ?_
    refine lv_iconst (v := 4) hx hb dL_type_31 (by decide) ?_
    refine lv_idiv hx hb dL_type_32 (by decide) ?_
    refine lv_aload_n hx hb dL_type_33 rfl (lv_at hl 2 rfl) ?_
    refine lv_iload hx hb dL_type_34 (lv_at hl 4 rfl) ?_
    refine lv_iconst (v := 4) hx hb dL_type_36 (by decide) ?_
    refine lv_idiv hx hb dL_type_37 (by decide) ?_
    obtain ⟨v14, h1, h⟩ := ob h
    refine r_iald hx hb hE hM h1 dL_type_38 ?_
    refine lv_bipush (v := 8) hx hb dL_type_39 (by decide) ?_
    refine lv_ishl hx hb dL_type_41 ?_
    refine lv_iload hx hb dL_type_42 (lv_at hl 3 rfl) ?_
    refine lv_iload hx hb dL_type_44 (lv_at hl 4 rfl) ?_
    refine lv_iadd hx hb dL_type_46 ?_
    refine lv_aload_n hx hb dL_type_47 rfl (lv_at hl 1 rfl) ?_
    obtain ⟨v15, M16, h1, h⟩ := ob2 h
    obtain ⟨hk1, h1⟩ := ifg h1
    refine kV1 (ci := 5) (As := []) (rest := [.int (x4 + x5), .int (v14 <<< (8 &&& 31)), .int (x5 / 4), .ref x3]) hC hE hS hM (mt_J0_length_8abf5 _ E x1 _ _ _ h1) (gwV qw_559 qw_193 qw_194 qw_44 qw_195) ⟨rfl, rfl, (Nat.le_of_ble_eq_true rfl), (Nat.le_of_ble_eq_true rfl)⟩ dd_J0_length_8abf5 rfl hk1 rfl rfl hl.1 (Nat.le_of_ble_eq_true rfl) dL_type_48 ⟨(Nat.le_of_ble_eq_true rfl), (Nat.le_of_ble_eq_true rfl)⟩ (fun H locs hM hS => ?_)
    refine lv_icmp_ge (tgt := 66) hx hb dL_type_51 (by decide) (fun c1 => ?_) (fun c1 => ?_)
    · have h := ifp c1 h
      refine lv_bipush (v := 32) hx hb dL_type_66 (by decide) ?_
      refine W.widen (k := 1) (n := 5) (Nat.le_of_ble_eq_true rfl) (Nat.le_of_ble_eq_true rfl) ?_
      exact tj_L_type_68  hC hr hlocks hE hy1 hy2  h hM hS (lv_sub hl [0, 1, 2, 3, 4] rfl)
    · have h := ifn c1 h
      refine lv_aload_n hx hb dL_type_54 rfl (lv_at hl 1 rfl) ?_
      refine lv_iload hx hb dL_type_55 (lv_at hl 3 rfl) ?_
      refine lv_iload hx hb dL_type_57 (lv_at hl 4 rfl) ?_
      refine lv_iadd hx hb dL_type_59 ?_
      obtain ⟨v18, M19, h1, h⟩ := ob2 h
      obtain ⟨hk1, h1⟩ := ifg h1
      refine kV1 (ci := 5) (As := [.int (x4 + x5)]) (rest := [.int (v14 <<< (8 &&& 31)), .int (x5 / 4), .ref x3]) hC hE hS hM (mt_J0_charAt_5068e _ E x1 (x4 + x5) _ _ _ h1) (gwV qw_560 qw_261 qw_262 qw_44 qw_263) ⟨rfl, rfl, (Nat.le_of_ble_eq_true rfl), (Nat.le_of_ble_eq_true rfl)⟩ dd_J0_charAt_5068e rfl hk1 rfl rfl hl.1 (Nat.le_of_ble_eq_true rfl) dL_type_60 ⟨(Nat.le_of_ble_eq_true rfl), (Nat.le_of_ble_eq_true rfl)⟩ (fun H locs hM hS => ?_)
      refine lv_goto (tgt := 68) hx hb dL_type_63 (by decide) ?_
      refine W.widen (k := 1) (n := 5) (Nat.le_of_ble_eq_true rfl) (Nat.le_of_ble_eq_true rfl) ?_
      exact tj_L_type_68  hC hr hlocks hE hy1 hy2  h hM hS (lv_sub hl [0, 1, 2, 3, 4] rfl)
noncomputable def fc_L_type_9 (x0 : Nat) (x1 : Nat) (x3 : Nat) (x4 : Int32) (M : Mem) : Option ((Int32 × Mem) ⊕ (Int32 × Mem)) :=
  bn (cK 6 x1 M (f_J0_length_8abf5 x1 M)) fun v3 M4 =>
  (if v3 ≤ x4 then
  (fj_L_type_102 x1 M4).map Sum.inr
  else
  fj_L_type_21 x0 x1 x3 x4 0 M4)
noncomputable def fj_L_type_9 (x0 : Nat) (x1 : Nat) (x3 : Nat) (x4 : Int32) (M : Mem) : Option (Int32 × Mem) := loopM (fun q : (Int32 × Mem) => fc_L_type_9 x0 x1 x3 q.1 q.2) FU (x4, M)
set_option maxHeartbeats 4000000 in
set_option maxRecDepth 100000 in
theorem tj_L_type_9 {p : Program} {l : Launch} {e : Env} {s : State} {m : MethodId} {args : Array Value} {below : List Frame} {meth : Method} {c : Code} {E : KEnv} {H : Heap} {locs : List Loc} {ls : Array Slot} {x0 : Nat} {x1 : Nat} {x3 : Nat} {x4 : Int32} {M : Mem} {v : Int32} {M' : Mem} (hC : CallFix p m c cL_type 6 s args lw_G RL) (hr : meth.sig.returnType = (some .int)) (hlocks : meth.locks = false) (hE : EnvOK E s) (h : fj_L_type_9 x0 x1 x3 x4 M = some (v, M')) (hM : MOK E M H) (hS : va_S (eA E) s.heap H locs) (hl : lv_has ls 6 [(0, .ref x0), (1, .ref x1), (3, .ref x3), (4, .int x4)]) : W p l e rm_L_type s m args below meth c H locs 1 5 (MQ below (cQ E (some (.int v)) M') args s 1 5 (eA E)) (F0 m 9 ls []) := by
  refine loopM_ind (body := fun q : (Int32 × Mem) => fc_L_type_9 x0 x1 x3 q.1 q.2) (x0 := (v, M')) (Wd := fun q : (Int32 × Mem) => ∀ (H : Heap) (locs : List Loc) (ls : Array Slot), MOK E (q.2) H → va_S (eA E) s.heap H locs → lv_has ls 6 [(0, .ref x0), (1, .ref x1), (3, .ref x3), (4, .int q.1)] → W p l e rm_L_type s m args below meth c H locs 1 5 (MQ below (cQ E (some (.int v)) M') args s 1 5 (eA E)) (F0 m 9 ls [])) ?_ FU (x4, M) h H locs ls hM hS hl
  clear h hM hS hl H locs ls M x4
  obtain ⟨hx, hb, hml, hown, hts⟩ := id hC
  intro q y1 h hy1 H locs ls hM hS hl
  obtain ⟨x4, M⟩ := q
  have h : fc_L_type_9 x0 x1 x3 x4 M = some y1 := h
  have hM : MOK E M H := hM
  have hl : lv_has ls 6 [(0, .ref x0), (1, .ref x1), (3, .ref x3), (4, .int x4)] := hl
  unfold fc_L_type_9 at h
  show W p l e rm_L_type s m args below meth c H locs _ _ _ _
  refine lv_iload hx hb dL_type_9 (lv_at hl 3 rfl) ?_
  refine lv_aload_n hx hb dL_type_11 rfl (lv_at hl 1 rfl) ?_
  obtain ⟨v3, M4, h1, h⟩ := ob2 h
  obtain ⟨hk1, h1⟩ := ifg h1
  refine kV1 (ci := 5) (As := []) (rest := [.int x4]) hC hE hS hM (mt_J0_length_8abf5 _ E x1 _ _ _ h1) (gwV qw_559 qw_193 qw_194 qw_44 qw_195) ⟨rfl, rfl, (Nat.le_of_ble_eq_true rfl), (Nat.le_of_ble_eq_true rfl)⟩ dd_J0_length_8abf5 rfl hk1 rfl rfl hl.1 (Nat.le_of_ble_eq_true rfl) dL_type_12 ⟨(Nat.le_of_ble_eq_true rfl), (Nat.le_of_ble_eq_true rfl)⟩ (fun H locs hM hS => ?_)
  refine lv_icmp_ge (tgt := 102) hx hb dL_type_15 (by decide) (fun c1 => ?_) (fun c1 => ?_)
  · have h := ifp c1 h
    obtain ⟨z0, h9, rfl⟩ := om h
    have e0 := hy1.2 _ rfl
    subst e0
    have h := h9
    refine W.widen (k := 1) (n := 5) (Nat.le_of_ble_eq_true rfl) (Nat.le_of_ble_eq_true rfl) ?_
    exact tj_L_type_102  hC hr hlocks hE  h hM hS (lv_sub hl [1] rfl)
  · have h := ifn c1 h
    refine lv_iconst (v := 0) hx hb dL_type_18 (by decide) ?_
    refine lv_istore (lv' := [(5, .int 0), (0, .ref x0), (1, .ref x1), (3, .ref x3), (4, .int x4)]) hx hb dL_type_19 hl (by decide) rfl (fun ls hl => ?_)
    refine W.widen (k := 1) (n := 5) (Nat.le_of_ble_eq_true rfl) (Nat.le_of_ble_eq_true rfl) ?_
    exact tj_L_type_21  hC hr hlocks hE hy1  h hM hS (lv_sub hl [1, 2, 3, 4, 0] rfl)
noncomputable def f_L_type (a1 : Nat) (a2 : Nat) (M : Mem) : Option (Int32 × Mem) :=
  bnewa 9 5 M fun v1 M2 =>
  fj_L_type_9 a1 a2 v1 0 M2
set_option maxHeartbeats 4000000 in
set_option maxRecDepth 100000 in
theorem mt_L_type (l : Launch) (E : KEnv) (a1 : Nat) (a2 : Nat) (M M' : Mem) (v : Int32) (h : f_L_type a1 a2 M = some (v, M')) : Met l yL_type (Cond.code yL_type cL_type 6 (some .int) :: lw_G) rm_L_type (cPc E [.ref a1, .ref a2] M) (cQ E (some (.int v)) M') 1 5 (eA E) := by
  refine Met.ofW (cc := cL_type) (maxL := 6) (ret := (some .int)) (by decide) rfl ?_
  intro p e s m args below meth c s₁ B hml hv
  obtain ⟨rfl, hE, hM⟩ := hv
  have hx := B.exec
  have hb := B.bytes
  have hr := B.returns
  have hts0 := atoms_spec (ws := Cond.code yL_type cL_type 6 (some .int) :: lw_G) B.pre
  have hts : ∀ w ∈ lw_G, w.before _ s = true := fun w hw => hts0 w (List.mem_cons_of_mem _ hw)
  have hown : s.vm.findClass RL = some m.cls := findClass_of_methodNamed B.named
  have hlocks := B.notSynchronized
  have hC : CallFix p m c cL_type 6 s _ lw_G RL := ⟨hx, hb, hml, hown, hts⟩
  have hS : va_S (eA E) s.heap s.heap [] := va_S.rf
  have hl := lv_entry ([.ref a1, .ref a2]) (n := 6) (Nat.le_of_ble_eq_true rfl)
  rw [lg_entry_eq]
  generalize (lg_sl ([.ref a1, .ref a2]) ++ List.replicate (6 - (lg_sl ([.ref a1, .ref a2])).length) Slot.unset).toArray = ls at hl ⊢
  have hl : lv_has ls 6 [(0, .ref a1), (1, .ref a2)] := hl
  unfold f_L_type at h
  show W p l e rm_L_type s m _ below meth c s.heap [] 0 0 _ _
  refine lv_iconst (v := 0) hx hb dL_type_0 (by decide) ?_
  refine lv_istore_n (lv' := [(2, .int 0), (0, .ref a1), (1, .ref a2)]) hx hb dL_type_1 rfl hl (by decide) rfl (fun ls hl => ?_)
  refine lv_iconst (v := 5) hx hb dL_type_2 (by decide) ?_
  obtain ⟨v1, M2, eq, eM, h⟩ := obnewa h
  refine rna_int (N' := 5) hx hb hts qw_87 hE hM hS (by decide) (by decide) (Nat.le_of_ble_eq_true rfl) (Nat.le_of_ble_eq_true rfl) (Nat.le_of_ble_eq_true rfl) eq eM dL_type_3 (fun H hM hS => ?_)
  refine lv_astore_n (lv' := [(3, .ref v1), (2, .int 0), (0, .ref a1), (1, .ref a2)]) hx hb dL_type_5 rfl hl (by decide) rfl (fun ls hl => ?_)
  refine lv_iconst (v := 0) hx hb dL_type_6 (by decide) ?_
  refine lv_istore (lv' := [(4, .int 0), (3, .ref v1), (2, .int 0), (0, .ref a1), (1, .ref a2)]) hx hb dL_type_7 hl (by decide) rfl (fun ls hl => ?_)
  refine W.widen (k := 1) (n := 5) (Nat.le_of_ble_eq_true rfl) (Nat.le_of_ble_eq_true rfl) ?_
  exact tj_L_type_9  hC hr hlocks hE  h hM hS (lv_sub hl [3, 4, 1, 0] rfl)
