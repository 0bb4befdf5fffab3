/-! printed by wip/p56/gen2.py: methods as functions over the memory, and that the code does what they say -/
theorem dd_X4_init : yX4_init.cls = RX4 ∧ yX4_init.cls ≠ "java/lang/invoke/MethodHandle" ∧ yX4_init.cls ≠ "java/lang/invoke/VarHandle" ∧ (parseMethodDescriptor yX4_init.desc).map (fun d => d.parameters.length) = some 0 := by decide +kernel
abbrev rm_X4_init : Room := ({ frames := 7, cells := 59, slots := 3756, locals := 227 } : Room)
noncomputable def f_X4_init (this : Nat) (M : Mem) : Option Mem :=
  bnewa 8 600 M fun v1 M2 =>
  (sR 5 128 this (some v1) M2).bind fun M3 =>
  (sI 5 129 this 0 M3).bind fun M4 =>
  (sI 5 130 this 0 M4).bind fun M5 =>
  (sI 5 131 this (-1) M5).bind fun M6 =>
  bnewa 8 32 M6 fun v7 M8 =>
  (sR 5 132 this (some v7) M8).bind fun M9 =>
  (sI 5 133 this 0 M9).bind fun M10 =>
  bnew 4 M10 fun v11 M12 =>
  (f_X3_init v11 M12).bind fun M14 =>
  (sR 5 135 this (some v11) M14).bind fun M15 =>
  bnew 1 M15 fun v16 M17 =>
  (f_X0_init v16 M17).bind fun M19 =>
  (sR 5 136 this (some v16) M19).bind fun M20 =>
  bnewa 11 2 M20 fun v21 M22 =>
  (sR 5 137 this (some v21) M22).bind fun M23 =>
  bnew 3 M23 fun v24 M25 =>
  (f_X2_init v24 M25).bind fun M27 =>
  (sR 5 138 this (some v24) M27).bind fun M28 =>
  bnew 3 M28 fun v29 M30 =>
  (f_X2_init v29 M30).bind fun M32 =>
  (sR 5 139 this (some v29) M32).bind fun M33 =>
  bnew 4 M33 fun v34 M35 =>
  (f_X3_init v34 M35).bind fun M37 =>
  bnew 2 M37 fun v38 M39 =>
  bn (jTca 0 M39) fun v42 M43 =>
  (jLen 0).bind fun v46 =>
  (f_X1_init v38 v42 v46 v34 M43).bind fun M48 =>
  (cK 2 v38 M48 (f_X1_parse v38 M48)).bind fun M50 =>
  (sR 5 134 this (some v34) M50).bind fun M51 =>
  some M51
set_option maxHeartbeats 4000000 in
set_option maxRecDepth 100000 in
theorem mt_X4_init (l : Launch) (E : KEnv) (this : Nat) (M M' : Mem) (h : f_X4_init this M = some M') : Met l yX4_init (Cond.code yX4_init cX4_init 2 none :: lw_G) rm_X4_init (cPc E [.ref this] M) (cQ E none M') 59 3756 (eA E) := by
  refine Met.ofW (cc := cX4_init) (maxL := 2) (ret := none) (by decide) rfl ?_
  intro p e s m args below meth c s₁ B hml hv
  obtain ⟨rfl, hE, hM⟩ := hv
  have hx := B.exec
  have hb := B.bytes
  have hr := B.returns
  have hts0 := atoms_spec (ws := Cond.code yX4_init cX4_init 2 none :: lw_G) B.pre
  have hts : ∀ w ∈ lw_G, w.before _ s = true := fun w hw => hts0 w (List.mem_cons_of_mem _ hw)
  have hown : s.vm.findClass RX4 = some m.cls := findClass_of_methodNamed B.named
  have hlocks := B.notSynchronized
  have hin : meth.name = "<init>" := (name_of_methodNamed B.named B.method).1
  have hC : CallFix p m c cX4_init 2 s _ lw_G RX4 := ⟨hx, hb, hml, hown, hts⟩
  have hS : va_S (eA E) s.heap s.heap [] := va_S.rf
  have hl := lv_entry ([.ref this]) (n := 2) (Nat.le_of_ble_eq_true rfl)
  rw [lg_entry_eq]
  generalize (lg_sl ([.ref this]) ++ List.replicate (2 - (lg_sl ([.ref this])).length) Slot.unset).toArray = ls at hl ⊢
  have hl : lv_has ls 2 [(0, .ref this)] := hl
  unfold f_X4_init at h
  show W p l e rm_X4_init s m _ below meth c s.heap [] 0 0 _ _
  refine lv_aload_n hx hb dX4_init_0 rfl (lv_at hl 0 rfl) ?_
  refine oInit hx hb hown (hts _ qw_66) (hts _ qw_67) (hts _ qw_68) (hl.1.trans hml.symm) dX4_init_1 (Nat.le_of_ble_eq_true rfl) (Nat.le_of_ble_eq_true rfl) ?_
  refine lv_aload_n hx hb dX4_init_4 rfl (lv_at hl 0 rfl) ?_
  refine lv_sipush (v := 600) hx hb dX4_init_5 (by decide) ?_
  obtain ⟨v1, M2, eq, eM, h⟩ := obnewa h
  refine rna_char (N' := 600) hx hb hts qw_86 hE hM hS (by decide) (by decide) (Nat.le_of_ble_eq_true rfl) (Nat.le_of_ble_eq_true rfl) (Nat.le_of_ble_eq_true rfl) eq eM dX4_init_8 (fun H hM hS => ?_)
  obtain ⟨M3, h1, h⟩ := ob h
  refine rp_4_0 hx hb hts hown hE hM qw_398 hin rfl hS h1 dX4_init_10 (fun H locs hM hS => ?_)
  refine lv_aload_n hx hb dX4_init_13 rfl (lv_at hl 0 rfl) ?_
  refine lv_iconst (v := 0) hx hb dX4_init_14 (by decide) ?_
  obtain ⟨M4, h1, h⟩ := ob h
  refine rp_4_1 hx hb hts hown hE hM qw_399 hS h1 dX4_init_15 (fun H locs hM hS => ?_)
  refine lv_aload_n hx hb dX4_init_18 rfl (lv_at hl 0 rfl) ?_
  refine lv_iconst (v := 0) hx hb dX4_init_19 (by decide) ?_
  obtain ⟨M5, h1, h⟩ := ob h
  refine rp_4_2 hx hb hts hown hE hM qw_400 hS h1 dX4_init_20 (fun H locs hM hS => ?_)
  refine lv_aload_n hx hb dX4_init_23 rfl (lv_at hl 0 rfl) ?_
  refine lv_iconst (v := (-1)) hx hb dX4_init_24 (by decide) ?_
  obtain ⟨M6, h1, h⟩ := ob h
  refine rp_4_3 hx hb hts hown hE hM qw_401 hS h1 dX4_init_25 (fun H locs hM hS => ?_)
  refine lv_aload_n hx hb dX4_init_28 rfl (lv_at hl 0 rfl) ?_
  refine lv_bipush (v := 32) hx hb dX4_init_29 (by decide) ?_
  obtain ⟨v7, M8, eq, eM, h⟩ := obnewa h
  refine rna_char (N' := 32) hx hb hts qw_86 hE hM hS (by decide) (by decide) (Nat.le_of_ble_eq_true rfl) (Nat.le_of_ble_eq_true rfl) (Nat.le_of_ble_eq_true rfl) eq eM dX4_init_31 (fun H hM hS => ?_)
  obtain ⟨M9, h1, h⟩ := ob h
  refine rp_4_4 hx hb hts hown hE hM qw_402 hin rfl hS h1 dX4_init_33 (fun H locs hM hS => ?_)
  refine lv_aload_n hx hb dX4_init_36 rfl (lv_at hl 0 rfl) ?_
  refine lv_iconst (v := 0) hx hb dX4_init_37 (by decide) ?_
  obtain ⟨M10, h1, h⟩ := ob h
  refine rp_4_5 hx hb hts hown hE hM qw_403 hS h1 dX4_init_38 (fun H locs hM hS => ?_)
  refine lv_aload_n hx hb dX4_init_41 rfl (lv_at hl 0 rfl) ?_
  obtain ⟨v11, M12, eq, eM, h⟩ := obnew h
  refine rn_3 hx hb hts hown hE hM hS qw_69 qw_70 qw_40 eq eM (Nat.le_of_ble_eq_true rfl) (Nat.le_of_ble_eq_true rfl) dX4_init_42 (fun H hM hS => ?_)
  refine lv_dup hx hb dX4_init_45 rfl ?_
  obtain ⟨M14, h1, h⟩ := ob h
  refine kI (As := []) (rest := [.ref v11, .ref this]) hC hE hS hM (mt_X3_init _ E v11 _ _ h1) qw_73 qw_71 qw_72 qw_40 ⟨rfl, rfl, (Nat.le_of_ble_eq_true rfl), (Nat.le_of_ble_eq_true rfl)⟩ dd_X3_init.2 rfl rfl rfl hl.1 (Nat.le_of_ble_eq_true rfl) dX4_init_46 ⟨(Nat.le_of_ble_eq_true rfl), (Nat.le_of_ble_eq_true rfl)⟩ (fun H locs hM hS => ?_)
  obtain ⟨M15, h1, h⟩ := ob h
  refine rp_4_7 hx hb hts hown hE hM qw_405 hS h1 dX4_init_49 (fun H locs hM hS => ?_)
  refine lv_aload_n hx hb dX4_init_52 rfl (lv_at hl 0 rfl) ?_
  obtain ⟨v16, M17, eq, eM, h⟩ := obnew h
  refine rn_0 hx hb hts hown hE hM hS qw_123 qw_124 qw_42 eq eM (Nat.le_of_ble_eq_true rfl) (Nat.le_of_ble_eq_true rfl) dX4_init_53 (fun H hM hS => ?_)
  refine lv_dup hx hb dX4_init_56 rfl ?_
  obtain ⟨M19, h1, h⟩ := ob h
  refine kIN (host := RX4) (As := []) (rest := [.ref v16, .ref this]) hC hE hS hM (mt_X0_init _ E v16 _ _ h1) qw_127 (by decide) qw_126 qw_42 ⟨rfl, rfl, (Nat.le_of_ble_eq_true rfl), (Nat.le_of_ble_eq_true rfl)⟩ dd_X0_init.2 rfl rfl rfl hl.1 (Nat.le_of_ble_eq_true rfl) dX4_init_57 ⟨(Nat.le_of_ble_eq_true rfl), (Nat.le_of_ble_eq_true rfl)⟩ (fun H locs hM hS => ?_)
  obtain ⟨M20, h1, h⟩ := ob h
  refine rp_4_8 hx hb hts hown hE hM qw_406 hin rfl hS h1 dX4_init_60 (fun H locs hM hS => ?_)
  refine lv_aload_n hx hb dX4_init_63 rfl (lv_at hl 0 rfl) ?_
  refine lv_iconst (v := 2) hx hb dX4_init_64 (by decide) ?_
  obtain ⟨v21, M22, eq, eM, h⟩ := obnewa h
  refine rna_W (N' := 2) hx hb hts hown qw_69 hE hM hS (by decide) (by decide) (Nat.le_of_ble_eq_true rfl) (Nat.le_of_ble_eq_true rfl) (Nat.le_of_ble_eq_true rfl) eq eM dX4_init_65 (fun H hM hS => ?_)
  obtain ⟨M23, h1, h⟩ := ob h
  refine rp_4_9 hx hb hts hown hE hM qw_407 hin rfl hS h1 dX4_init_68 (fun H locs hM hS => ?_)
  refine lv_aload_n hx hb dX4_init_71 rfl (lv_at hl 0 rfl) ?_
  obtain ⟨v24, M25, eq, eM, h⟩ := obnew h
  refine rn_2 hx hb hts hown hE hM hS qw_142 qw_77 qw_41 eq eM (Nat.le_of_ble_eq_true rfl) (Nat.le_of_ble_eq_true rfl) dX4_init_72 (fun H hM hS => ?_)
  refine lv_dup hx hb dX4_init_75 rfl ?_
  obtain ⟨M27, h1, h⟩ := ob h
  refine kIN (host := RX4) (As := []) (rest := [.ref v24, .ref this]) hC hE hS hM (mt_X2_init _ E v24 _ _ h1) qw_80 (by decide) qw_79 qw_41 ⟨rfl, rfl, (Nat.le_of_ble_eq_true rfl), (Nat.le_of_ble_eq_true rfl)⟩ dd_X2_init.2 rfl rfl rfl hl.1 (Nat.le_of_ble_eq_true rfl) dX4_init_76 ⟨(Nat.le_of_ble_eq_true rfl), (Nat.le_of_ble_eq_true rfl)⟩ (fun H locs hM hS => ?_)
  obtain ⟨M28, h1, h⟩ := ob h
  refine rp_4_10 hx hb hts hown hE hM qw_408 hin rfl hS h1 dX4_init_79 (fun H locs hM hS => ?_)
  refine lv_aload_n hx hb dX4_init_82 rfl (lv_at hl 0 rfl) ?_
  obtain ⟨v29, M30, eq, eM, h⟩ := obnew h
  refine rn_2 hx hb hts hown hE hM hS qw_142 qw_77 qw_41 eq eM (Nat.le_of_ble_eq_true rfl) (Nat.le_of_ble_eq_true rfl) dX4_init_83 (fun H hM hS => ?_)
  refine lv_dup hx hb dX4_init_86 rfl ?_
  obtain ⟨M32, h1, h⟩ := ob h
  refine kIN (host := RX4) (As := []) (rest := [.ref v29, .ref this]) hC hE hS hM (mt_X2_init _ E v29 _ _ h1) qw_80 (by decide) qw_79 qw_41 ⟨rfl, rfl, (Nat.le_of_ble_eq_true rfl), (Nat.le_of_ble_eq_true rfl)⟩ dd_X2_init.2 rfl rfl rfl hl.1 (Nat.le_of_ble_eq_true rfl) dX4_init_87 ⟨(Nat.le_of_ble_eq_true rfl), (Nat.le_of_ble_eq_true rfl)⟩ (fun H locs hM hS => ?_)
  obtain ⟨M33, h1, h⟩ := ob h
  refine rp_4_11 hx hb hts hown hE hM qw_409 hin rfl hS h1 dX4_init_90 (fun H locs hM hS => ?_)
  obtain ⟨v34, M35, eq, eM, h⟩ := obnew h
  refine rn_3 hx hb hts hown hE hM hS qw_69 qw_70 qw_40 eq eM (Nat.le_of_ble_eq_true rfl) (Nat.le_of_ble_eq_true rfl) dX4_init_93 (fun H hM hS => ?_)
  refine lv_dup hx hb dX4_init_96 rfl ?_
  obtain ⟨M37, h1, h⟩ := ob h
  refine kI (As := []) (rest := [.ref v34]) hC hE hS hM (mt_X3_init _ E v34 _ _ h1) qw_73 qw_71 qw_72 qw_40 ⟨rfl, rfl, (Nat.le_of_ble_eq_true rfl), (Nat.le_of_ble_eq_true rfl)⟩ dd_X3_init.2 rfl rfl rfl hl.1 (Nat.le_of_ble_eq_true rfl) dX4_init_97 ⟨(Nat.le_of_ble_eq_true rfl), (Nat.le_of_ble_eq_true rfl)⟩ (fun H locs hM hS => ?_)
  refine lv_astore_n (lv' := [(1, .ref v34), (0, .ref this)]) hx hb dX4_init_100 rfl hl (by decide) rfl (fun ls hl => ?_)
  obtain ⟨v38, M39, eq, eM, h⟩ := obnew h
  refine rn_1 hx hb hts hown hE hM hS qw_144 qw_145 qw_43 eq eM (Nat.le_of_ble_eq_true rfl) (Nat.le_of_ble_eq_true rfl) dX4_init_101 (fun H hM hS => ?_)
  refine lv_dup hx hb dX4_init_104 rfl ?_
  refine va_ldcS hx hb hown (sr_0 hE) dX4_init_105 ?_
  obtain ⟨v42, M43, h1, h⟩ := ob2 h
  refine rJ_tca (rest := [.ref v38, .ref v38]) hC hE hS hM h1 qw_147 (Nat.le_of_ble_eq_true rfl) (Nat.le_of_ble_eq_true rfl) rfl rfl hl.1 (Nat.le_of_ble_eq_true rfl) ⟨(Nat.le_of_ble_eq_true rfl), (Nat.le_of_ble_eq_true rfl)⟩ dX4_init_107 (fun H locs hM hS => ?_)
  refine va_ldcS hx hb hown (sr_0 hE) dX4_init_110 ?_
  obtain ⟨v46, h1, h⟩ := ob h
  refine rJ_length (rest := [.ref v42, .ref v38, .ref v38]) hC hE hS hM h1 qw_192 (Nat.le_of_ble_eq_true rfl) (Nat.le_of_ble_eq_true rfl) rfl rfl hl.1 (Nat.le_of_ble_eq_true rfl) dX4_init_112 ⟨(Nat.le_of_ble_eq_true rfl), (Nat.le_of_ble_eq_true rfl)⟩ (fun H locs hM hS => ?_)
  refine lv_aload_n hx hb dX4_init_115 rfl (lv_at hl 0 rfl) ?_
  obtain ⟨M48, h1, h⟩ := ob h
  refine kI (As := [.ref v42, .int v46, .ref v34]) (rest := [.ref v38]) hC hE hS hM (mt_X1_init _ E v38 v42 v46 v34 _ _ h1) qw_202 qw_200 qw_201 qw_43 ⟨rfl, rfl, (Nat.le_of_ble_eq_true rfl), (Nat.le_of_ble_eq_true rfl)⟩ dd_X1_init.2 rfl rfl rfl hl.1 (Nat.le_of_ble_eq_true rfl) dX4_init_116 ⟨(Nat.le_of_ble_eq_true rfl), (Nat.le_of_ble_eq_true rfl)⟩ (fun H locs hM hS => ?_)
  obtain ⟨M50, h1, h⟩ := ob h
  obtain ⟨hk1, h1⟩ := ifg h1
  refine kV0 (ci := 1) (As := []) (rest := []) hC hE hS hM (mt_X1_parse _ E v38 _ _ h1) (gwV qw_232 qw_233 qw_234 qw_43 qw_235) ⟨rfl, rfl, (Nat.le_of_ble_eq_true rfl), (Nat.le_of_ble_eq_true rfl)⟩ dd_X1_parse rfl hk1 rfl rfl hl.1 (Nat.le_of_ble_eq_true rfl) dX4_init_119 ⟨(Nat.le_of_ble_eq_true rfl), (Nat.le_of_ble_eq_true rfl)⟩ (fun H locs hM hS => ?_)
  refine lv_aload_n hx hb dX4_init_122 rfl (lv_at hl 1 rfl) ?_
  refine lv_aload_n hx hb dX4_init_123 rfl (lv_at hl 0 rfl) ?_
  obtain ⟨M51, h1, h⟩ := ob h
  refine rp_4_6 hx hb hts hown hE hM qw_404 hS h1 dX4_init_124 (fun H locs hM hS => ?_)
  cases h
  exact eV_ hx hb hr hlocks hM hS dX4_init_127 (Nat.le_of_ble_eq_true rfl) (Nat.le_of_ble_eq_true rfl)

theorem dd_X4_appendWord : yX4_appendWord.cls = RX4 ∧ yX4_appendWord.cls ≠ "java/lang/invoke/MethodHandle" ∧ yX4_appendWord.cls ≠ "java/lang/invoke/VarHandle" ∧ (parseMethodDescriptor yX4_appendWord.desc).map (fun d => d.parameters.length) = some 1 := by decide +kernel
abbrev rm_X4_appendWord : Room := ({ frames := 0, cells := 0, slots := 0, locals := 0 } : Room)
noncomputable def fc_X4_appendWord_3 (x0 : Nat) (x1 : Int32) (x2 : Int32) (M : Mem) : Option ((Int32 × Mem) ⊕ Mem) :=
  (if x2 < 0 then
  some (.inr (M))
  else
  (gRn 5 128 x0 M).bind fun v1 =>
  (gI 5 129 x0 M).bind fun v2 =>
  (sA 8 v1 v2 (((((x1.toUInt32 >>> (x2.toUInt32 &&& Int32.toUInt32 31)).toInt32) &&& 255).toUInt32 % 65536).toInt32) M).bind fun M3 =>
  (gI 5 129 x0 M3).bind fun v4 =>
  (sI 5 129 x0 (v4 + 1) M3).bind fun M5 =>
  some (.inl (x2 + (-8), M5)))
noncomputable def fj_X4_appendWord_3 (x0 : Nat) (x1 : Int32) (x2 : Int32) (M : Mem) : Option Mem := loopM (fun q : (Int32 × Mem) => fc_X4_appendWord_3 x0 x1 q.1 q.2) FU (x2, M)
set_option maxHeartbeats 4000000 in
set_option maxRecDepth 100000 in
theorem tj_X4_appendWord_3 {p : Program} {l : Launch} {e : Env} {s : State} {m : MethodId} {args : Array Value} {below : List Frame} {meth : Method} {c : Code} {E : KEnv} {H : Heap} {locs : List Loc} {ls : Array Slot} {x0 : Nat} {x1 : Int32} {x2 : Int32} {M : Mem} {M' : Mem} (hC : CallFix p m c cX4_appendWord 3 s args lw_G RX4) (hr : meth.sig.returnType = none) (hlocks : meth.locks = false) (hE : EnvOK E s) (h : fj_X4_appendWord_3 x0 x1 x2 M = some M') (hM : MOK E M H) (hS : va_S (eA E) s.heap H locs) (hl : lv_has ls 3 [(0, .ref x0), (1, .int x1), (2, .int x2)]) : W p l e rm_X4_appendWord s m args below meth c H locs 0 0 (MQ below (cQ E none M') args s 0 0 (eA E)) (F0 m 3 ls []) := by
  refine loopM_ind (body := fun q : (Int32 × Mem) => fc_X4_appendWord_3 x0 x1 q.1 q.2) (x0 := M') (Wd := fun q : (Int32 × Mem) => ∀ (H : Heap) (locs : List Loc) (ls : Array Slot), MOK E (q.2) H → va_S (eA E) s.heap H locs → lv_has ls 3 [(0, .ref x0), (1, .int x1), (2, .int q.1)] → W p l e rm_X4_appendWord s m args below meth c H locs 0 0 (MQ below (cQ E none M') args s 0 0 (eA E)) (F0 m 3 ls [])) ?_ FU (x2, M) h H locs ls hM hS hl
  clear h hM hS hl H locs ls M x2
  obtain ⟨hx, hb, hml, hown, hts⟩ := id hC
  intro q y1 h hy1 H locs ls hM hS hl
  obtain ⟨x2, M⟩ := q
  have h : fc_X4_appendWord_3 x0 x1 x2 M = some y1 := h
  have hM : MOK E M H := hM
  have hl : lv_has ls 3 [(0, .ref x0), (1, .int x1), (2, .int x2)] := hl
  unfold fc_X4_appendWord_3 at h
  show W p l e rm_X4_appendWord s m args below meth c H locs _ _ _ _
  refine lv_iload_n hx hb dX4_appendWord_3 rfl (lv_at hl 2 rfl) ?_
  refine lv_if_lt (tgt := 40) hx hb dX4_appendWord_4 (by decide) (fun c1 => ?_) (fun c1 => ?_)
  · have h := ifp c1 h
    cases h
    cases (hy1.2 _ rfl)
    exact eV_ hx hb hr hlocks hM hS dX4_appendWord_40 (Nat.le_of_ble_eq_true rfl) (Nat.le_of_ble_eq_true rfl)
  · have h := ifn c1 h
    refine lv_aload_n hx hb dX4_appendWord_7 rfl (lv_at hl 0 rfl) ?_
    obtain ⟨v1, h1, h⟩ := ob h
    refine rgn_4_0 hx hb hts hown hE hM qw_398 h1 dX4_appendWord_8 ?_
    refine lv_aload_n hx hb dX4_appendWord_11 rfl (lv_at hl 0 rfl) ?_
    obtain ⟨v2, h1, h⟩ := ob h
    refine rg_4_1 hx hb hts hown hE hM qw_399 h1 dX4_appendWord_12 ?_
    refine lv_iload_n hx hb dX4_appendWord_15 rfl (lv_at hl 1 rfl) ?_
    refine lv_iload_n hx hb dX4_appendWord_16 rfl (lv_at hl 2 rfl) ?_
    refine lv_iushr (v := (x1.toUInt32 >>> (x2.toUInt32 &&& Int32.toUInt32 31)).toInt32) hx hb dX4_appendWord_17 rfl ?_
    refine lv_sipush (v := 255) hx hb dX4_appendWord_18 (by decide) ?_
    refine lv_iand hx hb dX4_appendWord_21 ?_
    refine lv_i2c (v := ((((x1.toUInt32 >>> (x2.toUInt32 &&& Int32.toUInt32 31)).toInt32) &&& 255).toUInt32 % 65536).toInt32) hx hb dX4_appendWord_22 rfl ?_
    obtain ⟨M3, h1, h⟩ := ob h
    refine r_cast hx hb hE hM hS h1 dX4_appendWord_23 (fun H locs hM hS => ?_)
    refine lv_aload_n hx hb dX4_appendWord_24 rfl (lv_at hl 0 rfl) ?_
    refine lv_dup hx hb dX4_appendWord_25 rfl ?_
    obtain ⟨v4, h1, h⟩ := ob h
    refine rg_4_1 hx hb hts hown hE hM qw_399 h1 dX4_appendWord_26 ?_
    refine lv_iconst (v := 1) hx hb dX4_appendWord_29 (by decide) ?_
    refine lv_iadd hx hb dX4_appendWord_30 ?_
    obtain ⟨M5, h1, h⟩ := ob h
    refine rp_4_1 hx hb hts hown hE hM qw_399 hS h1 dX4_appendWord_31 (fun H locs hM hS => ?_)
    refine lv_iinc (v := x2 + (-8)) (lv' := [(2, .int (x2 + (-8))), (0, .ref x0), (1, .int x1)]) hx hb dX4_appendWord_34 hl (k := 2) rfl rfl (by decide) rfl (fun ls hl => ?_)
    refine lv_goto (tgt := 3) hx hb dX4_appendWord_37 (by decide) ?_
    cases h
    exact hy1.1 _ rfl _ _ _ hM hS (lv_sub hl [1, 2, 0] rfl)
noncomputable def f_X4_appendWord (this : Nat) (a1 : Int32) (M : Mem) : Option Mem :=
  fj_X4_appendWord_3 this a1 24 M
set_option maxHeartbeats 4000000 in
set_option maxRecDepth 100000 in
theorem mt_X4_appendWord (l : Launch) (E : KEnv) (this : Nat) (a1 : Int32) (M M' : Mem) (h : f_X4_appendWord this a1 M = some M') : Met l yX4_appendWord (Cond.code yX4_appendWord cX4_appendWord 3 none :: lw_G) rm_X4_appendWord (cPc E [.ref this, .int a1] M) (cQ E none M') 0 0 (eA E) := by
  refine Met.ofW (cc := cX4_appendWord) (maxL := 3) (ret := none) (by decide) rfl ?_
  intro p e s m args below meth c s₁ B hml hv
  obtain ⟨rfl, hE, hM⟩ := hv
  have hx := B.exec
  have hb := B.bytes
  have hr := B.returns
  have hts0 := atoms_spec (ws := Cond.code yX4_appendWord cX4_appendWord 3 none :: lw_G) B.pre
  have hts : ∀ w ∈ lw_G, w.before _ s = true := fun w hw => hts0 w (List.mem_cons_of_mem _ hw)
  have hown : s.vm.findClass RX4 = some m.cls := findClass_of_methodNamed B.named
  have hlocks := B.notSynchronized
  have hC : CallFix p m c cX4_appendWord 3 s _ lw_G RX4 := ⟨hx, hb, hml, hown, hts⟩
  have hS : va_S (eA E) s.heap s.heap [] := va_S.rf
  have hl := lv_entry ([.ref this, .int a1]) (n := 3) (Nat.le_of_ble_eq_true rfl)
  rw [lg_entry_eq]
  generalize (lg_sl ([.ref this, .int a1]) ++ List.replicate (3 - (lg_sl ([.ref this, .int a1])).length) Slot.unset).toArray = ls at hl ⊢
  have hl : lv_has ls 3 [(0, .ref this), (1, .int a1)] := hl
  unfold f_X4_appendWord at h
  show W p l e rm_X4_appendWord s m _ below meth c s.heap [] 0 0 _ _
  refine lv_bipush (v := 24) hx hb dX4_appendWord_0 (by decide) ?_
  refine lv_istore_n (lv' := [(2, .int 24), (0, .ref this), (1, .int a1)]) hx hb dX4_appendWord_2 rfl hl (by decide) rfl (fun ls hl => ?_)
  refine W.widen (k := 0) (n := 0) (Nat.le_of_ble_eq_true rfl) (Nat.le_of_ble_eq_true rfl) ?_
  exact tj_X4_appendWord_3  hC hr hlocks hE  h hM hS (lv_sub hl [1, 2, 0] rfl)

theorem dd_X4_append : yX4_append.cls = RX4 ∧ yX4_append.cls ≠ "java/lang/invoke/MethodHandle" ∧ yX4_append.cls ≠ "java/lang/invoke/VarHandle" ∧ (parseMethodDescriptor yX4_append.desc).map (fun d => d.parameters.length) = some 5 := by decide +kernel
abbrev rm_X4_append : Room := ({ frames := 6, cells := 1, slots := 6, locals := 90 } : Room)
noncomputable def f_X4_append (this : Nat) (a1 : Int32) (a2 : Int32) (a3 : Int32) (a4 : Int32) (a5 : Int32) (M : Mem) : Option ((Int32 ⊕ Nat) × Mem) :=
  (gI 5 129 this M).bind fun v1 =>
  (if v1 ≤ 580 then
  (cK 5 this M (f_X4_appendWord this a1 M)).bind fun M3 =>
  (cK 5 this M3 (f_X4_appendWord this a2 M3)).bind fun M5 =>
  (cK 5 this M5 (f_X4_appendWord this a3 M5)).bind fun M7 =>
  (cK 5 this M7 (f_X4_appendWord this a4 M7)).bind fun M9 =>
  (cK 5 this M9 (f_X4_appendWord this a5 M9)).bind fun M11 =>
  (gI 5 129 this M11).bind fun v12 =>
  some (.inl v12, M11)
  else
  some (.inr 2, M))
set_option maxHeartbeats 4000000 in
set_option maxRecDepth 100000 in
theorem mt_X4_append (l : Launch) (hfl : l.stackTraces = false) (E : KEnv) (this : Nat) (a1 : Int32) (a2 : Int32) (a3 : Int32) (a4 : Int32) (a5 : Int32) (M M' : Mem) (r : Int32 ⊕ Nat) (h : f_X4_append this a1 a2 a3 a4 a5 M = some (r, M')) : vx_Met l yX4_append (Cond.code yX4_append cX4_append 6 (some .int) :: lw_G) rm_X4_append (cPc E [.ref this, .int a1, .int a2, .int a3, .int a4, .int a5] M) (cQx E (vI r) M') (cXx E (vI r) M') 1 6 (eA E) := by
  refine vx_ofW (cc := cX4_append) (maxL := 6) (ret := (some .int)) (by decide) rfl ?_
  intro p e s m args below meth c s₁ B hml hout hv
  obtain ⟨rfl, hE, hM⟩ := hv
  have hx := B.exec
  have hb := B.bytes
  have hr := B.returns
  have hts0 := atoms_spec (ws := Cond.code yX4_append cX4_append 6 (some .int) :: lw_G) B.pre
  have hts : ∀ w ∈ lw_G, w.before _ s = true := fun w hw => hts0 w (List.mem_cons_of_mem _ hw)
  have hown : s.vm.findClass RX4 = some m.cls := findClass_of_methodNamed B.named
  have hlocks := B.notSynchronized
  have hC : CallFix p m c cX4_append 6 s _ lw_G RX4 := ⟨hx, hb, hml, hown, hts⟩
  have hS : va_S (eA E) s.heap s.heap [] := va_S.rf
  have hl := lv_entry ([.ref this, .int a1, .int a2, .int a3, .int a4, .int a5]) (n := 6) (Nat.le_of_ble_eq_true rfl)
  rw [lg_entry_eq]
  generalize (lg_sl ([.ref this, .int a1, .int a2, .int a3, .int a4, .int a5]) ++ List.replicate (6 - (lg_sl ([.ref this, .int a1, .int a2, .int a3, .int a4, .int a5])).length) Slot.unset).toArray = ls at hl ⊢
  have hl : lv_has ls 6 [(0, .ref this), (1, .int a1), (2, .int a2), (3, .int a3), (4, .int a4), (5, .int a5)] := hl
  unfold f_X4_append at h
  show W p l e rm_X4_append s m _ below meth c s.heap [] 0 0 _ _
  refine lv_aload_n hx hb dX4_append_0 rfl (lv_at hl 0 rfl) ?_
  obtain ⟨v1, h1, h⟩ := ob h
  refine rg_4_1 hx hb hts hown hE hM qw_399 h1 dX4_append_1 ?_
  refine lv_sipush (v := 580) hx hb dX4_append_4 (by decide) ?_
  refine lv_icmp_le (tgt := 20) hx hb dX4_append_7 (by decide) (fun c1 => ?_) (fun c1 => ?_)
  · have h := ifp c1 h
    refine lv_aload_n hx hb dX4_append_20 rfl (lv_at hl 0 rfl) ?_
    refine lv_iload_n hx hb dX4_append_21 rfl (lv_at hl 1 rfl) ?_
    obtain ⟨M3, h1, h⟩ := ob h
    obtain ⟨hk1, h1⟩ := ifg h1
    refine kV0 (ci := 4) (As := [.int a1]) (rest := []) hC hE hS hM (mt_X4_appendWord _ E this a1 _ _ h1) (gwV qw_566 qw_568 qw_23 qw_39 qw_569) ⟨rfl, rfl, (Nat.le_of_ble_eq_true rfl), (Nat.le_of_ble_eq_true rfl)⟩ dd_X4_appendWord rfl hk1 rfl rfl hl.1 (Nat.le_of_ble_eq_true rfl) dX4_append_22 ⟨(Nat.le_of_ble_eq_true rfl), (Nat.le_of_ble_eq_true rfl)⟩ (fun H locs hM hS => ?_)
    refine lv_aload_n hx hb dX4_append_25 rfl (lv_at hl 0 rfl) ?_
    refine lv_iload_n hx hb dX4_append_26 rfl (lv_at hl 2 rfl) ?_
    obtain ⟨M5, h1, h⟩ := ob h
    obtain ⟨hk1, h1⟩ := ifg h1
    refine kV0 (ci := 4) (As := [.int a2]) (rest := []) hC hE hS hM (mt_X4_appendWord _ E this a2 _ _ h1) (gwV qw_566 qw_568 qw_23 qw_39 qw_569) ⟨rfl, rfl, (Nat.le_of_ble_eq_true rfl), (Nat.le_of_ble_eq_true rfl)⟩ dd_X4_appendWord rfl hk1 rfl rfl hl.1 (Nat.le_of_ble_eq_true rfl) dX4_append_27 ⟨(Nat.le_of_ble_eq_true rfl), (Nat.le_of_ble_eq_true rfl)⟩ (fun H locs hM hS => ?_)
    refine lv_aload_n hx hb dX4_append_30 rfl (lv_at hl 0 rfl) ?_
    refine lv_iload_n hx hb dX4_append_31 rfl (lv_at hl 3 rfl) ?_
    obtain ⟨M7, h1, h⟩ := ob h
    obtain ⟨hk1, h1⟩ := ifg h1
    refine kV0 (ci := 4) (As := [.int a3]) (rest := []) hC hE hS hM (mt_X4_appendWord _ E this a3 _ _ h1) (gwV qw_566 qw_568 qw_23 qw_39 qw_569) ⟨rfl, rfl, (Nat.le_of_ble_eq_true rfl), (Nat.le_of_ble_eq_true rfl)⟩ dd_X4_appendWord rfl hk1 rfl rfl hl.1 (Nat.le_of_ble_eq_true rfl) dX4_append_32 ⟨(Nat.le_of_ble_eq_true rfl), (Nat.le_of_ble_eq_true rfl)⟩ (fun H locs hM hS => ?_)
    refine lv_aload_n hx hb dX4_append_35 rfl (lv_at hl 0 rfl) ?_
    refine lv_iload hx hb dX4_append_36 (lv_at hl 4 rfl) ?_
    obtain ⟨M9, h1, h⟩ := ob h
    obtain ⟨hk1, h1⟩ := ifg h1
    refine kV0 (ci := 4) (As := [.int a4]) (rest := []) hC hE hS hM (mt_X4_appendWord _ E this a4 _ _ h1) (gwV qw_566 qw_568 qw_23 qw_39 qw_569) ⟨rfl, rfl, (Nat.le_of_ble_eq_true rfl), (Nat.le_of_ble_eq_true rfl)⟩ dd_X4_appendWord rfl hk1 rfl rfl hl.1 (Nat.le_of_ble_eq_true rfl) dX4_append_38 ⟨(Nat.le_of_ble_eq_true rfl), (Nat.le_of_ble_eq_true rfl)⟩ (fun H locs hM hS => ?_)
    refine lv_aload_n hx hb dX4_append_41 rfl (lv_at hl 0 rfl) ?_
    refine lv_iload hx hb dX4_append_42 (lv_at hl 5 rfl) ?_
    obtain ⟨M11, h1, h⟩ := ob h
    obtain ⟨hk1, h1⟩ := ifg h1
    refine kV0 (ci := 4) (As := [.int a5]) (rest := []) hC hE hS hM (mt_X4_appendWord _ E this a5 _ _ h1) (gwV qw_566 qw_568 qw_23 qw_39 qw_569) ⟨rfl, rfl, (Nat.le_of_ble_eq_true rfl), (Nat.le_of_ble_eq_true rfl)⟩ dd_X4_appendWord rfl hk1 rfl rfl hl.1 (Nat.le_of_ble_eq_true rfl) dX4_append_44 ⟨(Nat.le_of_ble_eq_true rfl), (Nat.le_of_ble_eq_true rfl)⟩ (fun H locs hM hS => ?_)
    refine lv_aload_n hx hb dX4_append_47 rfl (lv_at hl 0 rfl) ?_
    obtain ⟨v12, h1, h⟩ := ob h
    refine rg_4_1 hx hb hts hown hE hM qw_399 h1 dX4_append_48 ?_
    cases h
    exact xRet (eI hx hb hr hlocks hM hS dX4_append_51 (Nat.le_of_ble_eq_true rfl) (Nat.le_of_ble_eq_true rfl))
  · have h := ifn c1 h
    cases h
    exact xThr (i := 18) hfl hx hb hown hts hE hM hS (by decide) qw_510 qw_59 st_18 (ex_at hts hE ex_g2 ex_b2 (by decide)) (by decide +kernel) (hl.1.trans hml.symm) dX4_append_10 dX4_append_13 dX4_append_14 dX4_append_16 dX4_append_19 hout (Nat.le_of_ble_eq_true rfl) (Nat.le_of_ble_eq_true rfl) (Nat.le_of_ble_eq_true rfl) (Nat.le_of_ble_eq_true rfl) hlocks (Nat.le_of_ble_eq_true rfl) (Nat.le_of_ble_eq_true rfl)

theorem dd_X4_load : yX4_load.cls = RX4 ∧ yX4_load.cls ≠ "java/lang/invoke/MethodHandle" ∧ yX4_load.cls ≠ "java/lang/invoke/VarHandle" ∧ (parseMethodDescriptor yX4_load.desc).map (fun d => d.parameters.length) = some 1 := by decide +kernel
abbrev rm_X4_load : Room := ({ frames := 7, cells := 2, slots := 14, locals := 227 } : Room)
noncomputable def fj_X4_load_12  (M : Mem) : Option ((Int32 ⊕ Nat) × Mem) :=
  some (.inr 0, M)
set_option maxHeartbeats 4000000 in
set_option maxRecDepth 100000 in
theorem tj_X4_load_12 {p : Program} {l : Launch} {e : Env} {s : State} {m : MethodId} {args : Array Value} {below : List Frame} {meth : Method} {c : Code} {E : KEnv} {H : Heap} {locs : List Loc} {ls : Array Slot}  {M : Mem} {r : Int32 ⊕ Nat} {M' : Mem} (hfl : l.stackTraces = false) (hout : ∀ x ∈ c.exceptionTable.toList, False) (hC : CallFix p m c cX4_load 5 s args lw_G RX4) (hr : meth.sig.returnType = (some .int)) (hlocks : meth.locks = false) (hE : EnvOK E s) (h : fj_X4_load_12  M = some (r, M')) (hM : MOK E M H) (hS : va_S (eA E) s.heap H locs) (hl : lv_has ls 5 []) : W p l e rm_X4_load s m args below meth c H locs 0 0 (vx_MQ below (cQx E (vI r) M') (cXx E (vI r) M') args s 2 14 (eA E)) (F0 m 12 ls []) := by
  obtain ⟨hx, hb, hml, hown, hts⟩ := id hC
  unfold fj_X4_load_12 at h
  cases h
  exact xThr (i := 19) hfl hx hb hown hts hE hM hS (by decide) qw_443 qw_60 st_19 (ex_at hts hE ex_g0 ex_b0 (by decide)) (by decide +kernel) (hl.1.trans hml.symm) dX4_load_12 dX4_load_15 dX4_load_16 dX4_load_18 dX4_load_21 hout (Nat.le_of_ble_eq_true rfl) (Nat.le_of_ble_eq_true rfl) (Nat.le_of_ble_eq_true rfl) (Nat.le_of_ble_eq_true rfl) hlocks (Nat.le_of_ble_eq_true rfl) (Nat.le_of_ble_eq_true rfl)
noncomputable def fj_X4_load_129 (x0 : Nat) (M : Mem) : Option ((Int32 ⊕ Nat) × Mem) :=
  (gRn 5 134 x0 M).bind fun v23 =>
  (gI 4 96 v23 M).bind fun v24 =>
  some (.inl v24, M)
set_option maxHeartbeats 4000000 in
set_option maxRecDepth 100000 in
theorem tj_X4_load_129 {p : Program} {l : Launch} {e : Env} {s : State} {m : MethodId} {args : Array Value} {below : List Frame} {meth : Method} {c : Code} {E : KEnv} {H : Heap} {locs : List Loc} {ls : Array Slot} {x0 : Nat} {M : Mem} {r : Int32 ⊕ Nat} {M' : Mem} (hfl : l.stackTraces = false) (hout : ∀ x ∈ c.exceptionTable.toList, False) (hC : CallFix p m c cX4_load 5 s args lw_G RX4) (hr : meth.sig.returnType = (some .int)) (hlocks : meth.locks = false) (hE : EnvOK E s) (h : fj_X4_load_129 x0 M = some (r, M')) (hM : MOK E M H) (hS : va_S (eA E) s.heap H locs) (hl : lv_has ls 5 [(0, .ref x0)]) : W p l e rm_X4_load s m args below meth c H locs 1 8 (vx_MQ below (cQx E (vI r) M') (cXx E (vI r) M') args s 2 14 (eA E)) (F0 m 129 ls []) := by
  obtain ⟨hx, hb, hml, hown, hts⟩ := id hC
  unfold fj_X4_load_129 at h
  refine lv_aload_n hx hb dX4_load_129 rfl (lv_at hl 0 rfl) ?_
  obtain ⟨v23, h1, h⟩ := ob h
  refine rgn_4_6 hx hb hts hown hE hM qw_404 h1 dX4_load_130 ?_
  obtain ⟨v24, h1, h⟩ := ob h
  refine rg_3_0 hx hb hts hown hE hM qw_89 h1 dX4_load_133 ?_
  cases h
  exact xRet (eI hx hb hr hlocks hM hS dX4_load_136 (Nat.le_of_ble_eq_true rfl) (Nat.le_of_ble_eq_true rfl))
noncomputable def fc_X4_load_109 (x0 : Nat) (x4 : Int32) (M : Mem) : Option ((Int32 × Mem) ⊕ ((Int32 ⊕ Nat) × Mem)) :=
  (if (2 : Int32) ≤ x4 then
  (fj_X4_load_129 x0 M).map Sum.inr
  else
  (gRn 5 137 x0 M).bind fun v25 =>
  (sB0 11 v25 x4 M).bind fun M26 =>
  some (.inl (x4 + 1, M26)))
noncomputable def fj_X4_load_109 (x0 : Nat) (x4 : Int32) (M : Mem) : Option ((Int32 ⊕ Nat) × Mem) := loopM (fun q : (Int32 × Mem) => fc_X4_load_109 x0 q.1 q.2) FU (x4, M)
set_option maxHeartbeats 4000000 in
set_option maxRecDepth 100000 in
theorem tj_X4_load_109 {p : Program} {l : Launch} {e : Env} {s : State} {m : MethodId} {args : Array Value} {below : List Frame} {meth : Method} {c : Code} {E : KEnv} {H : Heap} {locs : List Loc} {ls : Array Slot} {x0 : Nat} {x4 : Int32} {M : Mem} {r : Int32 ⊕ Nat} {M' : Mem} (hfl : l.stackTraces = false) (hout : ∀ x ∈ c.exceptionTable.toList, False) (hC : CallFix p m c cX4_load 5 s args lw_G RX4) (hr : meth.sig.returnType = (some .int)) (hlocks : meth.locks = false) (hE : EnvOK E s) (h : fj_X4_load_109 x0 x4 M = some (r, M')) (hM : MOK E M H) (hS : va_S (eA E) s.heap H locs) (hl : lv_has ls 5 [(0, .ref x0), (4, .int x4)]) : W p l e rm_X4_load s m args below meth c H locs 1 8 (vx_MQ below (cQx E (vI r) M') (cXx E (vI r) M') args s 2 14 (eA E)) (F0 m 109 ls []) := by
  refine loopM_ind (body := fun q : (Int32 × Mem) => fc_X4_load_109 x0 q.1 q.2) (x0 := (r, M')) (Wd := fun q : (Int32 × Mem) => ∀ (H : Heap) (locs : List Loc) (ls : Array Slot), MOK E (q.2) H → va_S (eA E) s.heap H locs → lv_has ls 5 [(0, .ref x0), (4, .int q.1)] → W p l e rm_X4_load s m args below meth c H locs 1 8 (vx_MQ below (cQx E (vI r) M') (cXx E (vI r) M') args s 2 14 (eA E)) (F0 m 109 ls [])) ?_ FU (x4, M) h H locs ls hM hS hl
  clear h hM hS hl H locs ls M x4
  obtain ⟨hx, hb, hml, hown, hts⟩ := id hC
  intro q y1 h hy1 H locs ls hM hS hl
  obtain ⟨x4, M⟩ := q
  have h : fc_X4_load_109 x0 x4 M = some y1 := h
  have hM : MOK E M H := hM
  have hl : lv_has ls 5 [(0, .ref x0), (4, .int x4)] := hl
  unfold fc_X4_load_109 at h
  show W p l e rm_X4_load s m args below meth c H locs _ _ _ _
  refine lv_iload hx hb dX4_load_109 (lv_at hl 1 rfl) ?_
  refine lv_iconst (v := 2) hx hb dX4_load_111 (by decide) ?_
  refine lv_icmp_ge (tgt := 129) hx hb dX4_load_112 (by decide) (fun c1 => ?_) (fun c1 => ?_)
  · have h := ifp c1 h
    obtain ⟨z0, h9, rfl⟩ := om h
    have e0 := hy1.2 _ rfl
    subst e0
    have h := h9
    refine W.widen (k := 1) (n := 8) (Nat.le_of_ble_eq_true rfl) (Nat.le_of_ble_eq_true rfl) ?_
    exact tj_X4_load_129 hfl hout  hC hr hlocks hE  h hM hS (lv_sub hl [0] rfl)
  · have h := ifn c1 h
    refine lv_aload_n hx hb dX4_load_115 rfl (lv_at hl 0 rfl) ?_
    obtain ⟨v25, h1, h⟩ := ob h
    refine rgn_4_9 hx hb hts hown hE hM qw_407 h1 dX4_load_116 ?_
    refine lv_iload hx hb dX4_load_119 (lv_at hl 1 rfl) ?_
    refine lv_null hx hb dX4_load_121 ?_
    obtain ⟨M26, h1, h⟩ := ob h
    refine r_ast0W hx hb hE hM hS h1 dX4_load_122 (fun H locs hM hS => ?_)
    refine lv_iinc (v := x4 + 1) (lv' := [(4, .int (x4 + 1)), (0, .ref x0)]) hx hb dX4_load_123 hl (k := 1) rfl rfl (by decide) rfl (fun ls hl => ?_)
    refine lv_goto (tgt := 109) hx hb dX4_load_126 (by decide) ?_
    cases h
    exact hy1.1 _ rfl _ _ _ hM hS (lv_sub hl [1, 0] rfl)
noncomputable def f_X4_load (this : Nat) (a1 : Int32) (M : Mem) : Option ((Int32 ⊕ Nat) × Mem) :=
  (if a1 < 0 then
  fj_X4_load_12 M
  else
  (gI 5 129 this M).bind fun v1 =>
  (if a1 ≤ v1 then
  bnew 2 M fun v2 M3 =>
  (gRn 5 128 this M3).bind fun v4 =>
  (gRn 5 135 this M3).bind fun v5 =>
  (f_X1_init v2 v4 a1 v5 M3).bind fun M7 =>
  (cK 2 v2 M7 (f_X1_parse v2 M7)).bind fun M9 =>
  (sI 5 129 this 0 M9).bind fun M10 =>
  (gI 2 38 v2 M10).bind fun v11 =>
  (sI 5 130 this v11 M10).bind fun M12 =>
  (gI 2 39 v2 M12).bind fun v13 =>
  (sI 5 131 this v13 M12).bind fun M14 =>
  (gI 5 130 this M14).bind fun v15 =>
  (if v15 = 0 then
  (gRn 5 134 this M14).bind fun v16 =>
  (gRn 5 135 this M14).bind fun v17 =>
  (sR 5 134 this (some v17) M14).bind fun M18 =>
  (sR 5 135 this (some v16) M18).bind fun M19 =>
  (gRn 5 136 this M19).bind fun v20 =>
  (cK 1 v20 M19 (f_X0_forget v20 M19)).bind fun M22 =>
  fj_X4_load_109 this 0 M22
  else
  some (.inr 1, M14))
  else
  fj_X4_load_12 M))
set_option maxHeartbeats 4000000 in
set_option maxRecDepth 100000 in
theorem mt_X4_load (l : Launch) (hfl : l.stackTraces = false) (E : KEnv) (this : Nat) (a1 : Int32) (M M' : Mem) (r : Int32 ⊕ Nat) (h : f_X4_load this a1 M = some (r, M')) : vx_Met l yX4_load (Cond.code yX4_load cX4_load 5 (some .int) :: lw_G) rm_X4_load (cPc E [.ref this, .int a1] M) (cQx E (vI r) M') (cXx E (vI r) M') 2 14 (eA E) := by
  refine vx_ofW (cc := cX4_load) (maxL := 5) (ret := (some .int)) (by decide) rfl ?_
  intro p e s m args below meth c s₁ B hml hout hv
  obtain ⟨rfl, hE, hM⟩ := hv
  have hx := B.exec
  have hb := B.bytes
  have hr := B.returns
  have hts0 := atoms_spec (ws := Cond.code yX4_load cX4_load 5 (some .int) :: lw_G) B.pre
  have hts : ∀ w ∈ lw_G, w.before _ s = true := fun w hw => hts0 w (List.mem_cons_of_mem _ hw)
  have hown : s.vm.findClass RX4 = some m.cls := findClass_of_methodNamed B.named
  have hlocks := B.notSynchronized
  have hC : CallFix p m c cX4_load 5 s _ lw_G RX4 := ⟨hx, hb, hml, hown, hts⟩
  have hS : va_S (eA E) s.heap s.heap [] := va_S.rf
  have hl := lv_entry ([.ref this, .int a1]) (n := 5) (Nat.le_of_ble_eq_true rfl)
  rw [lg_entry_eq]
  generalize (lg_sl ([.ref this, .int a1]) ++ List.replicate (5 - (lg_sl ([.ref this, .int a1])).length) Slot.unset).toArray = ls at hl ⊢
  have hl : lv_has ls 5 [(0, .ref this), (1, .int a1)] := hl
  unfold f_X4_load at h
  show W p l e rm_X4_load s m _ below meth c s.heap [] 0 0 _ _
  refine lv_iload_n hx hb dX4_load_0 rfl (lv_at hl 1 rfl) ?_
  refine lv_if_lt (tgt := 12) hx hb dX4_load_1 (by decide) (fun c1 => ?_) (fun c1 => ?_)
  · have h := ifp c1 h
    refine W.widen (k := 0) (n := 0) (Nat.le_of_ble_eq_true rfl) (Nat.le_of_ble_eq_true rfl) ?_
    exact tj_X4_load_12 hfl hout  hC hr hlocks hE  h hM hS (lv_sub hl [] rfl)
  · have h := ifn c1 h
    refine lv_iload_n hx hb dX4_load_4 rfl (lv_at hl 1 rfl) ?_
    refine lv_aload_n hx hb dX4_load_5 rfl (lv_at hl 0 rfl) ?_
    obtain ⟨v1, h1, h⟩ := ob h
    refine rg_4_1 hx hb hts hown hE hM qw_399 h1 dX4_load_6 ?_
    refine lv_icmp_le (tgt := 22) hx hb dX4_load_9 (by decide) (fun c1 => ?_) (fun c1 => ?_)
    · have h := ifp c1 h
      obtain ⟨v2, M3, eq, eM, h⟩ := obnew h
      refine rn_1 hx hb hts hown hE hM hS qw_144 qw_145 qw_43 eq eM (Nat.le_of_ble_eq_true rfl) (Nat.le_of_ble_eq_true rfl) dX4_load_22 (fun H hM hS => ?_)
      refine lv_dup hx hb dX4_load_25 rfl ?_
      refine lv_aload_n hx hb dX4_load_26 rfl (lv_at hl 0 rfl) ?_
      obtain ⟨v4, h1, h⟩ := ob h
      refine rgn_4_0 hx hb hts hown hE hM qw_398 h1 dX4_load_27 ?_
      refine lv_iload_n hx hb dX4_load_30 rfl (lv_at hl 1 rfl) ?_
      refine lv_aload_n hx hb dX4_load_31 rfl (lv_at hl 0 rfl) ?_
      obtain ⟨v5, h1, h⟩ := ob h
      refine rgn_4_7 hx hb hts hown hE hM qw_405 h1 dX4_load_32 ?_
      obtain ⟨M7, h1, h⟩ := ob h
      refine kI (As := [.ref v4, .int a1, .ref v5]) (rest := [.ref v2]) hC hE hS hM (mt_X1_init _ E v2 v4 a1 v5 _ _ h1) qw_202 qw_200 qw_201 qw_43 ⟨rfl, rfl, (Nat.le_of_ble_eq_true rfl), (Nat.le_of_ble_eq_true rfl)⟩ dd_X1_init.2 rfl rfl rfl hl.1 (Nat.le_of_ble_eq_true rfl) dX4_load_35 ⟨(Nat.le_of_ble_eq_true rfl), (Nat.le_of_ble_eq_true rfl)⟩ (fun H locs hM hS => ?_)
      refine lv_astore_n (lv' := [(2, .ref v2), (0, .ref this), (1, .int a1)]) hx hb dX4_load_38 rfl hl (by decide) rfl (fun ls hl => ?_)
      refine lv_aload_n hx hb dX4_load_39 rfl (lv_at hl 0 rfl) ?_
      obtain ⟨M9, h1, h⟩ := ob h
      obtain ⟨hk1, h1⟩ := ifg h1
      refine kV0 (ci := 1) (As := []) (rest := []) hC hE hS hM (mt_X1_parse _ E v2 _ _ h1) (gwV qw_232 qw_233 qw_234 qw_43 qw_235) ⟨rfl, rfl, (Nat.le_of_ble_eq_true rfl), (Nat.le_of_ble_eq_true rfl)⟩ dd_X1_parse rfl hk1 rfl rfl hl.1 (Nat.le_of_ble_eq_true rfl) dX4_load_40 ⟨(Nat.le_of_ble_eq_true rfl), (Nat.le_of_ble_eq_true rfl)⟩ (fun H locs hM hS => ?_)
      refine lv_aload_n hx hb dX4_load_43 rfl (lv_at hl 1 rfl) ?_
      refine lv_iconst (v := 0) hx hb dX4_load_44 (by decide) ?_
      obtain ⟨M10, h1, h⟩ := ob h
      refine rp_4_1 hx hb hts hown hE hM qw_399 hS h1 dX4_load_45 (fun H locs hM hS => ?_)
      refine lv_aload_n hx hb dX4_load_48 rfl (lv_at hl 1 rfl) ?_
      refine lv_aload_n hx hb dX4_load_49 rfl (lv_at hl 0 rfl) ?_
      obtain ⟨v11, h1, h⟩ := ob h
      refine rg_1_6 hx hb hts hown hE hM qw_211 h1 dX4_load_50 ?_
      obtain ⟨M12, h1, h⟩ := ob h
      refine rp_4_2 hx hb hts hown hE hM qw_400 hS h1 dX4_load_53 (fun H locs hM hS => ?_)
      refine lv_aload_n hx hb dX4_load_56 rfl (lv_at hl 1 rfl) ?_
      refine lv_aload_n hx hb dX4_load_57 rfl (lv_at hl 0 rfl) ?_
      obtain ⟨v13, h1, h⟩ := ob h
      refine rg_1_7 hx hb hts hown hE hM qw_213 h1 dX4_load_58 ?_
      obtain ⟨M14, h1, h⟩ := ob h
      refine rp_4_3 hx hb hts hown hE hM qw_401 hS h1 dX4_load_61 (fun H locs hM hS => ?_)
      refine lv_aload_n hx hb dX4_load_64 rfl (lv_at hl 1 rfl) ?_
      obtain ⟨v15, h1, h⟩ := ob h
      refine rg_4_2 hx hb hts hown hE hM qw_400 h1 dX4_load_65 ?_
      refine lv_if_eq (tgt := 81) hx hb dX4_load_68 (by decide) (fun c1 => ?_) (fun c1 => ?_)
      · have h := ifp c1 h
        refine lv_aload_n hx hb dX4_load_81 rfl (lv_at hl 1 rfl) ?_
        obtain ⟨v16, h1, h⟩ := ob h
        refine rgn_4_6 hx hb hts hown hE hM qw_404 h1 dX4_load_82 ?_
        refine lv_astore_n (lv' := [(3, .ref v16), (2, .ref v2), (0, .ref this), (1, .int a1)]) hx hb dX4_load_85 rfl hl (by decide) rfl (fun ls hl => ?_)
        refine lv_aload_n hx hb dX4_load_86 rfl (lv_at hl 2 rfl) ?_
        refine lv_aload_n hx hb dX4_load_87 rfl (lv_at hl 2 rfl) ?_
        obtain ⟨v17, h1, h⟩ := ob h
        refine rgn_4_7 hx hb hts hown hE hM qw_405 h1 dX4_load_88 ?_
        obtain ⟨M18, h1, h⟩ := ob h
        refine rp_4_6 hx hb hts hown hE hM qw_404 hS h1 dX4_load_91 (fun H locs hM hS => ?_)
        refine lv_aload_n hx hb dX4_load_94 rfl (lv_at hl 2 rfl) ?_
        refine lv_aload_n hx hb dX4_load_95 rfl (lv_at hl 0 rfl) ?_
        obtain ⟨M19, h1, h⟩ := ob h
        refine rp_4_7 hx hb hts hown hE hM qw_405 hS h1 dX4_load_96 (fun H locs hM hS => ?_)
        refine lv_aload_n hx hb dX4_load_99 rfl (lv_at hl 2 rfl) ?_
        obtain ⟨v20, h1, h⟩ := ob h
        refine rgn_4_8 hx hb hts hown hE hM qw_406 h1 dX4_load_100 ?_
        obtain ⟨M22, h1, h⟩ := ob h
        obtain ⟨hk1, h1⟩ := ifg h1
        refine kV0 (ci := 0) (As := []) (rest := []) hC hE hS hM (mt_X0_forget _ E v20 _ _ h1) (gwV qw_591 qw_592 qw_593 qw_42 qw_594) ⟨rfl, rfl, (Nat.le_of_ble_eq_true rfl), (Nat.le_of_ble_eq_true rfl)⟩ dd_X0_forget rfl hk1 rfl rfl hl.1 (Nat.le_of_ble_eq_true rfl) dX4_load_103 ⟨(Nat.le_of_ble_eq_true rfl), (Nat.le_of_ble_eq_true rfl)⟩ (fun H locs hM hS => ?_)
        refine lv_iconst (v := 0) hx hb dX4_load_106 (by decide) ?_
        refine lv_istore (lv' := [(4, .int 0), (3, .ref v16), (2, .ref v2), (0, .ref this), (1, .int a1)]) hx hb dX4_load_107 hl (by decide) rfl (fun ls hl => ?_)
        refine W.widen (k := 1) (n := 8) (Nat.le_of_ble_eq_true rfl) (Nat.le_of_ble_eq_true rfl) ?_
        exact tj_X4_load_109 hfl hout  hC hr hlocks hE  h hM hS (lv_sub hl [3, 0] rfl)
      · have h := ifn c1 h
        cases h
        exact xThr (i := 20) hfl hx hb hown hts hE hM hS (by decide) qw_575 qw_58 st_20 (ex_at hts hE ex_g1 ex_b1 (by decide)) (by decide +kernel) (hl.1.trans hml.symm) dX4_load_71 dX4_load_74 dX4_load_75 dX4_load_77 dX4_load_80 hout (Nat.le_of_ble_eq_true rfl) (Nat.le_of_ble_eq_true rfl) (Nat.le_of_ble_eq_true rfl) (Nat.le_of_ble_eq_true rfl) hlocks (Nat.le_of_ble_eq_true rfl) (Nat.le_of_ble_eq_true rfl)
    · have h := ifn c1 h
      refine W.widen (k := 0) (n := 0) (Nat.le_of_ble_eq_true rfl) (Nat.le_of_ble_eq_true rfl) ?_
      exact tj_X4_load_12 hfl hout  hC hr hlocks hE  h hM hS (lv_sub hl [] rfl)

theorem dd_X4_replicaCount : yX4_replicaCount.cls = RX4 ∧ yX4_replicaCount.cls ≠ "java/lang/invoke/MethodHandle" ∧ yX4_replicaCount.cls ≠ "java/lang/invoke/VarHandle" ∧ (parseMethodDescriptor yX4_replicaCount.desc).map (fun d => d.parameters.length) = some 0 := by decide +kernel
abbrev rm_X4_replicaCount : Room := ({ frames := 0, cells := 0, slots := 0, locals := 0 } : Room)
noncomputable def f_X4_replicaCount (this : Nat) (M : Mem) : Option (Int32 × Mem) :=
  (gRn 5 134 this M).bind fun v1 =>
  (gI 4 96 v1 M).bind fun v2 =>
  some (v2, M)
set_option maxHeartbeats 4000000 in
set_option maxRecDepth 100000 in
theorem mt_X4_replicaCount (l : Launch) (E : KEnv) (this : Nat) (M M' : Mem) (v : Int32) (h : f_X4_replicaCount this M = some (v, M')) : Met l yX4_replicaCount (Cond.code yX4_replicaCount cX4_replicaCount 1 (some .int) :: lw_G) rm_X4_replicaCount (cPc E [.ref this] M) (cQ E (some (.int v)) M') 0 0 (eA E) := by
  refine Met.ofW (cc := cX4_replicaCount) (maxL := 1) (ret := (some .int)) (by decide) rfl ?_
  intro p e s m args below meth c s₁ B hml hv
  obtain ⟨rfl, hE, hM⟩ := hv
  have hx := B.exec
  have hb := B.bytes
  have hr := B.returns
  have hts0 := atoms_spec (ws := Cond.code yX4_replicaCount cX4_replicaCount 1 (some .int) :: lw_G) B.pre
  have hts : ∀ w ∈ lw_G, w.before _ s = true := fun w hw => hts0 w (List.mem_cons_of_mem _ hw)
  have hown : s.vm.findClass RX4 = some m.cls := findClass_of_methodNamed B.named
  have hlocks := B.notSynchronized
  have hC : CallFix p m c cX4_replicaCount 1 s _ lw_G RX4 := ⟨hx, hb, hml, hown, hts⟩
  have hS : va_S (eA E) s.heap s.heap [] := va_S.rf
  have hl := lv_entry ([.ref this]) (n := 1) (Nat.le_of_ble_eq_true rfl)
  rw [lg_entry_eq]
  generalize (lg_sl ([.ref this]) ++ List.replicate (1 - (lg_sl ([.ref this])).length) Slot.unset).toArray = ls at hl ⊢
  have hl : lv_has ls 1 [(0, .ref this)] := hl
  unfold f_X4_replicaCount at h
  show W p l e rm_X4_replicaCount s m _ below meth c s.heap [] 0 0 _ _
  refine lv_aload_n hx hb dX4_replicaCount_0 rfl (lv_at hl 0 rfl) ?_
  obtain ⟨v1, h1, h⟩ := ob h
  refine rgn_4_6 hx hb hts hown hE hM qw_404 h1 dX4_replicaCount_1 ?_
  obtain ⟨v2, h1, h⟩ := ob h
  refine rg_3_0 hx hb hts hown hE hM qw_89 h1 dX4_replicaCount_4 ?_
  cases h
  exact eI hx hb hr hlocks hM hS dX4_replicaCount_7 (Nat.le_of_ble_eq_true rfl) (Nat.le_of_ble_eq_true rfl)

theorem dd_X4_counterCount : yX4_counterCount.cls = RX4 ∧ yX4_counterCount.cls ≠ "java/lang/invoke/MethodHandle" ∧ yX4_counterCount.cls ≠ "java/lang/invoke/VarHandle" ∧ (parseMethodDescriptor yX4_counterCount.desc).map (fun d => d.parameters.length) = some 0 := by decide +kernel
abbrev rm_X4_counterCount : Room := ({ frames := 0, cells := 0, slots := 0, locals := 0 } : Room)
noncomputable def f_X4_counterCount (this : Nat) (M : Mem) : Option (Int32 × Mem) :=
  (gRn 5 134 this M).bind fun v1 =>
  (gI 4 97 v1 M).bind fun v2 =>
  some (v2, M)
set_option maxHeartbeats 4000000 in
set_option maxRecDepth 100000 in
theorem mt_X4_counterCount (l : Launch) (E : KEnv) (this : Nat) (M M' : Mem) (v : Int32) (h : f_X4_counterCount this M = some (v, M')) : Met l yX4_counterCount (Cond.code yX4_counterCount cX4_counterCount 1 (some .int) :: lw_G) rm_X4_counterCount (cPc E [.ref this] M) (cQ E (some (.int v)) M') 0 0 (eA E) := by
  refine Met.ofW (cc := cX4_counterCount) (maxL := 1) (ret := (some .int)) (by decide) rfl ?_
  intro p e s m args below meth c s₁ B hml hv
  obtain ⟨rfl, hE, hM⟩ := hv
  have hx := B.exec
  have hb := B.bytes
  have hr := B.returns
  have hts0 := atoms_spec (ws := Cond.code yX4_counterCount cX4_counterCount 1 (some .int) :: lw_G) B.pre
  have hts : ∀ w ∈ lw_G, w.before _ s = true := fun w hw => hts0 w (List.mem_cons_of_mem _ hw)
  have hown : s.vm.findClass RX4 = some m.cls := findClass_of_methodNamed B.named
  have hlocks := B.notSynchronized
  have hC : CallFix p m c cX4_counterCount 1 s _ lw_G RX4 := ⟨hx, hb, hml, hown, hts⟩
  have hS : va_S (eA E) s.heap s.heap [] := va_S.rf
  have hl := lv_entry ([.ref this]) (n := 1) (Nat.le_of_ble_eq_true rfl)
  rw [lg_entry_eq]
  generalize (lg_sl ([.ref this]) ++ List.replicate (1 - (lg_sl ([.ref this])).length) Slot.unset).toArray = ls at hl ⊢
  have hl : lv_has ls 1 [(0, .ref this)] := hl
  unfold f_X4_counterCount at h
  show W p l e rm_X4_counterCount s m _ below meth c s.heap [] 0 0 _ _
  refine lv_aload_n hx hb dX4_counterCount_0 rfl (lv_at hl 0 rfl) ?_
  obtain ⟨v1, h1, h⟩ := ob h
  refine rgn_4_6 hx hb hts hown hE hM qw_404 h1 dX4_counterCount_1 ?_
  obtain ⟨v2, h1, h⟩ := ob h
  refine rg_3_1 hx hb hts hown hE hM qw_93 h1 dX4_counterCount_4 ?_
  cases h
  exact eI hx hb hr hlocks hM hS dX4_counterCount_7 (Nat.le_of_ble_eq_true rfl) (Nat.le_of_ble_eq_true rfl)

theorem dd_X4_registerCount : yX4_registerCount.cls = RX4 ∧ yX4_registerCount.cls ≠ "java/lang/invoke/MethodHandle" ∧ yX4_registerCount.cls ≠ "java/lang/invoke/VarHandle" ∧ (parseMethodDescriptor yX4_registerCount.desc).map (fun d => d.parameters.length) = some 0 := by decide +kernel
abbrev rm_X4_registerCount : Room := ({ frames := 0, cells := 0, slots := 0, locals := 0 } : Room)
noncomputable def f_X4_registerCount (this : Nat) (M : Mem) : Option (Int32 × Mem) :=
  (gRn 5 134 this M).bind fun v1 =>
  (gI 4 98 v1 M).bind fun v2 =>
  some (v2, M)
set_option maxHeartbeats 4000000 in
set_option maxRecDepth 100000 in
theorem mt_X4_registerCount (l : Launch) (E : KEnv) (this : Nat) (M M' : Mem) (v : Int32) (h : f_X4_registerCount this M = some (v, M')) : Met l yX4_registerCount (Cond.code yX4_registerCount cX4_registerCount 1 (some .int) :: lw_G) rm_X4_registerCount (cPc E [.ref this] M) (cQ E (some (.int v)) M') 0 0 (eA E) := by
  refine Met.ofW (cc := cX4_registerCount) (maxL := 1) (ret := (some .int)) (by decide) rfl ?_
  intro p e s m args below meth c s₁ B hml hv
  obtain ⟨rfl, hE, hM⟩ := hv
  have hx := B.exec
  have hb := B.bytes
  have hr := B.returns
  have hts0 := atoms_spec (ws := Cond.code yX4_registerCount cX4_registerCount 1 (some .int) :: lw_G) B.pre
  have hts : ∀ w ∈ lw_G, w.before _ s = true := fun w hw => hts0 w (List.mem_cons_of_mem _ hw)
  have hown : s.vm.findClass RX4 = some m.cls := findClass_of_methodNamed B.named
  have hlocks := B.notSynchronized
  have hC : CallFix p m c cX4_registerCount 1 s _ lw_G RX4 := ⟨hx, hb, hml, hown, hts⟩
  have hS : va_S (eA E) s.heap s.heap [] := va_S.rf
  have hl := lv_entry ([.ref this]) (n := 1) (Nat.le_of_ble_eq_true rfl)
  rw [lg_entry_eq]
  generalize (lg_sl ([.ref this]) ++ List.replicate (1 - (lg_sl ([.ref this])).length) Slot.unset).toArray = ls at hl ⊢
  have hl : lv_has ls 1 [(0, .ref this)] := hl
  unfold f_X4_registerCount at h
  show W p l e rm_X4_registerCount s m _ below meth c s.heap [] 0 0 _ _
  refine lv_aload_n hx hb dX4_registerCount_0 rfl (lv_at hl 0 rfl) ?_
  obtain ⟨v1, h1, h⟩ := ob h
  refine rgn_4_6 hx hb hts hown hE hM qw_404 h1 dX4_registerCount_1 ?_
  obtain ⟨v2, h1, h⟩ := ob h
  refine rg_3_2 hx hb hts hown hE hM qw_95 h1 dX4_registerCount_4 ?_
  cases h
  exact eI hx hb hr hlocks hM hS dX4_registerCount_7 (Nat.le_of_ble_eq_true rfl) (Nat.le_of_ble_eq_true rfl)

theorem dd_X4_requireReplica : yX4_requireReplica.cls = RX4 ∧ yX4_requireReplica.cls ≠ "java/lang/invoke/MethodHandle" ∧ yX4_requireReplica.cls ≠ "java/lang/invoke/VarHandle" ∧ (parseMethodDescriptor yX4_requireReplica.desc).map (fun d => d.parameters.length) = some 1 := by decide +kernel
abbrev rm_X4_requireReplica : Room := ({ frames := 6, cells := 1, slots := 6, locals := 90 } : Room)
noncomputable def fj_X4_requireReplica_15  (M : Mem) : Option ((Unit ⊕ Nat) × Mem) :=
  some (.inr 0, M)
set_option maxHeartbeats 4000000 in
set_option maxRecDepth 100000 in
theorem tj_X4_requireReplica_15 {p : Program} {l : Launch} {e : Env} {s : State} {m : MethodId} {args : Array Value} {below : List Frame} {meth : Method} {c : Code} {E : KEnv} {H : Heap} {locs : List Loc} {ls : Array Slot}  {M : Mem} {r : Unit ⊕ Nat} {M' : Mem} (hfl : l.stackTraces = false) (hout : ∀ x ∈ c.exceptionTable.toList, False) (hC : CallFix p m c cX4_requireReplica 2 s args lw_G RX4) (hr : meth.sig.returnType = none) (hlocks : meth.locks = false) (hE : EnvOK E s) (h : fj_X4_requireReplica_15  M = some (r, M')) (hM : MOK E M H) (hS : va_S (eA E) s.heap H locs) (hl : lv_has ls 2 []) : W p l e rm_X4_requireReplica s m args below meth c H locs 0 0 (vx_MQ below (cQx E (vU r) M') (cXx E (vU r) M') args s 1 6 (eA E)) (F0 m 15 ls []) := by
  obtain ⟨hx, hb, hml, hown, hts⟩ := id hC
  unfold fj_X4_requireReplica_15 at h
  cases h
  exact xThrW (i := 21) hfl hx hb hown hts hE hM hS (by decide) qw_443 qw_60 st_21 (ex_at hts hE ex_g0 ex_b0 (by decide)) (by decide +kernel) (hl.1.trans hml.symm) dX4_requireReplica_15 dX4_requireReplica_18 dX4_requireReplica_19 dX4_requireReplica_22 dX4_requireReplica_25 hout (Nat.le_of_ble_eq_true rfl) (Nat.le_of_ble_eq_true rfl) (Nat.le_of_ble_eq_true rfl) (Nat.le_of_ble_eq_true rfl) hlocks (Nat.le_of_ble_eq_true rfl) (Nat.le_of_ble_eq_true rfl)
noncomputable def f_X4_requireReplica (this : Nat) (a1 : Int32) (M : Mem) : Option ((Unit ⊕ Nat) × Mem) :=
  (if a1 < 0 then
  fj_X4_requireReplica_15 M
  else
  (gRn 5 134 this M).bind fun v1 =>
  (gI 4 96 v1 M).bind fun v2 =>
  (if a1 < v2 then
  some (.inl (), M)
  else
  fj_X4_requireReplica_15 M))
set_option maxHeartbeats 4000000 in
set_option maxRecDepth 100000 in
theorem mt_X4_requireReplica (l : Launch) (hfl : l.stackTraces = false) (E : KEnv) (this : Nat) (a1 : Int32) (M M' : Mem) (r : Unit ⊕ Nat) (h : f_X4_requireReplica this a1 M = some (r, M')) : vx_Met l yX4_requireReplica (Cond.code yX4_requireReplica cX4_requireReplica 2 none :: lw_G) rm_X4_requireReplica (cPc E [.ref this, .int a1] M) (cQx E (vU r) M') (cXx E (vU r) M') 1 6 (eA E) := by
  refine vx_ofW (cc := cX4_requireReplica) (maxL := 2) (ret := none) (by decide) rfl ?_
  intro p e s m args below meth c s₁ B hml hout hv
  obtain ⟨rfl, hE, hM⟩ := hv
  have hx := B.exec
  have hb := B.bytes
  have hr := B.returns
  have hts0 := atoms_spec (ws := Cond.code yX4_requireReplica cX4_requireReplica 2 none :: lw_G) B.pre
  have hts : ∀ w ∈ lw_G, w.before _ s = true := fun w hw => hts0 w (List.mem_cons_of_mem _ hw)
  have hown : s.vm.findClass RX4 = some m.cls := findClass_of_methodNamed B.named
  have hlocks := B.notSynchronized
  have hC : CallFix p m c cX4_requireReplica 2 s _ lw_G RX4 := ⟨hx, hb, hml, hown, hts⟩
  have hS : va_S (eA E) s.heap s.heap [] := va_S.rf
  have hl := lv_entry ([.ref this, .int a1]) (n := 2) (Nat.le_of_ble_eq_true rfl)
  rw [lg_entry_eq]
  generalize (lg_sl ([.ref this, .int a1]) ++ List.replicate (2 - (lg_sl ([.ref this, .int a1])).length) Slot.unset).toArray = ls at hl ⊢
  have hl : lv_has ls 2 [(0, .ref this), (1, .int a1)] := hl
  unfold f_X4_requireReplica at h
  show W p l e rm_X4_requireReplica s m _ below meth c s.heap [] 0 0 _ _
  refine lv_iload_n hx hb dX4_requireReplica_0 rfl (lv_at hl 1 rfl) ?_
  refine lv_if_lt (tgt := 15) hx hb dX4_requireReplica_1 (by decide) (fun c1 => ?_) (fun c1 => ?_)
  · have h := ifp c1 h
    refine W.widen (k := 0) (n := 0) (Nat.le_of_ble_eq_true rfl) (Nat.le_of_ble_eq_true rfl) ?_
    exact tj_X4_requireReplica_15 hfl hout  hC hr hlocks hE  h hM hS (lv_sub hl [] rfl)
  · have h := ifn c1 h
    refine lv_iload_n hx hb dX4_requireReplica_4 rfl (lv_at hl 1 rfl) ?_
    refine lv_aload_n hx hb dX4_requireReplica_5 rfl (lv_at hl 0 rfl) ?_
    obtain ⟨v1, h1, h⟩ := ob h
    refine rgn_4_6 hx hb hts hown hE hM qw_404 h1 dX4_requireReplica_6 ?_
    obtain ⟨v2, h1, h⟩ := ob h
    refine rg_3_0 hx hb hts hown hE hM qw_89 h1 dX4_requireReplica_9 ?_
    refine lv_icmp_lt (tgt := 26) hx hb dX4_requireReplica_12 (by decide) (fun c1 => ?_) (fun c1 => ?_)
    · have h := ifp c1 h
      cases h
      exact xRet (eV_ hx hb hr hlocks hM hS dX4_requireReplica_26 (Nat.le_of_ble_eq_true rfl) (Nat.le_of_ble_eq_true rfl))
    · have h := ifn c1 h
      refine W.widen (k := 0) (n := 0) (Nat.le_of_ble_eq_true rfl) (Nat.le_of_ble_eq_true rfl) ?_
      exact tj_X4_requireReplica_15 hfl hout  hC hr hlocks hE  h hM hS (lv_sub hl [] rfl)

theorem dd_X4_stateOf : yX4_stateOf.cls = RX4 ∧ yX4_stateOf.cls ≠ "java/lang/invoke/MethodHandle" ∧ yX4_stateOf.cls ≠ "java/lang/invoke/VarHandle" ∧ (parseMethodDescriptor yX4_stateOf.desc).map (fun d => d.parameters.length) = some 1 := by decide +kernel
abbrev rm_X4_stateOf : Room := ({ frames := 7, cells := 1, slots := 6, locals := 111 } : Room)
noncomputable def f_X4_stateOf (this : Nat) (a1 : Int32) (M : Mem) : Option ((Nat ⊕ Nat) × Mem) :=
  bx (cK 5 this M (f_X4_requireReplica this a1 M)) (fun ex M => some ((.inr ex, M))) fun v1 M2 =>
  (gRn 5 134 this M2).bind fun v3 =>
  (gRn 4 100 v3 M2).bind fun v4 =>
  (gBn 10 v4 a1 M2).bind fun v5 =>
  some (.inl v5, M2)
set_option maxHeartbeats 4000000 in
set_option maxRecDepth 100000 in
theorem mt_X4_stateOf (l : Launch) (hfl : l.stackTraces = false) (E : KEnv) (this : Nat) (a1 : Int32) (M M' : Mem) (r : Nat ⊕ Nat) (h : f_X4_stateOf this a1 M = some (r, M')) : vx_Met l yX4_stateOf (Cond.code yX4_stateOf cX4_stateOf 2 (some (.object "OfflineNotes$State")) :: lw_G) rm_X4_stateOf (cPc E [.ref this, .int a1] M) (cQx E (vN r) M') (cXx E (vN r) M') 1 6 (eA E) := by
  refine vx_ofW (cc := cX4_stateOf) (maxL := 2) (ret := (some (.object "OfflineNotes$State"))) (by decide) rfl ?_
  intro p e s m args below meth c s₁ B hml hout hv
  obtain ⟨rfl, hE, hM⟩ := hv
  have hx := B.exec
  have hb := B.bytes
  have hr := B.returns
  have hts0 := atoms_spec (ws := Cond.code yX4_stateOf cX4_stateOf 2 (some (.object "OfflineNotes$State")) :: lw_G) B.pre
  have hts : ∀ w ∈ lw_G, w.before _ s = true := fun w hw => hts0 w (List.mem_cons_of_mem _ hw)
  have hown : s.vm.findClass RX4 = some m.cls := findClass_of_methodNamed B.named
  have hlocks := B.notSynchronized
  have hC : CallFix p m c cX4_stateOf 2 s _ lw_G RX4 := ⟨hx, hb, hml, hown, hts⟩
  have hS : va_S (eA E) s.heap s.heap [] := va_S.rf
  have hl := lv_entry ([.ref this, .int a1]) (n := 2) (Nat.le_of_ble_eq_true rfl)
  rw [lg_entry_eq]
  generalize (lg_sl ([.ref this, .int a1]) ++ List.replicate (2 - (lg_sl ([.ref this, .int a1])).length) Slot.unset).toArray = ls at hl ⊢
  have hl : lv_has ls 2 [(0, .ref this), (1, .int a1)] := hl
  unfold f_X4_stateOf at h
  show W p l e rm_X4_stateOf s m _ below meth c s.heap [] 0 0 _ _
  refine lv_aload_n hx hb dX4_stateOf_0 rfl (lv_at hl 0 rfl) ?_
  refine lv_iload_n hx hb dX4_stateOf_1 rfl (lv_at hl 1 rfl) ?_
  rcases obx h with ⟨v1, M2, h1, h⟩ | ⟨ex, M9, h1, h⟩
  rotate_left
  · obtain ⟨hk1, h1⟩ := ifg h1
    cases h
    exact kx_out (kx_V (ci := 4) (As := [.int a1]) (rest := []) hC hE hS hM (mt_X4_requireReplica _ hfl E this a1 _ _ _ h1) (gwV qw_623 qw_625 qw_26 qw_39 qw_626) ⟨rfl, rfl, (Nat.le_of_ble_eq_true rfl), (Nat.le_of_ble_eq_true rfl)⟩ dd_X4_requireReplica rfl hk1 rfl rfl hl.1 (Nat.le_of_ble_eq_true rfl) dX4_stateOf_2 ⟨(Nat.le_of_ble_eq_true rfl), (Nat.le_of_ble_eq_true rfl)⟩) hS hout hlocks (Nat.le_of_ble_eq_true rfl) (Nat.le_of_ble_eq_true rfl)
  obtain ⟨hk1, h1⟩ := ifg h1
  refine kx_ok0 (kx_V (ci := 4) (As := [.int a1]) (rest := []) hC hE hS hM (mt_X4_requireReplica _ hfl E this a1 _ _ _ h1) (gwV qw_623 qw_625 qw_26 qw_39 qw_626) ⟨rfl, rfl, (Nat.le_of_ble_eq_true rfl), (Nat.le_of_ble_eq_true rfl)⟩ dd_X4_requireReplica rfl hk1 rfl rfl hl.1 (Nat.le_of_ble_eq_true rfl) dX4_stateOf_2 ⟨(Nat.le_of_ble_eq_true rfl), (Nat.le_of_ble_eq_true rfl)⟩) hS (fun H locs hM hS => ?_)
  refine lv_aload_n hx hb dX4_stateOf_5 rfl (lv_at hl 0 rfl) ?_
  obtain ⟨v3, h1, h⟩ := ob h
  refine rgn_4_6 hx hb hts hown hE hM qw_404 h1 dX4_stateOf_6 ?_
  obtain ⟨v4, h1, h⟩ := ob h
  refine rgn_3_4 hx hb hts hown hE hM qw_102 h1 dX4_stateOf_9 ?_
  refine lv_iload_n hx hb dX4_stateOf_12 rfl (lv_at hl 1 rfl) ?_
  obtain ⟨v5, h1, h⟩ := ob h
  refine r_aldnS hx hb hE hM h1 dX4_stateOf_13 ?_
  cases h
  exact xRet (eR hx hb hr (by first | exact Or.inl ⟨_, rfl⟩ | exact Or.inr ⟨_, rfl⟩) hlocks hM hS dX4_stateOf_14 (Nat.le_of_ble_eq_true rfl) (Nat.le_of_ble_eq_true rfl))

theorem dd_X4_versionEntry : yX4_versionEntry.cls = RX4 ∧ yX4_versionEntry.cls ≠ "java/lang/invoke/MethodHandle" ∧ yX4_versionEntry.cls ≠ "java/lang/invoke/VarHandle" ∧ (parseMethodDescriptor yX4_versionEntry.desc).map (fun d => d.parameters.length) = some 2 := by decide +kernel
abbrev rm_X4_versionEntry : Room := ({ frames := 8, cells := 2, slots := 12, locals := 132 } : Room)
noncomputable def f_X4_versionEntry (this : Nat) (a1 : Int32) (a2 : Int32) (M : Mem) : Option ((Int32 ⊕ Nat) × Mem) :=
  bx (cK 5 this M (f_X4_stateOf this a1 M)) (fun ex M => some ((.inr ex, M))) fun v1 M2 =>
  bx (cK 5 this M2 (f_X4_requireReplica this a2 M2)) (fun ex M => some ((.inr ex, M))) fun v3 M4 =>
  bn (cK 3 v1 M4 (f_X2_version v1 a2 M4)) fun v5 M6 =>
  some (.inl v5, M6)
set_option maxHeartbeats 4000000 in
set_option maxRecDepth 100000 in
theorem mt_X4_versionEntry (l : Launch) (hfl : l.stackTraces = false) (E : KEnv) (this : Nat) (a1 : Int32) (a2 : Int32) (M M' : Mem) (r : Int32 ⊕ Nat) (h : f_X4_versionEntry this a1 a2 M = some (r, M')) : vx_Met l yX4_versionEntry (Cond.code yX4_versionEntry cX4_versionEntry 4 (some .int) :: lw_G) rm_X4_versionEntry (cPc E [.ref this, .int a1, .int a2] M) (cQx E (vI r) M') (cXx E (vI r) M') 2 12 (eA E) := by
  refine vx_ofW (cc := cX4_versionEntry) (maxL := 4) (ret := (some .int)) (by decide) rfl ?_
  intro p e s m args below meth c s₁ B hml hout hv
  obtain ⟨rfl, hE, hM⟩ := hv
  have hx := B.exec
  have hb := B.bytes
  have hr := B.returns
  have hts0 := atoms_spec (ws := Cond.code yX4_versionEntry cX4_versionEntry 4 (some .int) :: lw_G) B.pre
  have hts : ∀ w ∈ lw_G, w.before _ s = true := fun w hw => hts0 w (List.mem_cons_of_mem _ hw)
  have hown : s.vm.findClass RX4 = some m.cls := findClass_of_methodNamed B.named
  have hlocks := B.notSynchronized
  have hC : CallFix p m c cX4_versionEntry 4 s _ lw_G RX4 := ⟨hx, hb, hml, hown, hts⟩
  have hS : va_S (eA E) s.heap s.heap [] := va_S.rf
  have hl := lv_entry ([.ref this, .int a1, .int a2]) (n := 4) (Nat.le_of_ble_eq_true rfl)
  rw [lg_entry_eq]
  generalize (lg_sl ([.ref this, .int a1, .int a2]) ++ List.replicate (4 - (lg_sl ([.ref this, .int a1, .int a2])).length) Slot.unset).toArray = ls at hl ⊢
  have hl : lv_has ls 4 [(0, .ref this), (1, .int a1), (2, .int a2)] := hl
  unfold f_X4_versionEntry at h
  show W p l e rm_X4_versionEntry s m _ below meth c s.heap [] 0 0 _ _
  refine lv_aload_n hx hb dX4_versionEntry_0 rfl (lv_at hl 0 rfl) ?_
  refine lv_iload_n hx hb dX4_versionEntry_1 rfl (lv_at hl 1 rfl) ?_
  rcases obx h with ⟨v1, M2, h1, h⟩ | ⟨ex, M9, h1, h⟩
  rotate_left
  · obtain ⟨hk1, h1⟩ := ifg h1
    cases h
    exact kx_out (kx_V (ci := 4) (As := [.int a1]) (rest := []) hC hE hS hM (mt_X4_stateOf _ hfl E this a1 _ _ _ h1) (gwV qw_619 qw_621 qw_25 qw_39 qw_622) ⟨rfl, rfl, (Nat.le_of_ble_eq_true rfl), (Nat.le_of_ble_eq_true rfl)⟩ dd_X4_stateOf rfl hk1 rfl rfl hl.1 (Nat.le_of_ble_eq_true rfl) dX4_versionEntry_2 ⟨(Nat.le_of_ble_eq_true rfl), (Nat.le_of_ble_eq_true rfl)⟩) hS hout hlocks (Nat.le_of_ble_eq_true rfl) (Nat.le_of_ble_eq_true rfl)
  obtain ⟨hk1, h1⟩ := ifg h1
  refine kx_ok1 (kx_V (ci := 4) (As := [.int a1]) (rest := []) hC hE hS hM (mt_X4_stateOf _ hfl E this a1 _ _ _ h1) (gwV qw_619 qw_621 qw_25 qw_39 qw_622) ⟨rfl, rfl, (Nat.le_of_ble_eq_true rfl), (Nat.le_of_ble_eq_true rfl)⟩ dd_X4_stateOf rfl hk1 rfl rfl hl.1 (Nat.le_of_ble_eq_true rfl) dX4_versionEntry_2 ⟨(Nat.le_of_ble_eq_true rfl), (Nat.le_of_ble_eq_true rfl)⟩) hS (fun H locs hM hS => ?_)
  refine lv_astore_n (lv' := [(3, .ref v1), (0, .ref this), (1, .int a1), (2, .int a2)]) hx hb dX4_versionEntry_5 rfl hl (by decide) rfl (fun ls hl => ?_)
  refine lv_aload_n hx hb dX4_versionEntry_6 rfl (lv_at hl 1 rfl) ?_
  refine lv_iload_n hx hb dX4_versionEntry_7 rfl (lv_at hl 3 rfl) ?_
  rcases obx h with ⟨v3, M4, h1, h⟩ | ⟨ex, M9, h1, h⟩
  rotate_left
  · obtain ⟨hk1, h1⟩ := ifg h1
    cases h
    exact kx_out (kx_V (ci := 4) (As := [.int a2]) (rest := []) hC hE hS hM (mt_X4_requireReplica _ hfl E this a2 _ _ _ h1) (gwV qw_623 qw_625 qw_26 qw_39 qw_626) ⟨rfl, rfl, (Nat.le_of_ble_eq_true rfl), (Nat.le_of_ble_eq_true rfl)⟩ dd_X4_requireReplica rfl hk1 rfl rfl hl.1 (Nat.le_of_ble_eq_true rfl) dX4_versionEntry_8 ⟨(Nat.le_of_ble_eq_true rfl), (Nat.le_of_ble_eq_true rfl)⟩) hS hout hlocks (Nat.le_of_ble_eq_true rfl) (Nat.le_of_ble_eq_true rfl)
  obtain ⟨hk1, h1⟩ := ifg h1
  refine kx_ok0 (kx_V (ci := 4) (As := [.int a2]) (rest := []) hC hE hS hM (mt_X4_requireReplica _ hfl E this a2 _ _ _ h1) (gwV qw_623 qw_625 qw_26 qw_39 qw_626) ⟨rfl, rfl, (Nat.le_of_ble_eq_true rfl), (Nat.le_of_ble_eq_true rfl)⟩ dd_X4_requireReplica rfl hk1 rfl rfl hl.1 (Nat.le_of_ble_eq_true rfl) dX4_versionEntry_8 ⟨(Nat.le_of_ble_eq_true rfl), (Nat.le_of_ble_eq_true rfl)⟩) hS (fun H locs hM hS => ?_)
  refine lv_aload_n hx hb dX4_versionEntry_11 rfl (lv_at hl 0 rfl) ?_
  refine lv_iload_n hx hb dX4_versionEntry_12 rfl (lv_at hl 3 rfl) ?_
  obtain ⟨v5, M6, h1, h⟩ := ob2 h
  obtain ⟨hk1, h1⟩ := ifg h1
  refine kV1 (ci := 2) (As := [.int a2]) (rest := []) hC hE hS hM (mt_X2_version _ E v1 a2 _ _ _ h1) (gwV qw_658 qw_659 qw_660 qw_41 qw_661) ⟨rfl, rfl, (Nat.le_of_ble_eq_true rfl), (Nat.le_of_ble_eq_true rfl)⟩ dd_X2_version rfl hk1 rfl rfl hl.1 (Nat.le_of_ble_eq_true rfl) dX4_versionEntry_13 ⟨(Nat.le_of_ble_eq_true rfl), (Nat.le_of_ble_eq_true rfl)⟩ (fun H locs hM hS => ?_)
  cases h
  exact xRet (eI hx hb hr hlocks hM hS dX4_versionEntry_16 (Nat.le_of_ble_eq_true rfl) (Nat.le_of_ble_eq_true rfl))

theorem dd_X4_areEqual : yX4_areEqual.cls = RX4 ∧ yX4_areEqual.cls ≠ "java/lang/invoke/MethodHandle" ∧ yX4_areEqual.cls ≠ "java/lang/invoke/VarHandle" ∧ (parseMethodDescriptor yX4_areEqual.desc).map (fun d => d.parameters.length) = some 2 := by decide +kernel
abbrev rm_X4_areEqual : Room := ({ frames := 8, cells := 2, slots := 12, locals := 132 } : Room)
noncomputable def f_X4_areEqual (this : Nat) (a1 : Int32) (a2 : Int32) (M : Mem) : Option ((Int32 ⊕ Nat) × Mem) :=
  bx (cK 5 this M (f_X4_stateOf this a1 M)) (fun ex M => some ((.inr ex, M))) fun v1 M2 =>
  bx (cK 5 this M2 (f_X4_stateOf this a2 M2)) (fun ex M => some ((.inr ex, M))) fun v3 M4 =>
  bn (cK 3 v1 M4 (f_X2_sameAs v1 v3 M4)) fun v5 M6 =>
  (if v5 = 0 ∨ v5 = 1 then some (.inl v5, M6) else none)
set_option maxHeartbeats 4000000 in
set_option maxRecDepth 100000 in
theorem mt_X4_areEqual (l : Launch) (hfl : l.stackTraces = false) (E : KEnv) (this : Nat) (a1 : Int32) (a2 : Int32) (M M' : Mem) (r : Int32 ⊕ Nat) (h : f_X4_areEqual this a1 a2 M = some (r, M')) : vx_Met l yX4_areEqual (Cond.code yX4_areEqual cX4_areEqual 3 (some .boolean) :: lw_G) rm_X4_areEqual (cPc E [.ref this, .int a1, .int a2] M) (cQx E (vI r) M') (cXx E (vI r) M') 2 12 (eA E) := by
  refine vx_ofW (cc := cX4_areEqual) (maxL := 3) (ret := (some .boolean)) (by decide) rfl ?_
  intro p e s m args below meth c s₁ B hml hout hv
  obtain ⟨rfl, hE, hM⟩ := hv
  have hx := B.exec
  have hb := B.bytes
  have hr := B.returns
  have hts0 := atoms_spec (ws := Cond.code yX4_areEqual cX4_areEqual 3 (some .boolean) :: lw_G) B.pre
  have hts : ∀ w ∈ lw_G, w.before _ s = true := fun w hw => hts0 w (List.mem_cons_of_mem _ hw)
  have hown : s.vm.findClass RX4 = some m.cls := findClass_of_methodNamed B.named
  have hlocks := B.notSynchronized
  have hC : CallFix p m c cX4_areEqual 3 s _ lw_G RX4 := ⟨hx, hb, hml, hown, hts⟩
  have hS : va_S (eA E) s.heap s.heap [] := va_S.rf
  have hl := lv_entry ([.ref this, .int a1, .int a2]) (n := 3) (Nat.le_of_ble_eq_true rfl)
  rw [lg_entry_eq]
  generalize (lg_sl ([.ref this, .int a1, .int a2]) ++ List.replicate (3 - (lg_sl ([.ref this, .int a1, .int a2])).length) Slot.unset).toArray = ls at hl ⊢
  have hl : lv_has ls 3 [(0, .ref this), (1, .int a1), (2, .int a2)] := hl
  unfold f_X4_areEqual at h
  show W p l e rm_X4_areEqual s m _ below meth c s.heap [] 0 0 _ _
  refine lv_aload_n hx hb dX4_areEqual_0 rfl (lv_at hl 0 rfl) ?_
  refine lv_iload_n hx hb dX4_areEqual_1 rfl (lv_at hl 1 rfl) ?_
  rcases obx h with ⟨v1, M2, h1, h⟩ | ⟨ex, M9, h1, h⟩
  rotate_left
  · obtain ⟨hk1, h1⟩ := ifg h1
    cases h
    exact kx_out (kx_V (ci := 4) (As := [.int a1]) (rest := []) hC hE hS hM (mt_X4_stateOf _ hfl E this a1 _ _ _ h1) (gwV qw_619 qw_621 qw_25 qw_39 qw_622) ⟨rfl, rfl, (Nat.le_of_ble_eq_true rfl), (Nat.le_of_ble_eq_true rfl)⟩ dd_X4_stateOf rfl hk1 rfl rfl hl.1 (Nat.le_of_ble_eq_true rfl) dX4_areEqual_2 ⟨(Nat.le_of_ble_eq_true rfl), (Nat.le_of_ble_eq_true rfl)⟩) hS hout hlocks (Nat.le_of_ble_eq_true rfl) (Nat.le_of_ble_eq_true rfl)
  obtain ⟨hk1, h1⟩ := ifg h1
  refine kx_ok1 (kx_V (ci := 4) (As := [.int a1]) (rest := []) hC hE hS hM (mt_X4_stateOf _ hfl E this a1 _ _ _ h1) (gwV qw_619 qw_621 qw_25 qw_39 qw_622) ⟨rfl, rfl, (Nat.le_of_ble_eq_true rfl), (Nat.le_of_ble_eq_true rfl)⟩ dd_X4_stateOf rfl hk1 rfl rfl hl.1 (Nat.le_of_ble_eq_true rfl) dX4_areEqual_2 ⟨(Nat.le_of_ble_eq_true rfl), (Nat.le_of_ble_eq_true rfl)⟩) hS (fun H locs hM hS => ?_)
  refine lv_aload_n hx hb dX4_areEqual_5 rfl (lv_at hl 0 rfl) ?_
  refine lv_iload_n hx hb dX4_areEqual_6 rfl (lv_at hl 2 rfl) ?_
  rcases obx h with ⟨v3, M4, h1, h⟩ | ⟨ex, M9, h1, h⟩
  rotate_left
  · obtain ⟨hk1, h1⟩ := ifg h1
    cases h
    exact kx_out (kx_V (ci := 4) (As := [.int a2]) (rest := [.ref v1]) hC hE hS hM (mt_X4_stateOf _ hfl E this a2 _ _ _ h1) (gwV qw_619 qw_621 qw_25 qw_39 qw_622) ⟨rfl, rfl, (Nat.le_of_ble_eq_true rfl), (Nat.le_of_ble_eq_true rfl)⟩ dd_X4_stateOf rfl hk1 rfl rfl hl.1 (Nat.le_of_ble_eq_true rfl) dX4_areEqual_7 ⟨(Nat.le_of_ble_eq_true rfl), (Nat.le_of_ble_eq_true rfl)⟩) hS hout hlocks (Nat.le_of_ble_eq_true rfl) (Nat.le_of_ble_eq_true rfl)
  obtain ⟨hk1, h1⟩ := ifg h1
  refine kx_ok1 (kx_V (ci := 4) (As := [.int a2]) (rest := [.ref v1]) hC hE hS hM (mt_X4_stateOf _ hfl E this a2 _ _ _ h1) (gwV qw_619 qw_621 qw_25 qw_39 qw_622) ⟨rfl, rfl, (Nat.le_of_ble_eq_true rfl), (Nat.le_of_ble_eq_true rfl)⟩ dd_X4_stateOf rfl hk1 rfl rfl hl.1 (Nat.le_of_ble_eq_true rfl) dX4_areEqual_7 ⟨(Nat.le_of_ble_eq_true rfl), (Nat.le_of_ble_eq_true rfl)⟩) hS (fun H locs hM hS => ?_)
  obtain ⟨v5, M6, h1, h⟩ := ob2 h
  obtain ⟨hk1, h1⟩ := ifg h1
  refine kV1 (ci := 2) (As := [.ref v3]) (rest := []) hC hE hS hM (mt_X2_sameAs _ E v1 v3 _ _ _ h1) (gwV qw_703 qw_704 qw_705 qw_41 qw_706) ⟨rfl, rfl, (Nat.le_of_ble_eq_true rfl), (Nat.le_of_ble_eq_true rfl)⟩ dd_X2_sameAs rfl hk1 rfl rfl hl.1 (Nat.le_of_ble_eq_true rfl) dX4_areEqual_10 ⟨(Nat.le_of_ble_eq_true rfl), (Nat.le_of_ble_eq_true rfl)⟩ (fun H locs hM hS => ?_)
  obtain ⟨h01, h⟩ := ifg h
  cases h
  exact xRet (eZ hx hb hr hlocks hM hS dX4_areEqual_13 (Nat.le_of_ble_eq_true rfl) (Nat.le_of_ble_eq_true rfl) h01)

theorem dd_X4_mergedOnTrial : yX4_mergedOnTrial.cls = RX4 ∧ yX4_mergedOnTrial.cls ≠ "java/lang/invoke/MethodHandle" ∧ yX4_mergedOnTrial.cls ≠ "java/lang/invoke/VarHandle" ∧ (parseMethodDescriptor yX4_mergedOnTrial.desc).map (fun d => d.parameters.length) = some 2 := by decide +kernel
abbrev rm_X4_mergedOnTrial : Room := ({ frames := 3, cells := 0, slots := 0, locals := 81 } : Room)
noncomputable def f_X4_mergedOnTrial (this : Nat) (a1 : Nat) (a2 : Nat) (M : Mem) : Option (Nat × Mem) :=
  (gRn 5 138 this M).bind fun v1 =>
  (cK 3 v1 M (f_X2_copyFrom v1 a1 M)).bind fun M3 =>
  (gRn 5 138 this M3).bind fun v4 =>
  (cK 3 v4 M3 (f_X2_absorb v4 a2 M3)).bind fun M6 =>
  (gRn 5 138 this M6).bind fun v7 =>
  some (v7, M6)
set_option maxHeartbeats 4000000 in
set_option maxRecDepth 100000 in
theorem mt_X4_mergedOnTrial (l : Launch) (E : KEnv) (this : Nat) (a1 : Nat) (a2 : Nat) (M M' : Mem) (v : Nat) (h : f_X4_mergedOnTrial this a1 a2 M = some (v, M')) : Met l yX4_mergedOnTrial (Cond.code yX4_mergedOnTrial cX4_mergedOnTrial 3 (some (.object "OfflineNotes$State")) :: lw_G) rm_X4_mergedOnTrial (cPc E [.ref this, .ref a1, .ref a2] M) (cQ E (some (.ref v)) M') 0 0 (eA E) := by
  refine Met.ofW (cc := cX4_mergedOnTrial) (maxL := 3) (ret := (some (.object "OfflineNotes$State"))) (by decide) rfl ?_
  intro p e s m args below meth c s₁ B hml hv
  obtain ⟨rfl, hE, hM⟩ := hv
  have hx := B.exec
  have hb := B.bytes
  have hr := B.returns
  have hts0 := atoms_spec (ws := Cond.code yX4_mergedOnTrial cX4_mergedOnTrial 3 (some (.object "OfflineNotes$State")) :: lw_G) B.pre
  have hts : ∀ w ∈ lw_G, w.before _ s = true := fun w hw => hts0 w (List.mem_cons_of_mem _ hw)
  have hown : s.vm.findClass RX4 = some m.cls := findClass_of_methodNamed B.named
  have hlocks := B.notSynchronized
  have hC : CallFix p m c cX4_mergedOnTrial 3 s _ lw_G RX4 := ⟨hx, hb, hml, hown, hts⟩
  have hS : va_S (eA E) s.heap s.heap [] := va_S.rf
  have hl := lv_entry ([.ref this, .ref a1, .ref a2]) (n := 3) (Nat.le_of_ble_eq_true rfl)
  rw [lg_entry_eq]
  generalize (lg_sl ([.ref this, .ref a1, .ref a2]) ++ List.replicate (3 - (lg_sl ([.ref this, .ref a1, .ref a2])).length) Slot.unset).toArray = ls at hl ⊢
  have hl : lv_has ls 3 [(0, .ref this), (1, .ref a1), (2, .ref a2)] := hl
  unfold f_X4_mergedOnTrial at h
  show W p l e rm_X4_mergedOnTrial s m _ below meth c s.heap [] 0 0 _ _
  refine lv_aload_n hx hb dX4_mergedOnTrial_0 rfl (lv_at hl 0 rfl) ?_
  obtain ⟨v1, h1, h⟩ := ob h
  refine rgn_4_10 hx hb hts hown hE hM qw_408 h1 dX4_mergedOnTrial_1 ?_
  refine lv_aload_n hx hb dX4_mergedOnTrial_4 rfl (lv_at hl 1 rfl) ?_
  obtain ⟨M3, h1, h⟩ := ob h
  obtain ⟨hk1, h1⟩ := ifg h1
  refine kV0 (ci := 2) (As := [.ref a1]) (rest := []) hC hE hS hM (mt_X2_copyFrom _ E v1 a1 _ _ h1) (gwV qw_701 qw_387 qw_388 qw_41 qw_389) ⟨rfl, rfl, (Nat.le_of_ble_eq_true rfl), (Nat.le_of_ble_eq_true rfl)⟩ dd_X2_copyFrom rfl hk1 rfl rfl hl.1 (Nat.le_of_ble_eq_true rfl) dX4_mergedOnTrial_5 ⟨(Nat.le_of_ble_eq_true rfl), (Nat.le_of_ble_eq_true rfl)⟩ (fun H locs hM hS => ?_)
  refine lv_aload_n hx hb dX4_mergedOnTrial_8 rfl (lv_at hl 0 rfl) ?_
  obtain ⟨v4, h1, h⟩ := ob h
  refine rgn_4_10 hx hb hts hown hE hM qw_408 h1 dX4_mergedOnTrial_9 ?_
  refine lv_aload_n hx hb dX4_mergedOnTrial_12 rfl (lv_at hl 2 rfl) ?_
  obtain ⟨M6, h1, h⟩ := ob h
  obtain ⟨hk1, h1⟩ := ifg h1
  refine kV0 (ci := 2) (As := [.ref a2]) (rest := []) hC hE hS hM (mt_X2_absorb _ E v4 a2 _ _ h1) (gwV qw_702 qw_367 qw_368 qw_41 qw_369) ⟨rfl, rfl, (Nat.le_of_ble_eq_true rfl), (Nat.le_of_ble_eq_true rfl)⟩ dd_X2_absorb rfl hk1 rfl rfl hl.1 (Nat.le_of_ble_eq_true rfl) dX4_mergedOnTrial_13 ⟨(Nat.le_of_ble_eq_true rfl), (Nat.le_of_ble_eq_true rfl)⟩ (fun H locs hM hS => ?_)
  refine lv_aload_n hx hb dX4_mergedOnTrial_16 rfl (lv_at hl 0 rfl) ?_
  obtain ⟨v7, h1, h⟩ := ob h
  refine rgn_4_10 hx hb hts hown hE hM qw_408 h1 dX4_mergedOnTrial_17 ?_
  cases h
  exact eR hx hb hr (by first | exact Or.inl ⟨_, rfl⟩ | exact Or.inr ⟨_, rfl⟩) hlocks hM hS dX4_mergedOnTrial_20 (Nat.le_of_ble_eq_true rfl) (Nat.le_of_ble_eq_true rfl)

theorem dd_X4_knowsAllOf : yX4_knowsAllOf.cls = RX4 ∧ yX4_knowsAllOf.cls ≠ "java/lang/invoke/MethodHandle" ∧ yX4_knowsAllOf.cls ≠ "java/lang/invoke/VarHandle" ∧ (parseMethodDescriptor yX4_knowsAllOf.desc).map (fun d => d.parameters.length) = some 2 := by decide +kernel
abbrev rm_X4_knowsAllOf : Room := ({ frames := 4, cells := 0, slots := 0, locals := 103 } : Room)
noncomputable def f_X4_knowsAllOf (this : Nat) (a1 : Nat) (a2 : Nat) (M : Mem) : Option (Int32 × Mem) :=
  bn (cK 5 this M (f_X4_mergedOnTrial this a1 a2 M)) fun v1 M2 =>
  bn (cK 3 v1 M2 (f_X2_sameAs v1 a1 M2)) fun v3 M4 =>
  (if v3 = 0 ∨ v3 = 1 then some (v3, M4) else none)
set_option maxHeartbeats 4000000 in
set_option maxRecDepth 100000 in
theorem mt_X4_knowsAllOf (l : Launch) (E : KEnv) (this : Nat) (a1 : Nat) (a2 : Nat) (M M' : Mem) (v : Int32) (h : f_X4_knowsAllOf this a1 a2 M = some (v, M')) : Met l yX4_knowsAllOf (Cond.code yX4_knowsAllOf cX4_knowsAllOf 3 (some .boolean) :: lw_G) rm_X4_knowsAllOf (cPc E [.ref this, .ref a1, .ref a2] M) (cQ E (some (.int v)) M') 0 0 (eA E) := by
  refine Met.ofW (cc := cX4_knowsAllOf) (maxL := 3) (ret := (some .boolean)) (by decide) rfl ?_
  intro p e s m args below meth c s₁ B hml hv
  obtain ⟨rfl, hE, hM⟩ := hv
  have hx := B.exec
  have hb := B.bytes
  have hr := B.returns
  have hts0 := atoms_spec (ws := Cond.code yX4_knowsAllOf cX4_knowsAllOf 3 (some .boolean) :: lw_G) B.pre
  have hts : ∀ w ∈ lw_G, w.before _ s = true := fun w hw => hts0 w (List.mem_cons_of_mem _ hw)
  have hown : s.vm.findClass RX4 = some m.cls := findClass_of_methodNamed B.named
  have hlocks := B.notSynchronized
  have hC : CallFix p m c cX4_knowsAllOf 3 s _ lw_G RX4 := ⟨hx, hb, hml, hown, hts⟩
  have hS : va_S (eA E) s.heap s.heap [] := va_S.rf
  have hl := lv_entry ([.ref this, .ref a1, .ref a2]) (n := 3) (Nat.le_of_ble_eq_true rfl)
  rw [lg_entry_eq]
  generalize (lg_sl ([.ref this, .ref a1, .ref a2]) ++ List.replicate (3 - (lg_sl ([.ref this, .ref a1, .ref a2])).length) Slot.unset).toArray = ls at hl ⊢
  have hl : lv_has ls 3 [(0, .ref this), (1, .ref a1), (2, .ref a2)] := hl
  unfold f_X4_knowsAllOf at h
  show W p l e rm_X4_knowsAllOf s m _ below meth c s.heap [] 0 0 _ _
  refine lv_aload_n hx hb dX4_knowsAllOf_0 rfl (lv_at hl 0 rfl) ?_
  refine lv_aload_n hx hb dX4_knowsAllOf_1 rfl (lv_at hl 1 rfl) ?_
  refine lv_aload_n hx hb dX4_knowsAllOf_2 rfl (lv_at hl 2 rfl) ?_
  obtain ⟨v1, M2, h1, h⟩ := ob2 h
  obtain ⟨hk1, h1⟩ := ifg h1
  refine kV1 (ci := 4) (As := [.ref a1, .ref a2]) (rest := []) hC hE hS hM (mt_X4_mergedOnTrial _ E this a1 a2 _ _ _ h1) (gwV qw_1048 qw_1050 qw_34 qw_39 qw_1051) ⟨rfl, rfl, (Nat.le_of_ble_eq_true rfl), (Nat.le_of_ble_eq_true rfl)⟩ dd_X4_mergedOnTrial rfl hk1 rfl rfl hl.1 (Nat.le_of_ble_eq_true rfl) dX4_knowsAllOf_3 ⟨(Nat.le_of_ble_eq_true rfl), (Nat.le_of_ble_eq_true rfl)⟩ (fun H locs hM hS => ?_)
  refine lv_aload_n hx hb dX4_knowsAllOf_6 rfl (lv_at hl 1 rfl) ?_
  obtain ⟨v3, M4, h1, h⟩ := ob2 h
  obtain ⟨hk1, h1⟩ := ifg h1
  refine kV1 (ci := 2) (As := [.ref a1]) (rest := []) hC hE hS hM (mt_X2_sameAs _ E v1 a1 _ _ _ h1) (gwV qw_703 qw_704 qw_705 qw_41 qw_706) ⟨rfl, rfl, (Nat.le_of_ble_eq_true rfl), (Nat.le_of_ble_eq_true rfl)⟩ dd_X2_sameAs rfl hk1 rfl rfl hl.1 (Nat.le_of_ble_eq_true rfl) dX4_knowsAllOf_7 ⟨(Nat.le_of_ble_eq_true rfl), (Nat.le_of_ble_eq_true rfl)⟩ (fun H locs hM hS => ?_)
  obtain ⟨h01, h⟩ := ifg h
  cases h
  exact eZ hx hb hr hlocks hM hS dX4_knowsAllOf_10 (Nat.le_of_ble_eq_true rfl) (Nat.le_of_ble_eq_true rfl) h01

theorem dd_X4_covers : yX4_covers.cls = RX4 ∧ yX4_covers.cls ≠ "java/lang/invoke/MethodHandle" ∧ yX4_covers.cls ≠ "java/lang/invoke/VarHandle" ∧ (parseMethodDescriptor yX4_covers.desc).map (fun d => d.parameters.length) = some 2 := by decide +kernel
abbrev rm_X4_covers : Room := ({ frames := 8, cells := 2, slots := 12, locals := 132 } : Room)
noncomputable def f_X4_covers (this : Nat) (a1 : Int32) (a2 : Int32) (M : Mem) : Option ((Int32 ⊕ Nat) × Mem) :=
  bx (cK 5 this M (f_X4_stateOf this a1 M)) (fun ex M => some ((.inr ex, M))) fun v1 M2 =>
  bx (cK 5 this M2 (f_X4_stateOf this a2 M2)) (fun ex M => some ((.inr ex, M))) fun v3 M4 =>
  bn (cK 5 this M4 (f_X4_knowsAllOf this v1 v3 M4)) fun v5 M6 =>
  (if v5 = 0 ∨ v5 = 1 then some (.inl v5, M6) else none)
set_option maxHeartbeats 4000000 in
set_option maxRecDepth 100000 in
theorem mt_X4_covers (l : Launch) (hfl : l.stackTraces = false) (E : KEnv) (this : Nat) (a1 : Int32) (a2 : Int32) (M M' : Mem) (r : Int32 ⊕ Nat) (h : f_X4_covers this a1 a2 M = some (r, M')) : vx_Met l yX4_covers (Cond.code yX4_covers cX4_covers 3 (some .boolean) :: lw_G) rm_X4_covers (cPc E [.ref this, .int a1, .int a2] M) (cQx E (vI r) M') (cXx E (vI r) M') 2 12 (eA E) := by
  refine vx_ofW (cc := cX4_covers) (maxL := 3) (ret := (some .boolean)) (by decide) rfl ?_
  intro p e s m args below meth c s₁ B hml hout hv
  obtain ⟨rfl, hE, hM⟩ := hv
  have hx := B.exec
  have hb := B.bytes
  have hr := B.returns
  have hts0 := atoms_spec (ws := Cond.code yX4_covers cX4_covers 3 (some .boolean) :: lw_G) B.pre
  have hts : ∀ w ∈ lw_G, w.before _ s = true := fun w hw => hts0 w (List.mem_cons_of_mem _ hw)
  have hown : s.vm.findClass RX4 = some m.cls := findClass_of_methodNamed B.named
  have hlocks := B.notSynchronized
  have hC : CallFix p m c cX4_covers 3 s _ lw_G RX4 := ⟨hx, hb, hml, hown, hts⟩
  have hS : va_S (eA E) s.heap s.heap [] := va_S.rf
  have hl := lv_entry ([.ref this, .int a1, .int a2]) (n := 3) (Nat.le_of_ble_eq_true rfl)
  rw [lg_entry_eq]
  generalize (lg_sl ([.ref this, .int a1, .int a2]) ++ List.replicate (3 - (lg_sl ([.ref this, .int a1, .int a2])).length) Slot.unset).toArray = ls at hl ⊢
  have hl : lv_has ls 3 [(0, .ref this), (1, .int a1), (2, .int a2)] := hl
  unfold f_X4_covers at h
  show W p l e rm_X4_covers s m _ below meth c s.heap [] 0 0 _ _
  refine lv_aload_n hx hb dX4_covers_0 rfl (lv_at hl 0 rfl) ?_
  refine lv_aload_n hx hb dX4_covers_1 rfl (lv_at hl 0 rfl) ?_
  refine lv_iload_n hx hb dX4_covers_2 rfl (lv_at hl 1 rfl) ?_
  rcases obx h with ⟨v1, M2, h1, h⟩ | ⟨ex, M9, h1, h⟩
  rotate_left
  · obtain ⟨hk1, h1⟩ := ifg h1
    cases h
    exact kx_out (kx_V (ci := 4) (As := [.int a1]) (rest := [.ref this]) hC hE hS hM (mt_X4_stateOf _ hfl E this a1 _ _ _ h1) (gwV qw_619 qw_621 qw_25 qw_39 qw_622) ⟨rfl, rfl, (Nat.le_of_ble_eq_true rfl), (Nat.le_of_ble_eq_true rfl)⟩ dd_X4_stateOf rfl hk1 rfl rfl hl.1 (Nat.le_of_ble_eq_true rfl) dX4_covers_3 ⟨(Nat.le_of_ble_eq_true rfl), (Nat.le_of_ble_eq_true rfl)⟩) hS hout hlocks (Nat.le_of_ble_eq_true rfl) (Nat.le_of_ble_eq_true rfl)
  obtain ⟨hk1, h1⟩ := ifg h1
  refine kx_ok1 (kx_V (ci := 4) (As := [.int a1]) (rest := [.ref this]) hC hE hS hM (mt_X4_stateOf _ hfl E this a1 _ _ _ h1) (gwV qw_619 qw_621 qw_25 qw_39 qw_622) ⟨rfl, rfl, (Nat.le_of_ble_eq_true rfl), (Nat.le_of_ble_eq_true rfl)⟩ dd_X4_stateOf rfl hk1 rfl rfl hl.1 (Nat.le_of_ble_eq_true rfl) dX4_covers_3 ⟨(Nat.le_of_ble_eq_true rfl), (Nat.le_of_ble_eq_true rfl)⟩) hS (fun H locs hM hS => ?_)
  refine lv_aload_n hx hb dX4_covers_6 rfl (lv_at hl 0 rfl) ?_
  refine lv_iload_n hx hb dX4_covers_7 rfl (lv_at hl 2 rfl) ?_
  rcases obx h with ⟨v3, M4, h1, h⟩ | ⟨ex, M9, h1, h⟩
  rotate_left
  · obtain ⟨hk1, h1⟩ := ifg h1
    cases h
    exact kx_out (kx_V (ci := 4) (As := [.int a2]) (rest := [.ref v1, .ref this]) hC hE hS hM (mt_X4_stateOf _ hfl E this a2 _ _ _ h1) (gwV qw_619 qw_621 qw_25 qw_39 qw_622) ⟨rfl, rfl, (Nat.le_of_ble_eq_true rfl), (Nat.le_of_ble_eq_true rfl)⟩ dd_X4_stateOf rfl hk1 rfl rfl hl.1 (Nat.le_of_ble_eq_true rfl) dX4_covers_8 ⟨(Nat.le_of_ble_eq_true rfl), (Nat.le_of_ble_eq_true rfl)⟩) hS hout hlocks (Nat.le_of_ble_eq_true rfl) (Nat.le_of_ble_eq_true rfl)
  obtain ⟨hk1, h1⟩ := ifg h1
  refine kx_ok1 (kx_V (ci := 4) (As := [.int a2]) (rest := [.ref v1, .ref this]) hC hE hS hM (mt_X4_stateOf _ hfl E this a2 _ _ _ h1) (gwV qw_619 qw_621 qw_25 qw_39 qw_622) ⟨rfl, rfl, (Nat.le_of_ble_eq_true rfl), (Nat.le_of_ble_eq_true rfl)⟩ dd_X4_stateOf rfl hk1 rfl rfl hl.1 (Nat.le_of_ble_eq_true rfl) dX4_covers_8 ⟨(Nat.le_of_ble_eq_true rfl), (Nat.le_of_ble_eq_true rfl)⟩) hS (fun H locs hM hS => ?_)
  obtain ⟨v5, M6, h1, h⟩ := ob2 h
  obtain ⟨hk1, h1⟩ := ifg h1
  refine kV1 (ci := 4) (As := [.ref v1, .ref v3]) (rest := []) hC hE hS hM (mt_X4_knowsAllOf _ E this v1 v3 _ _ _ h1) (gwV qw_1044 qw_1046 qw_33 qw_39 qw_1047) ⟨rfl, rfl, (Nat.le_of_ble_eq_true rfl), (Nat.le_of_ble_eq_true rfl)⟩ dd_X4_knowsAllOf rfl hk1 rfl rfl hl.1 (Nat.le_of_ble_eq_true rfl) dX4_covers_11 ⟨(Nat.le_of_ble_eq_true rfl), (Nat.le_of_ble_eq_true rfl)⟩ (fun H locs hM hS => ?_)
  obtain ⟨h01, h⟩ := ifg h
  cases h
  exact xRet (eZ hx hb hr hlocks hM hS dX4_covers_14 (Nat.le_of_ble_eq_true rfl) (Nat.le_of_ble_eq_true rfl) h01)

theorem dd_X4_areConcurrent : yX4_areConcurrent.cls = RX4 ∧ yX4_areConcurrent.cls ≠ "java/lang/invoke/MethodHandle" ∧ yX4_areConcurrent.cls ≠ "java/lang/invoke/VarHandle" ∧ (parseMethodDescriptor yX4_areConcurrent.desc).map (fun d => d.parameters.length) = some 2 := by decide +kernel
abbrev rm_X4_areConcurrent : Room := ({ frames := 8, cells := 2, slots := 12, locals := 132 } : Room)
noncomputable def fj_X4_areConcurrent_38 (s0 : Int32) (M : Mem) : Option ((Int32 ⊕ Nat) × Mem) :=
  (if s0 = 0 ∨ s0 = 1 then some (.inl s0, M) else none)
set_option maxHeartbeats 4000000 in
set_option maxRecDepth 100000 in
theorem tj_X4_areConcurrent_38 {p : Program} {l : Launch} {e : Env} {s : State} {m : MethodId} {args : Array Value} {below : List Frame} {meth : Method} {c : Code} {E : KEnv} {H : Heap} {locs : List Loc} {ls : Array Slot} {s0 : Int32} {M : Mem} {r : Int32 ⊕ Nat} {M' : Mem} (hfl : l.stackTraces = false) (hout : ∀ x ∈ c.exceptionTable.toList, False) (hC : CallFix p m c cX4_areConcurrent 5 s args lw_G RX4) (hr : meth.sig.returnType = (some .boolean)) (hlocks : meth.locks = false) (hE : EnvOK E s) (h : fj_X4_areConcurrent_38 s0 M = some (r, M')) (hM : MOK E M H) (hS : va_S (eA E) s.heap H locs) (hl : lv_has ls 5 []) : W p l e rm_X4_areConcurrent s m args below meth c H locs 2 12 (vx_MQ below (cQx E (vI r) M') (cXx E (vI r) M') args s 2 12 (eA E)) (F0 m 38 ls [.int s0]) := by
  obtain ⟨hx, hb, hml, hown, hts⟩ := id hC
  unfold fj_X4_areConcurrent_38 at h
  obtain ⟨h01, h⟩ := ifg h
  cases h
  exact xRet (eZ hx hb hr hlocks hM hS dX4_areConcurrent_38 (Nat.le_of_ble_eq_true rfl) (Nat.le_of_ble_eq_true rfl) h01)
noncomputable def fj_X4_areConcurrent_37  (M : Mem) : Option ((Int32 ⊕ Nat) × Mem) :=
  fj_X4_areConcurrent_38 0 M
set_option maxHeartbeats 4000000 in
set_option maxRecDepth 100000 in
theorem tj_X4_areConcurrent_37 {p : Program} {l : Launch} {e : Env} {s : State} {m : MethodId} {args : Array Value} {below : List Frame} {meth : Method} {c : Code} {E : KEnv} {H : Heap} {locs : List Loc} {ls : Array Slot}  {M : Mem} {r : Int32 ⊕ Nat} {M' : Mem} (hfl : l.stackTraces = false) (hout : ∀ x ∈ c.exceptionTable.toList, False) (hC : CallFix p m c cX4_areConcurrent 5 s args lw_G RX4) (hr : meth.sig.returnType = (some .boolean)) (hlocks : meth.locks = false) (hE : EnvOK E s) (h : fj_X4_areConcurrent_37  M = some (r, M')) (hM : MOK E M H) (hS : va_S (eA E) s.heap H locs) (hl : lv_has ls 5 []) : W p l e rm_X4_areConcurrent s m args below meth c H locs 2 12 (vx_MQ below (cQx E (vI r) M') (cXx E (vI r) M') args s 2 12 (eA E)) (F0 m 37 ls []) := by
  obtain ⟨hx, hb, hml, hown, hts⟩ := id hC
  unfold fj_X4_areConcurrent_37 at h
  refine lv_iconst (v := 0) hx hb dX4_areConcurrent_37 (by decide) ?_
  refine W.widen (k := 2) (n := 12) (Nat.le_of_ble_eq_true rfl) (Nat.le_of_ble_eq_true rfl) ?_
  exact tj_X4_areConcurrent_38 hfl hout  hC hr hlocks hE  h hM hS (lv_sub hl [] rfl)
noncomputable def f_X4_areConcurrent (this : Nat) (a1 : Int32) (a2 : Int32) (M : Mem) : Option ((Int32 ⊕ Nat) × Mem) :=
  bx (cK 5 this M (f_X4_stateOf this a1 M)) (fun ex M => some ((.inr ex, M))) fun v1 M2 =>
  bx (cK 5 this M2 (f_X4_stateOf this a2 M2)) (fun ex M => some ((.inr ex, M))) fun v3 M4 =>
  bn (cK 5 this M4 (f_X4_knowsAllOf this v1 v3 M4)) fun v5 M6 =>
  (if v5 = 0 then
  bn (cK 5 this M6 (f_X4_knowsAllOf this v3 v1 M6)) fun v7 M8 =>
  (if v7 = 0 then
  fj_X4_areConcurrent_38 1 M8
  else
  fj_X4_areConcurrent_37 M8)
  else
  fj_X4_areConcurrent_37 M6)
set_option maxHeartbeats 4000000 in
set_option maxRecDepth 100000 in
theorem mt_X4_areConcurrent (l : Launch) (hfl : l.stackTraces = false) (E : KEnv) (this : Nat) (a1 : Int32) (a2 : Int32) (M M' : Mem) (r : Int32 ⊕ Nat) (h : f_X4_areConcurrent this a1 a2 M = some (r, M')) : vx_Met l yX4_areConcurrent (Cond.code yX4_areConcurrent cX4_areConcurrent 5 (some .boolean) :: lw_G) rm_X4_areConcurrent (cPc E [.ref this, .int a1, .int a2] M) (cQx E (vI r) M') (cXx E (vI r) M') 2 12 (eA E) := by
  refine vx_ofW (cc := cX4_areConcurrent) (maxL := 5) (ret := (some .boolean)) (by decide) rfl ?_
  intro p e s m args below meth c s₁ B hml hout hv
  obtain ⟨rfl, hE, hM⟩ := hv
  have hx := B.exec
  have hb := B.bytes
  have hr := B.returns
  have hts0 := atoms_spec (ws := Cond.code yX4_areConcurrent cX4_areConcurrent 5 (some .boolean) :: lw_G) B.pre
  have hts : ∀ w ∈ lw_G, w.before _ s = true := fun w hw => hts0 w (List.mem_cons_of_mem _ hw)
  have hown : s.vm.findClass RX4 = some m.cls := findClass_of_methodNamed B.named
  have hlocks := B.notSynchronized
  have hC : CallFix p m c cX4_areConcurrent 5 s _ lw_G RX4 := ⟨hx, hb, hml, hown, hts⟩
  have hS : va_S (eA E) s.heap s.heap [] := va_S.rf
  have hl := lv_entry ([.ref this, .int a1, .int a2]) (n := 5) (Nat.le_of_ble_eq_true rfl)
  rw [lg_entry_eq]
  generalize (lg_sl ([.ref this, .int a1, .int a2]) ++ List.replicate (5 - (lg_sl ([.ref this, .int a1, .int a2])).length) Slot.unset).toArray = ls at hl ⊢
  have hl : lv_has ls 5 [(0, .ref this), (1, .int a1), (2, .int a2)] := hl
  unfold f_X4_areConcurrent at h
  show W p l e rm_X4_areConcurrent s m _ below meth c s.heap [] 0 0 _ _
  refine lv_aload_n hx hb dX4_areConcurrent_0 rfl (lv_at hl 0 rfl) ?_
  refine lv_iload_n hx hb dX4_areConcurrent_1 rfl (lv_at hl 1 rfl) ?_
  rcases obx h with ⟨v1, M2, h1, h⟩ | ⟨ex, M9, h1, h⟩
  rotate_left
  · obtain ⟨hk1, h1⟩ := ifg h1
    cases h
    exact kx_out (kx_V (ci := 4) (As := [.int a1]) (rest := []) hC hE hS hM (mt_X4_stateOf _ hfl E this a1 _ _ _ h1) (gwV qw_619 qw_621 qw_25 qw_39 qw_622) ⟨rfl, rfl, (Nat.le_of_ble_eq_true rfl), (Nat.le_of_ble_eq_true rfl)⟩ dd_X4_stateOf rfl hk1 rfl rfl hl.1 (Nat.le_of_ble_eq_true rfl) dX4_areConcurrent_2 ⟨(Nat.le_of_ble_eq_true rfl), (Nat.le_of_ble_eq_true rfl)⟩) hS hout hlocks (Nat.le_of_ble_eq_true rfl) (Nat.le_of_ble_eq_true rfl)
  obtain ⟨hk1, h1⟩ := ifg h1
  refine kx_ok1 (kx_V (ci := 4) (As := [.int a1]) (rest := []) hC hE hS hM (mt_X4_stateOf _ hfl E this a1 _ _ _ h1) (gwV qw_619 qw_621 qw_25 qw_39 qw_622) ⟨rfl, rfl, (Nat.le_of_ble_eq_true rfl), (Nat.le_of_ble_eq_true rfl)⟩ dd_X4_stateOf rfl hk1 rfl rfl hl.1 (Nat.le_of_ble_eq_true rfl) dX4_areConcurrent_2 ⟨(Nat.le_of_ble_eq_true rfl), (Nat.le_of_ble_eq_true rfl)⟩) hS (fun H locs hM hS => ?_)
  refine lv_astore_n (lv' := [(3, .ref v1), (0, .ref this), (1, .int a1), (2, .int a2)]) hx hb dX4_areConcurrent_5 rfl hl (by decide) rfl (fun ls hl => ?_)
  refine lv_aload_n hx hb dX4_areConcurrent_6 rfl (lv_at hl 1 rfl) ?_
  refine lv_iload_n hx hb dX4_areConcurrent_7 rfl (lv_at hl 3 rfl) ?_
  rcases obx h with ⟨v3, M4, h1, h⟩ | ⟨ex, M9, h1, h⟩
  rotate_left
  · obtain ⟨hk1, h1⟩ := ifg h1
    cases h
    exact kx_out (kx_V (ci := 4) (As := [.int a2]) (rest := []) hC hE hS hM (mt_X4_stateOf _ hfl E this a2 _ _ _ h1) (gwV qw_619 qw_621 qw_25 qw_39 qw_622) ⟨rfl, rfl, (Nat.le_of_ble_eq_true rfl), (Nat.le_of_ble_eq_true rfl)⟩ dd_X4_stateOf rfl hk1 rfl rfl hl.1 (Nat.le_of_ble_eq_true rfl) dX4_areConcurrent_8 ⟨(Nat.le_of_ble_eq_true rfl), (Nat.le_of_ble_eq_true rfl)⟩) hS hout hlocks (Nat.le_of_ble_eq_true rfl) (Nat.le_of_ble_eq_true rfl)
  obtain ⟨hk1, h1⟩ := ifg h1
  refine kx_ok1 (kx_V (ci := 4) (As := [.int a2]) (rest := []) hC hE hS hM (mt_X4_stateOf _ hfl E this a2 _ _ _ h1) (gwV qw_619 qw_621 qw_25 qw_39 qw_622) ⟨rfl, rfl, (Nat.le_of_ble_eq_true rfl), (Nat.le_of_ble_eq_true rfl)⟩ dd_X4_stateOf rfl hk1 rfl rfl hl.1 (Nat.le_of_ble_eq_true rfl) dX4_areConcurrent_8 ⟨(Nat.le_of_ble_eq_true rfl), (Nat.le_of_ble_eq_true rfl)⟩) hS (fun H locs hM hS => ?_)
  refine lv_astore (lv' := [(4, .ref v3), (3, .ref v1), (0, .ref this), (1, .int a1), (2, .int a2)]) hx hb dX4_areConcurrent_11 hl (by decide) rfl (fun ls hl => ?_)
  refine lv_aload_n hx hb dX4_areConcurrent_13 rfl (lv_at hl 2 rfl) ?_
  refine lv_aload_n hx hb dX4_areConcurrent_14 rfl (lv_at hl 1 rfl) ?_
  refine lv_aload hx hb dX4_areConcurrent_15 (lv_at hl 0 rfl) ?_
  obtain ⟨v5, M6, h1, h⟩ := ob2 h
  obtain ⟨hk1, h1⟩ := ifg h1
  refine kV1 (ci := 4) (As := [.ref v1, .ref v3]) (rest := []) hC hE hS hM (mt_X4_knowsAllOf _ E this v1 v3 _ _ _ h1) (gwV qw_1044 qw_1046 qw_33 qw_39 qw_1047) ⟨rfl, rfl, (Nat.le_of_ble_eq_true rfl), (Nat.le_of_ble_eq_true rfl)⟩ dd_X4_knowsAllOf rfl hk1 rfl rfl hl.1 (Nat.le_of_ble_eq_true rfl) dX4_areConcurrent_17 ⟨(Nat.le_of_ble_eq_true rfl), (Nat.le_of_ble_eq_true rfl)⟩ (fun H locs hM hS => ?_)
  refine lv_if_ne (tgt := 37) hx hb dX4_areConcurrent_20 (by decide) (fun c1 => ?_) (fun c1 => ?_)
  · have h := ifn c1 h
    refine W.widen (k := 2) (n := 12) (Nat.le_of_ble_eq_true rfl) (Nat.le_of_ble_eq_true rfl) ?_
    exact tj_X4_areConcurrent_37 hfl hout  hC hr hlocks hE  h hM hS (lv_sub hl [] rfl)
  · have h := ifp c1 h
    refine lv_aload_n hx hb dX4_areConcurrent_23 rfl (lv_at hl 2 rfl) ?_
    refine lv_aload hx hb dX4_areConcurrent_24 (lv_at hl 0 rfl) ?_
    refine lv_aload_n hx hb dX4_areConcurrent_26 rfl (lv_at hl 1 rfl) ?_
    obtain ⟨v7, M8, h1, h⟩ := ob2 h
    obtain ⟨hk1, h1⟩ := ifg h1
    refine kV1 (ci := 4) (As := [.ref v3, .ref v1]) (rest := []) hC hE hS hM (mt_X4_knowsAllOf _ E this v3 v1 _ _ _ h1) (gwV qw_1044 qw_1046 qw_33 qw_39 qw_1047) ⟨rfl, rfl, (Nat.le_of_ble_eq_true rfl), (Nat.le_of_ble_eq_true rfl)⟩ dd_X4_knowsAllOf rfl hk1 rfl rfl hl.1 (Nat.le_of_ble_eq_true rfl) dX4_areConcurrent_27 ⟨(Nat.le_of_ble_eq_true rfl), (Nat.le_of_ble_eq_true rfl)⟩ (fun H locs hM hS => ?_)
    refine lv_if_ne (tgt := 37) hx hb dX4_areConcurrent_30 (by decide) (fun c1 => ?_) (fun c1 => ?_)
    · have h := ifn c1 h
      refine W.widen (k := 2) (n := 12) (Nat.le_of_ble_eq_true rfl) (Nat.le_of_ble_eq_true rfl) ?_
      exact tj_X4_areConcurrent_37 hfl hout  hC hr hlocks hE  h hM hS (lv_sub hl [] rfl)
    · have h := ifp c1 h
      refine lv_iconst (v := 1) hx hb dX4_areConcurrent_33 (by decide) ?_
      refine lv_goto (tgt := 38) hx hb dX4_areConcurrent_34 (by decide) ?_
      refine W.widen (k := 2) (n := 12) (Nat.le_of_ble_eq_true rfl) (Nat.le_of_ble_eq_true rfl) ?_
      exact tj_X4_areConcurrent_38 hfl hout  hC hr hlocks hE  h hM hS (lv_sub hl [] rfl)

theorem dd_X4_isFirstOfItsKind : yX4_isFirstOfItsKind.cls = RX4 ∧ yX4_isFirstOfItsKind.cls ≠ "java/lang/invoke/MethodHandle" ∧ yX4_isFirstOfItsKind.cls ≠ "java/lang/invoke/VarHandle" ∧ (parseMethodDescriptor yX4_isFirstOfItsKind.desc).map (fun d => d.parameters.length) = some 1 := by decide +kernel
abbrev rm_X4_isFirstOfItsKind : Room := ({ frames := 1, cells := 0, slots := 0, locals := 22 } : Room)
noncomputable def fj_X4_isFirstOfItsKind_39  (M : Mem) : Option (Int32 × Mem) :=
  some (1, M)
set_option maxHeartbeats 4000000 in
set_option maxRecDepth 100000 in
theorem tj_X4_isFirstOfItsKind_39 {p : Program} {l : Launch} {e : Env} {s : State} {m : MethodId} {args : Array Value} {below : List Frame} {meth : Method} {c : Code} {E : KEnv} {H : Heap} {locs : List Loc} {ls : Array Slot}  {M : Mem} {v : Int32} {M' : Mem} (hC : CallFix p m c cX4_isFirstOfItsKind 3 s args lw_G RX4) (hr : meth.sig.returnType = (some .boolean)) (hlocks : meth.locks = false) (hE : EnvOK E s) (h : fj_X4_isFirstOfItsKind_39  M = some (v, M')) (hM : MOK E M H) (hS : va_S (eA E) s.heap H locs) (hl : lv_has ls 3 []) : W p l e rm_X4_isFirstOfItsKind s m args below meth c H locs 0 0 (MQ below (cQ E (some (.int v)) M') args s 0 0 (eA E)) (F0 m 39 ls []) := by
  obtain ⟨hx, hb, hml, hown, hts⟩ := id hC
  unfold fj_X4_isFirstOfItsKind_39 at h
  refine lv_iconst (v := 1) hx hb dX4_isFirstOfItsKind_39 (by decide) ?_
  cases h
  exact eZ hx hb hr hlocks hM hS dX4_isFirstOfItsKind_40 (Nat.le_of_ble_eq_true rfl) (Nat.le_of_ble_eq_true rfl) (by decide)
noncomputable def fj_X4_isFirstOfItsKind_31  (M : Mem) : Option (Int32 × Mem) :=
  some (0, M)
set_option maxHeartbeats 4000000 in
set_option maxRecDepth 100000 in
theorem tj_X4_isFirstOfItsKind_31 {p : Program} {l : Launch} {e : Env} {s : State} {m : MethodId} {args : Array Value} {below : List Frame} {meth : Method} {c : Code} {E : KEnv} {H : Heap} {locs : List Loc} {ls : Array Slot}  {M : Mem} {v : Int32} {M' : Mem} (hC : CallFix p m c cX4_isFirstOfItsKind 3 s args lw_G RX4) (hr : meth.sig.returnType = (some .boolean)) (hlocks : meth.locks = false) (hE : EnvOK E s) (h : fj_X4_isFirstOfItsKind_31  M = some (v, M')) (hM : MOK E M H) (hS : va_S (eA E) s.heap H locs) (hl : lv_has ls 3 []) : W p l e rm_X4_isFirstOfItsKind s m args below meth c H locs 0 0 (MQ below (cQ E (some (.int v)) M') args s 0 0 (eA E)) (F0 m 31 ls []) := by
  obtain ⟨hx, hb, hml, hown, hts⟩ := id hC
  unfold fj_X4_isFirstOfItsKind_31 at h
  refine lv_iconst (v := 0) hx hb dX4_isFirstOfItsKind_31 (by decide) ?_
  cases h
  exact eZ hx hb hr hlocks hM hS dX4_isFirstOfItsKind_32 (Nat.le_of_ble_eq_true rfl) (Nat.le_of_ble_eq_true rfl) (by decide)
noncomputable def fc_X4_isFirstOfItsKind_2 (x0 : Nat) (x1 : Int32) (x2 : Int32) (M : Mem) : Option ((Int32 × Mem) ⊕ (Int32 × Mem)) :=
  (if x1 ≤ x2 then
  (fj_X4_isFirstOfItsKind_39 M).map Sum.inr
  else
  (gRn 5 134 x0 M).bind fun v1 =>
  (gRn 4 100 v1 M).bind fun v2 =>
  (gBn 10 v2 x2 M).bind fun v3 =>
  (gRn 5 134 x0 M).bind fun v4 =>
  (gRn 4 100 v4 M).bind fun v5 =>
  (gBn 10 v5 x1 M).bind fun v6 =>
  bn (cK 3 v3 M (f_X2_sameAs v3 v6 M)) fun v7 M8 =>
  (if v7 = 0 then
  some (.inl (x2 + 1, M8))
  else
  (fj_X4_isFirstOfItsKind_31 M8).map Sum.inr))
noncomputable def fj_X4_isFirstOfItsKind_2 (x0 : Nat) (x1 : Int32) (x2 : Int32) (M : Mem) : Option (Int32 × Mem) := loopM (fun q : (Int32 × Mem) => fc_X4_isFirstOfItsKind_2 x0 x1 q.1 q.2) FU (x2, M)
set_option maxHeartbeats 4000000 in
set_option maxRecDepth 100000 in
theorem tj_X4_isFirstOfItsKind_2 {p : Program} {l : Launch} {e : Env} {s : State} {m : MethodId} {args : Array Value} {below : List Frame} {meth : Method} {c : Code} {E : KEnv} {H : Heap} {locs : List Loc} {ls : Array Slot} {x0 : Nat} {x1 : Int32} {x2 : Int32} {M : Mem} {v : Int32} {M' : Mem} (hC : CallFix p m c cX4_isFirstOfItsKind 3 s args lw_G RX4) (hr : meth.sig.returnType = (some .boolean)) (hlocks : meth.locks = false) (hE : EnvOK E s) (h : fj_X4_isFirstOfItsKind_2 x0 x1 x2 M = some (v, M')) (hM : MOK E M H) (hS : va_S (eA E) s.heap H locs) (hl : lv_has ls 3 [(0, .ref x0), (1, .int x1), (2, .int x2)]) : W p l e rm_X4_isFirstOfItsKind s m args below meth c H locs 0 0 (MQ below (cQ E (some (.int v)) M') args s 0 0 (eA E)) (F0 m 2 ls []) := by
  refine loopM_ind (body := fun q : (Int32 × Mem) => fc_X4_isFirstOfItsKind_2 x0 x1 q.1 q.2) (x0 := (v, M')) (Wd := fun q : (Int32 × Mem) => ∀ (H : Heap) (locs : List Loc) (ls : Array Slot), MOK E (q.2) H → va_S (eA E) s.heap H locs → lv_has ls 3 [(0, .ref x0), (1, .int x1), (2, .int q.1)] → W p l e rm_X4_isFirstOfItsKind s m args below meth c H locs 0 0 (MQ below (cQ E (some (.int v)) M') args s 0 0 (eA E)) (F0 m 2 ls [])) ?_ FU (x2, M) h H locs ls hM hS hl
  clear h hM hS hl H locs ls M x2
  obtain ⟨hx, hb, hml, hown, hts⟩ := id hC
  intro q y1 h hy1 H locs ls hM hS hl
  obtain ⟨x2, M⟩ := q
  have h : fc_X4_isFirstOfItsKind_2 x0 x1 x2 M = some y1 := h
  have hM : MOK E M H := hM
  have hl : lv_has ls 3 [(0, .ref x0), (1, .int x1), (2, .int x2)] := hl
  unfold fc_X4_isFirstOfItsKind_2 at h
  show W p l e rm_X4_isFirstOfItsKind s m args below meth c H locs _ _ _ _
  refine lv_iload_n hx hb dX4_isFirstOfItsKind_2 rfl (lv_at hl 2 rfl) ?_
  refine lv_iload_n hx hb dX4_isFirstOfItsKind_3 rfl (lv_at hl 1 rfl) ?_
  refine lv_icmp_ge (tgt := 39) hx hb dX4_isFirstOfItsKind_4 (by decide) (fun c1 => ?_) (fun c1 => ?_)
  · have h := ifp c1 h
    obtain ⟨z0, h9, rfl⟩ := om h
    have e0 := hy1.2 _ rfl
    subst e0
    have h := h9
    refine W.widen (k := 0) (n := 0) (Nat.le_of_ble_eq_true rfl) (Nat.le_of_ble_eq_true rfl) ?_
    exact tj_X4_isFirstOfItsKind_39  hC hr hlocks hE  h hM hS (lv_sub hl [] rfl)
  · have h := ifn c1 h
    refine lv_aload_n hx hb dX4_isFirstOfItsKind_7 rfl (lv_at hl 0 rfl) ?_
    obtain ⟨v1, h1, h⟩ := ob h
    refine rgn_4_6 hx hb hts hown hE hM qw_404 h1 dX4_isFirstOfItsKind_8 ?_
    obtain ⟨v2, h1, h⟩ := ob h
    refine rgn_3_4 hx hb hts hown hE hM qw_102 h1 dX4_isFirstOfItsKind_11 ?_
    refine lv_iload_n hx hb dX4_isFirstOfItsKind_14 rfl (lv_at hl 2 rfl) ?_
    obtain ⟨v3, h1, h⟩ := ob h
    refine r_aldnS hx hb hE hM h1 dX4_isFirstOfItsKind_15 ?_
    refine lv_aload_n hx hb dX4_isFirstOfItsKind_16 rfl (lv_at hl 0 rfl) ?_
    obtain ⟨v4, h1, h⟩ := ob h
    refine rgn_4_6 hx hb hts hown hE hM qw_404 h1 dX4_isFirstOfItsKind_17 ?_
    obtain ⟨v5, h1, h⟩ := ob h
    refine rgn_3_4 hx hb hts hown hE hM qw_102 h1 dX4_isFirstOfItsKind_20 ?_
    refine lv_iload_n hx hb dX4_isFirstOfItsKind_23 rfl (lv_at hl 1 rfl) ?_
    obtain ⟨v6, h1, h⟩ := ob h
    refine r_aldnS hx hb hE hM h1 dX4_isFirstOfItsKind_24 ?_
    obtain ⟨v7, M8, h1, h⟩ := ob2 h
    obtain ⟨hk1, h1⟩ := ifg h1
    refine kV1 (ci := 2) (As := [.ref v6]) (rest := []) hC hE hS hM (mt_X2_sameAs _ E v3 v6 _ _ _ h1) (gwV qw_703 qw_704 qw_705 qw_41 qw_706) ⟨rfl, rfl, (Nat.le_of_ble_eq_true rfl), (Nat.le_of_ble_eq_true rfl)⟩ dd_X2_sameAs rfl hk1 rfl rfl hl.1 (Nat.le_of_ble_eq_true rfl) dX4_isFirstOfItsKind_25 ⟨(Nat.le_of_ble_eq_true rfl), (Nat.le_of_ble_eq_true rfl)⟩ (fun H locs hM hS => ?_)
    refine lv_if_eq (tgt := 33) hx hb dX4_isFirstOfItsKind_28 (by decide) (fun c1 => ?_) (fun c1 => ?_)
    · have h := ifp c1 h
      refine lv_iinc (v := x2 + 1) (lv' := [(2, .int (x2 + 1)), (0, .ref x0), (1, .int x1)]) hx hb dX4_isFirstOfItsKind_33 hl (k := 2) rfl rfl (by decide) rfl (fun ls hl => ?_)
      refine lv_goto (tgt := 2) hx hb dX4_isFirstOfItsKind_36 (by decide) ?_
      cases h
      exact hy1.1 _ rfl _ _ _ hM hS (lv_sub hl [1, 2, 0] rfl)
    · have h := ifn c1 h
      obtain ⟨z0, h9, rfl⟩ := om h
      have e0 := hy1.2 _ rfl
      subst e0
      have h := h9
      refine W.widen (k := 0) (n := 0) (Nat.le_of_ble_eq_true rfl) (Nat.le_of_ble_eq_true rfl) ?_
      exact tj_X4_isFirstOfItsKind_31  hC hr hlocks hE  h hM hS (lv_sub hl [] rfl)
noncomputable def f_X4_isFirstOfItsKind (this : Nat) (a1 : Int32) (M : Mem) : Option (Int32 × Mem) :=
  fj_X4_isFirstOfItsKind_2 this a1 0 M
set_option maxHeartbeats 4000000 in
set_option maxRecDepth 100000 in
theorem mt_X4_isFirstOfItsKind (l : Launch) (E : KEnv) (this : Nat) (a1 : Int32) (M M' : Mem) (v : Int32) (h : f_X4_isFirstOfItsKind this a1 M = some (v, M')) : Met l yX4_isFirstOfItsKind (Cond.code yX4_isFirstOfItsKind cX4_isFirstOfItsKind 3 (some .boolean) :: lw_G) rm_X4_isFirstOfItsKind (cPc E [.ref this, .int a1] M) (cQ E (some (.int v)) M') 0 0 (eA E) := by
  refine Met.ofW (cc := cX4_isFirstOfItsKind) (maxL := 3) (ret := (some .boolean)) (by decide) rfl ?_
  intro p e s m args below meth c s₁ B hml hv
  obtain ⟨rfl, hE, hM⟩ := hv
  have hx := B.exec
  have hb := B.bytes
  have hr := B.returns
  have hts0 := atoms_spec (ws := Cond.code yX4_isFirstOfItsKind cX4_isFirstOfItsKind 3 (some .boolean) :: lw_G) B.pre
  have hts : ∀ w ∈ lw_G, w.before _ s = true := fun w hw => hts0 w (List.mem_cons_of_mem _ hw)
  have hown : s.vm.findClass RX4 = some m.cls := findClass_of_methodNamed B.named
  have hlocks := B.notSynchronized
  have hC : CallFix p m c cX4_isFirstOfItsKind 3 s _ lw_G RX4 := ⟨hx, hb, hml, hown, hts⟩
  have hS : va_S (eA E) s.heap s.heap [] := va_S.rf
  have hl := lv_entry ([.ref this, .int a1]) (n := 3) (Nat.le_of_ble_eq_true rfl)
  rw [lg_entry_eq]
  generalize (lg_sl ([.ref this, .int a1]) ++ List.replicate (3 - (lg_sl ([.ref this, .int a1])).length) Slot.unset).toArray = ls at hl ⊢
  have hl : lv_has ls 3 [(0, .ref this), (1, .int a1)] := hl
  unfold f_X4_isFirstOfItsKind at h
  show W p l e rm_X4_isFirstOfItsKind s m _ below meth c s.heap [] 0 0 _ _
  refine lv_iconst (v := 0) hx hb dX4_isFirstOfItsKind_0 (by decide) ?_
  refine lv_istore_n (lv' := [(2, .int 0), (0, .ref this), (1, .int a1)]) hx hb dX4_isFirstOfItsKind_1 rfl hl (by decide) rfl (fun ls hl => ?_)
  refine W.widen (k := 0) (n := 0) (Nat.le_of_ble_eq_true rfl) (Nat.le_of_ble_eq_true rfl) ?_
  exact tj_X4_isFirstOfItsKind_2  hC hr hlocks hE  h hM hS (lv_sub hl [1, 2, 0] rfl)

theorem dd_X4_differentStates : yX4_differentStates.cls = RX4 ∧ yX4_differentStates.cls ≠ "java/lang/invoke/MethodHandle" ∧ yX4_differentStates.cls ≠ "java/lang/invoke/VarHandle" ∧ (parseMethodDescriptor yX4_differentStates.desc).map (fun d => d.parameters.length) = some 0 := by decide +kernel
abbrev rm_X4_differentStates : Room := ({ frames := 2, cells := 0, slots := 0, locals := 44 } : Room)
noncomputable def fj_X4_differentStates_32 (x1 : Int32) (M : Mem) : Option (Int32 × Mem) :=
  some (x1, M)
set_option maxHeartbeats 4000000 in
set_option maxRecDepth 100000 in
theorem tj_X4_differentStates_32 {p : Program} {l : Launch} {e : Env} {s : State} {m : MethodId} {args : Array Value} {below : List Frame} {meth : Method} {c : Code} {E : KEnv} {H : Heap} {locs : List Loc} {ls : Array Slot} {x1 : Int32} {M : Mem} {v : Int32} {M' : Mem} (hC : CallFix p m c cX4_differentStates 3 s args lw_G RX4) (hr : meth.sig.returnType = (some .int)) (hlocks : meth.locks = false) (hE : EnvOK E s) (h : fj_X4_differentStates_32 x1 M = some (v, M')) (hM : MOK E M H) (hS : va_S (eA E) s.heap H locs) (hl : lv_has ls 3 [(1, .int x1)]) : W p l e rm_X4_differentStates s m args below meth c H locs 0 0 (MQ below (cQ E (some (.int v)) M') args s 0 0 (eA E)) (F0 m 32 ls []) := by
  obtain ⟨hx, hb, hml, hown, hts⟩ := id hC
  unfold fj_X4_differentStates_32 at h
  refine lv_iload_n hx hb dX4_differentStates_32 rfl (lv_at hl 0 rfl) ?_
  cases h
  exact eI hx hb hr hlocks hM hS dX4_differentStates_33 (Nat.le_of_ble_eq_true rfl) (Nat.le_of_ble_eq_true rfl)
noncomputable def fj_X4_differentStates_26 (x0 : Nat) (x1 : Int32) (x2 : Int32) (M : Mem) : Option ((Int32 × Int32 × Mem) ⊕ (Int32 × Mem)) :=
  some (.inl (x1, x2 + 1, M))
set_option maxHeartbeats 4000000 in
set_option maxRecDepth 100000 in
theorem tj_X4_differentStates_26 {p : Program} {l : Launch} {e : Env} {s : State} {m : MethodId} {args : Array Value} {below : List Frame} {meth : Method} {c : Code} {E : KEnv} {H : Heap} {locs : List Loc} {ls : Array Slot} {x0 : Nat} {x1 : Int32} {x2 : Int32} {y1 : ((Int32 × Int32 × Mem) ⊕ (Int32 × Mem))} {M : Mem} {v : Int32} {M' : Mem} (hC : CallFix p m c cX4_differentStates 3 s args lw_G RX4) (hr : meth.sig.returnType = (some .int)) (hlocks : meth.locks = false) (hE : EnvOK E s) (hy1 : (∀ q : (Int32 × Int32 × Mem), y1 = .inl q → ∀ (H : Heap) (locs : List Loc) (ls : Array Slot), MOK E (q.2.2) H → va_S (eA E) s.heap H locs → lv_has ls 3 [(0, .ref x0), (1, .int q.1), (2, .int q.2.1)] → W p l e rm_X4_differentStates s m args below meth c H locs 0 0 (MQ below (cQ E (some (.int v)) M') args s 0 0 (eA E)) (F0 m 4 ls [])) ∧ ∀ z, y1 = .inr z → z = (v, M')) (h : fj_X4_differentStates_26 x0 x1 x2 M = some y1) (hM : MOK E M H) (hS : va_S (eA E) s.heap H locs) (hl : lv_has ls 3 [(0, .ref x0), (1, .int x1), (2, .int x2)]) : W p l e rm_X4_differentStates s m args below meth c H locs 0 0 (MQ below (cQ E (some (.int v)) M') args s 0 0 (eA E)) (F0 m 26 ls []) := by
  obtain ⟨hx, hb, hml, hown, hts⟩ := id hC
  unfold fj_X4_differentStates_26 at h
  refine lv_iinc (v := x2 + 1) (lv' := [(2, .int (x2 + 1)), (0, .ref x0), (1, .int x1)]) hx hb dX4_differentStates_26 hl (k := 2) rfl rfl (by decide) rfl (fun ls hl => ?_)
  refine lv_goto (tgt := 4) hx hb dX4_differentStates_29 (by decide) ?_
  cases h
  exact hy1.1 _ rfl _ _ _ hM hS (lv_sub hl [1, 2, 0] rfl)
noncomputable def fc_X4_differentStates_4 (x0 : Nat) (x1 : Int32) (x2 : Int32) (M : Mem) : Option ((Int32 × Int32 × Mem) ⊕ (Int32 × Mem)) :=
  (gRn 5 134 x0 M).bind fun v1 =>
  (gI 4 96 v1 M).bind fun v2 =>
  (if v2 ≤ x2 then
  (fj_X4_differentStates_32 x1 M).map Sum.inr
  else
  bn (cK 5 x0 M (f_X4_isFirstOfItsKind x0 x2 M)) fun v3 M4 =>
  (if v3 = 0 then
  fj_X4_differentStates_26 x0 x1 x2 M4
  else
  fj_X4_differentStates_26 x0 (x1 + 1) x2 M4))
noncomputable def fj_X4_differentStates_4 (x0 : Nat) (x1 : Int32) (x2 : Int32) (M : Mem) : Option (Int32 × Mem) := loopM (fun q : (Int32 × Int32 × Mem) => fc_X4_differentStates_4 x0 q.1 q.2.1 q.2.2) FU (x1, x2, M)
set_option maxHeartbeats 4000000 in
set_option maxRecDepth 100000 in
theorem tj_X4_differentStates_4 {p : Program} {l : Launch} {e : Env} {s : State} {m : MethodId} {args : Array Value} {below : List Frame} {meth : Method} {c : Code} {E : KEnv} {H : Heap} {locs : List Loc} {ls : Array Slot} {x0 : Nat} {x1 : Int32} {x2 : Int32} {M : Mem} {v : Int32} {M' : Mem} (hC : CallFix p m c cX4_differentStates 3 s args lw_G RX4) (hr : meth.sig.returnType = (some .int)) (hlocks : meth.locks = false) (hE : EnvOK E s) (h : fj_X4_differentStates_4 x0 x1 x2 M = some (v, M')) (hM : MOK E M H) (hS : va_S (eA E) s.heap H locs) (hl : lv_has ls 3 [(0, .ref x0), (1, .int x1), (2, .int x2)]) : W p l e rm_X4_differentStates s m args below meth c H locs 0 0 (MQ below (cQ E (some (.int v)) M') args s 0 0 (eA E)) (F0 m 4 ls []) := by
  refine loopM_ind (body := fun q : (Int32 × Int32 × Mem) => fc_X4_differentStates_4 x0 q.1 q.2.1 q.2.2) (x0 := (v, M')) (Wd := fun q : (Int32 × Int32 × Mem) => ∀ (H : Heap) (locs : List Loc) (ls : Array Slot), MOK E (q.2.2) H → va_S (eA E) s.heap H locs → lv_has ls 3 [(0, .ref x0), (1, .int q.1), (2, .int q.2.1)] → W p l e rm_X4_differentStates s m args below meth c H locs 0 0 (MQ below (cQ E (some (.int v)) M') args s 0 0 (eA E)) (F0 m 4 ls [])) ?_ FU (x1, x2, M) h H locs ls hM hS hl
  clear h hM hS hl H locs ls M x1 x2
  obtain ⟨hx, hb, hml, hown, hts⟩ := id hC
  intro q y1 h hy1 H locs ls hM hS hl
  obtain ⟨x1, x2, M⟩ := q
  have h : fc_X4_differentStates_4 x0 x1 x2 M = some y1 := h
  have hM : MOK E M H := hM
  have hl : lv_has ls 3 [(0, .ref x0), (1, .int x1), (2, .int x2)] := hl
  unfold fc_X4_differentStates_4 at h
  show W p l e rm_X4_differentStates s m args below meth c H locs _ _ _ _
  refine lv_iload_n hx hb dX4_differentStates_4 rfl (lv_at hl 2 rfl) ?_
  refine lv_aload_n hx hb dX4_differentStates_5 rfl (lv_at hl 0 rfl) ?_
  obtain ⟨v1, h1, h⟩ := ob h
  refine rgn_4_6 hx hb hts hown hE hM qw_404 h1 dX4_differentStates_6 ?_
  obtain ⟨v2, h1, h⟩ := ob h
  refine rg_3_0 hx hb hts hown hE hM qw_89 h1 dX4_differentStates_9 ?_
  refine lv_icmp_ge (tgt := 32) hx hb dX4_differentStates_12 (by decide) (fun c1 => ?_) (fun c1 => ?_)
  · have h := ifp c1 h
    obtain ⟨z0, h9, rfl⟩ := om h
    have e0 := hy1.2 _ rfl
    subst e0
    have h := h9
    refine W.widen (k := 0) (n := 0) (Nat.le_of_ble_eq_true rfl) (Nat.le_of_ble_eq_true rfl) ?_
    exact tj_X4_differentStates_32  hC hr hlocks hE  h hM hS (lv_sub hl [1] rfl)
  · have h := ifn c1 h
    refine lv_aload_n hx hb dX4_differentStates_15 rfl (lv_at hl 0 rfl) ?_
    refine lv_iload_n hx hb dX4_differentStates_16 rfl (lv_at hl 2 rfl) ?_
    obtain ⟨v3, M4, h1, h⟩ := ob2 h
    obtain ⟨hk1, h1⟩ := ifg h1
    refine kV1 (ci := 4) (As := [.int x2]) (rest := []) hC hE hS hM (mt_X4_isFirstOfItsKind _ E x0 x2 _ _ _ h1) (gwV qw_1171 qw_1173 qw_37 qw_39 qw_1174) ⟨rfl, rfl, (Nat.le_of_ble_eq_true rfl), (Nat.le_of_ble_eq_true rfl)⟩ dd_X4_isFirstOfItsKind rfl hk1 rfl rfl hl.1 (Nat.le_of_ble_eq_true rfl) dX4_differentStates_17 ⟨(Nat.le_of_ble_eq_true rfl), (Nat.le_of_ble_eq_true rfl)⟩ (fun H locs hM hS => ?_)
    refine lv_if_eq (tgt := 26) hx hb dX4_differentStates_20 (by decide) (fun c1 => ?_) (fun c1 => ?_)
    · have h := ifp c1 h
      refine W.widen (k := 0) (n := 0) (Nat.le_of_ble_eq_true rfl) (Nat.le_of_ble_eq_true rfl) ?_
      exact tj_X4_differentStates_26  hC hr hlocks hE hy1  h hM hS (lv_sub hl [0, 1, 2] rfl)
    · have h := ifn c1 h
      refine lv_iinc (v := x1 + 1) (lv' := [(1, .int (x1 + 1)), (0, .ref x0), (2, .int x2)]) hx hb dX4_differentStates_23 hl (k := 1) rfl rfl (by decide) rfl (fun ls hl => ?_)
      refine W.widen (k := 0) (n := 0) (Nat.le_of_ble_eq_true rfl) (Nat.le_of_ble_eq_true rfl) ?_
      exact tj_X4_differentStates_26  hC hr hlocks hE hy1  h hM hS (lv_sub hl [1, 0, 2] rfl)
noncomputable def f_X4_differentStates (this : Nat) (M : Mem) : Option (Int32 × Mem) :=
  fj_X4_differentStates_4 this 0 0 M
set_option maxHeartbeats 4000000 in
set_option maxRecDepth 100000 in
theorem mt_X4_differentStates (l : Launch) (E : KEnv) (this : Nat) (M M' : Mem) (v : Int32) (h : f_X4_differentStates this M = some (v, M')) : Met l yX4_differentStates (Cond.code yX4_differentStates cX4_differentStates 3 (some .int) :: lw_G) rm_X4_differentStates (cPc E [.ref this] M) (cQ E (some (.int v)) M') 0 0 (eA E) := by
  refine Met.ofW (cc := cX4_differentStates) (maxL := 3) (ret := (some .int)) (by decide) rfl ?_
  intro p e s m args below meth c s₁ B hml hv
  obtain ⟨rfl, hE, hM⟩ := hv
  have hx := B.exec
  have hb := B.bytes
  have hr := B.returns
  have hts0 := atoms_spec (ws := Cond.code yX4_differentStates cX4_differentStates 3 (some .int) :: lw_G) B.pre
  have hts : ∀ w ∈ lw_G, w.before _ s = true := fun w hw => hts0 w (List.mem_cons_of_mem _ hw)
  have hown : s.vm.findClass RX4 = some m.cls := findClass_of_methodNamed B.named
  have hlocks := B.notSynchronized
  have hC : CallFix p m c cX4_differentStates 3 s _ lw_G RX4 := ⟨hx, hb, hml, hown, hts⟩
  have hS : va_S (eA E) s.heap s.heap [] := va_S.rf
  have hl := lv_entry ([.ref this]) (n := 3) (Nat.le_of_ble_eq_true rfl)
  rw [lg_entry_eq]
  generalize (lg_sl ([.ref this]) ++ List.replicate (3 - (lg_sl ([.ref this])).length) Slot.unset).toArray = ls at hl ⊢
  have hl : lv_has ls 3 [(0, .ref this)] := hl
  unfold f_X4_differentStates at h
  show W p l e rm_X4_differentStates s m _ below meth c s.heap [] 0 0 _ _
  refine lv_iconst (v := 0) hx hb dX4_differentStates_0 (by decide) ?_
  refine lv_istore_n (lv' := [(1, .int 0), (0, .ref this)]) hx hb dX4_differentStates_1 rfl hl (by decide) rfl (fun ls hl => ?_)
  refine lv_iconst (v := 0) hx hb dX4_differentStates_2 (by decide) ?_
  refine lv_istore_n (lv' := [(2, .int 0), (1, .int 0), (0, .ref this)]) hx hb dX4_differentStates_3 rfl hl (by decide) rfl (fun ls hl => ?_)
  refine W.widen (k := 0) (n := 0) (Nat.le_of_ble_eq_true rfl) (Nat.le_of_ble_eq_true rfl) ?_
  exact tj_X4_differentStates_4  hC hr hlocks hE  h hM hS (lv_sub hl [2, 1, 0] rfl)

theorem dd_X4_requireCounter : yX4_requireCounter.cls = RX4 ∧ yX4_requireCounter.cls ≠ "java/lang/invoke/MethodHandle" ∧ yX4_requireCounter.cls ≠ "java/lang/invoke/VarHandle" ∧ (parseMethodDescriptor yX4_requireCounter.desc).map (fun d => d.parameters.length) = some 1 := by decide +kernel
abbrev rm_X4_requireCounter : Room := ({ frames := 6, cells := 1, slots := 6, locals := 90 } : Room)
noncomputable def fj_X4_requireCounter_15  (M : Mem) : Option ((Unit ⊕ Nat) × Mem) :=
  some (.inr 0, M)
set_option maxHeartbeats 4000000 in
set_option maxRecDepth 100000 in
theorem tj_X4_requireCounter_15 {p : Program} {l : Launch} {e : Env} {s : State} {m : MethodId} {args : Array Value} {below : List Frame} {meth : Method} {c : Code} {E : KEnv} {H : Heap} {locs : List Loc} {ls : Array Slot}  {M : Mem} {r : Unit ⊕ Nat} {M' : Mem} (hfl : l.stackTraces = false) (hout : ∀ x ∈ c.exceptionTable.toList, False) (hC : CallFix p m c cX4_requireCounter 2 s args lw_G RX4) (hr : meth.sig.returnType = none) (hlocks : meth.locks = false) (hE : EnvOK E s) (h : fj_X4_requireCounter_15  M = some (r, M')) (hM : MOK E M H) (hS : va_S (eA E) s.heap H locs) (hl : lv_has ls 2 []) : W p l e rm_X4_requireCounter s m args below meth c H locs 0 0 (vx_MQ below (cQx E (vU r) M') (cXx E (vU r) M') args s 1 6 (eA E)) (F0 m 15 ls []) := by
  obtain ⟨hx, hb, hml, hown, hts⟩ := id hC
  unfold fj_X4_requireCounter_15 at h
  cases h
  exact xThrW (i := 22) hfl hx hb hown hts hE hM hS (by decide) qw_443 qw_60 st_22 (ex_at hts hE ex_g0 ex_b0 (by decide)) (by decide +kernel) (hl.1.trans hml.symm) dX4_requireCounter_15 dX4_requireCounter_18 dX4_requireCounter_19 dX4_requireCounter_22 dX4_requireCounter_25 hout (Nat.le_of_ble_eq_true rfl) (Nat.le_of_ble_eq_true rfl) (Nat.le_of_ble_eq_true rfl) (Nat.le_of_ble_eq_true rfl) hlocks (Nat.le_of_ble_eq_true rfl) (Nat.le_of_ble_eq_true rfl)
noncomputable def f_X4_requireCounter (this : Nat) (a1 : Int32) (M : Mem) : Option ((Unit ⊕ Nat) × Mem) :=
  (if a1 < 0 then
  fj_X4_requireCounter_15 M
  else
  (gRn 5 134 this M).bind fun v1 =>
  (gI 4 97 v1 M).bind fun v2 =>
  (if a1 < v2 then
  some (.inl (), M)
  else
  fj_X4_requireCounter_15 M))
set_option maxHeartbeats 4000000 in
set_option maxRecDepth 100000 in
theorem mt_X4_requireCounter (l : Launch) (hfl : l.stackTraces = false) (E : KEnv) (this : Nat) (a1 : Int32) (M M' : Mem) (r : Unit ⊕ Nat) (h : f_X4_requireCounter this a1 M = some (r, M')) : vx_Met l yX4_requireCounter (Cond.code yX4_requireCounter cX4_requireCounter 2 none :: lw_G) rm_X4_requireCounter (cPc E [.ref this, .int a1] M) (cQx E (vU r) M') (cXx E (vU r) M') 1 6 (eA E) := by
  refine vx_ofW (cc := cX4_requireCounter) (maxL := 2) (ret := none) (by decide) rfl ?_
  intro p e s m args below meth c s₁ B hml hout hv
  obtain ⟨rfl, hE, hM⟩ := hv
  have hx := B.exec
  have hb := B.bytes
  have hr := B.returns
  have hts0 := atoms_spec (ws := Cond.code yX4_requireCounter cX4_requireCounter 2 none :: lw_G) B.pre
  have hts : ∀ w ∈ lw_G, w.before _ s = true := fun w hw => hts0 w (List.mem_cons_of_mem _ hw)
  have hown : s.vm.findClass RX4 = some m.cls := findClass_of_methodNamed B.named
  have hlocks := B.notSynchronized
  have hC : CallFix p m c cX4_requireCounter 2 s _ lw_G RX4 := ⟨hx, hb, hml, hown, hts⟩
  have hS : va_S (eA E) s.heap s.heap [] := va_S.rf
  have hl := lv_entry ([.ref this, .int a1]) (n := 2) (Nat.le_of_ble_eq_true rfl)
  rw [lg_entry_eq]
  generalize (lg_sl ([.ref this, .int a1]) ++ List.replicate (2 - (lg_sl ([.ref this, .int a1])).length) Slot.unset).toArray = ls at hl ⊢
  have hl : lv_has ls 2 [(0, .ref this), (1, .int a1)] := hl
  unfold f_X4_requireCounter at h
  show W p l e rm_X4_requireCounter s m _ below meth c s.heap [] 0 0 _ _
  refine lv_iload_n hx hb dX4_requireCounter_0 rfl (lv_at hl 1 rfl) ?_
  refine lv_if_lt (tgt := 15) hx hb dX4_requireCounter_1 (by decide) (fun c1 => ?_) (fun c1 => ?_)
  · have h := ifp c1 h
    refine W.widen (k := 0) (n := 0) (Nat.le_of_ble_eq_true rfl) (Nat.le_of_ble_eq_true rfl) ?_
    exact tj_X4_requireCounter_15 hfl hout  hC hr hlocks hE  h hM hS (lv_sub hl [] rfl)
  · have h := ifn c1 h
    refine lv_iload_n hx hb dX4_requireCounter_4 rfl (lv_at hl 1 rfl) ?_
    refine lv_aload_n hx hb dX4_requireCounter_5 rfl (lv_at hl 0 rfl) ?_
    obtain ⟨v1, h1, h⟩ := ob h
    refine rgn_4_6 hx hb hts hown hE hM qw_404 h1 dX4_requireCounter_6 ?_
    obtain ⟨v2, h1, h⟩ := ob h
    refine rg_3_1 hx hb hts hown hE hM qw_93 h1 dX4_requireCounter_9 ?_
    refine lv_icmp_lt (tgt := 26) hx hb dX4_requireCounter_12 (by decide) (fun c1 => ?_) (fun c1 => ?_)
    · have h := ifp c1 h
      cases h
      exact xRet (eV_ hx hb hr hlocks hM hS dX4_requireCounter_26 (Nat.le_of_ble_eq_true rfl) (Nat.le_of_ble_eq_true rfl))
    · have h := ifn c1 h
      refine W.widen (k := 0) (n := 0) (Nat.le_of_ble_eq_true rfl) (Nat.le_of_ble_eq_true rfl) ?_
      exact tj_X4_requireCounter_15 hfl hout  hC hr hlocks hE  h hM hS (lv_sub hl [] rfl)

theorem dd_X4_counterValue : yX4_counterValue.cls = RX4 ∧ yX4_counterValue.cls ≠ "java/lang/invoke/MethodHandle" ∧ yX4_counterValue.cls ≠ "java/lang/invoke/VarHandle" ∧ (parseMethodDescriptor yX4_counterValue.desc).map (fun d => d.parameters.length) = some 2 := by decide +kernel
abbrev rm_X4_counterValue : Room := ({ frames := 8, cells := 2, slots := 12, locals := 132 } : Room)
noncomputable def f_X4_counterValue (this : Nat) (a1 : Int32) (a2 : Int32) (M : Mem) : Option ((Int32 ⊕ Nat) × Mem) :=
  bx (cK 5 this M (f_X4_stateOf this a1 M)) (fun ex M => some ((.inr ex, M))) fun v1 M2 =>
  bx (cK 5 this M2 (f_X4_requireCounter this a2 M2)) (fun ex M => some ((.inr ex, M))) fun v3 M4 =>
  bn (cK 3 v1 M4 (f_X2_total v1 a2 M4)) fun v5 M6 =>
  some (.inl v5, M6)
set_option maxHeartbeats 4000000 in
set_option maxRecDepth 100000 in
theorem mt_X4_counterValue (l : Launch) (hfl : l.stackTraces = false) (E : KEnv) (this : Nat) (a1 : Int32) (a2 : Int32) (M M' : Mem) (r : Int32 ⊕ Nat) (h : f_X4_counterValue this a1 a2 M = some (r, M')) : vx_Met l yX4_counterValue (Cond.code yX4_counterValue cX4_counterValue 4 (some .int) :: lw_G) rm_X4_counterValue (cPc E [.ref this, .int a1, .int a2] M) (cQx E (vI r) M') (cXx E (vI r) M') 2 12 (eA E) := by
  refine vx_ofW (cc := cX4_counterValue) (maxL := 4) (ret := (some .int)) (by decide) rfl ?_
  intro p e s m args below meth c s₁ B hml hout hv
  obtain ⟨rfl, hE, hM⟩ := hv
  have hx := B.exec
  have hb := B.bytes
  have hr := B.returns
  have hts0 := atoms_spec (ws := Cond.code yX4_counterValue cX4_counterValue 4 (some .int) :: lw_G) B.pre
  have hts : ∀ w ∈ lw_G, w.before _ s = true := fun w hw => hts0 w (List.mem_cons_of_mem _ hw)
  have hown : s.vm.findClass RX4 = some m.cls := findClass_of_methodNamed B.named
  have hlocks := B.notSynchronized
  have hC : CallFix p m c cX4_counterValue 4 s _ lw_G RX4 := ⟨hx, hb, hml, hown, hts⟩
  have hS : va_S (eA E) s.heap s.heap [] := va_S.rf
  have hl := lv_entry ([.ref this, .int a1, .int a2]) (n := 4) (Nat.le_of_ble_eq_true rfl)
  rw [lg_entry_eq]
  generalize (lg_sl ([.ref this, .int a1, .int a2]) ++ List.replicate (4 - (lg_sl ([.ref this, .int a1, .int a2])).length) Slot.unset).toArray = ls at hl ⊢
  have hl : lv_has ls 4 [(0, .ref this), (1, .int a1), (2, .int a2)] := hl
  unfold f_X4_counterValue at h
  show W p l e rm_X4_counterValue s m _ below meth c s.heap [] 0 0 _ _
  refine lv_aload_n hx hb dX4_counterValue_0 rfl (lv_at hl 0 rfl) ?_
  refine lv_iload_n hx hb dX4_counterValue_1 rfl (lv_at hl 1 rfl) ?_
  rcases obx h with ⟨v1, M2, h1, h⟩ | ⟨ex, M9, h1, h⟩
  rotate_left
  · obtain ⟨hk1, h1⟩ := ifg h1
    cases h
    exact kx_out (kx_V (ci := 4) (As := [.int a1]) (rest := []) hC hE hS hM (mt_X4_stateOf _ hfl E this a1 _ _ _ h1) (gwV qw_619 qw_621 qw_25 qw_39 qw_622) ⟨rfl, rfl, (Nat.le_of_ble_eq_true rfl), (Nat.le_of_ble_eq_true rfl)⟩ dd_X4_stateOf rfl hk1 rfl rfl hl.1 (Nat.le_of_ble_eq_true rfl) dX4_counterValue_2 ⟨(Nat.le_of_ble_eq_true rfl), (Nat.le_of_ble_eq_true rfl)⟩) hS hout hlocks (Nat.le_of_ble_eq_true rfl) (Nat.le_of_ble_eq_true rfl)
  obtain ⟨hk1, h1⟩ := ifg h1
  refine kx_ok1 (kx_V (ci := 4) (As := [.int a1]) (rest := []) hC hE hS hM (mt_X4_stateOf _ hfl E this a1 _ _ _ h1) (gwV qw_619 qw_621 qw_25 qw_39 qw_622) ⟨rfl, rfl, (Nat.le_of_ble_eq_true rfl), (Nat.le_of_ble_eq_true rfl)⟩ dd_X4_stateOf rfl hk1 rfl rfl hl.1 (Nat.le_of_ble_eq_true rfl) dX4_counterValue_2 ⟨(Nat.le_of_ble_eq_true rfl), (Nat.le_of_ble_eq_true rfl)⟩) hS (fun H locs hM hS => ?_)
  refine lv_astore_n (lv' := [(3, .ref v1), (0, .ref this), (1, .int a1), (2, .int a2)]) hx hb dX4_counterValue_5 rfl hl (by decide) rfl (fun ls hl => ?_)
  refine lv_aload_n hx hb dX4_counterValue_6 rfl (lv_at hl 1 rfl) ?_
  refine lv_iload_n hx hb dX4_counterValue_7 rfl (lv_at hl 3 rfl) ?_
  rcases obx h with ⟨v3, M4, h1, h⟩ | ⟨ex, M9, h1, h⟩
  rotate_left
  · obtain ⟨hk1, h1⟩ := ifg h1
    cases h
    exact kx_out (kx_V (ci := 4) (As := [.int a2]) (rest := []) hC hE hS hM (mt_X4_requireCounter _ hfl E this a2 _ _ _ h1) (gwV qw_628 qw_630 qw_27 qw_39 qw_631) ⟨rfl, rfl, (Nat.le_of_ble_eq_true rfl), (Nat.le_of_ble_eq_true rfl)⟩ dd_X4_requireCounter rfl hk1 rfl rfl hl.1 (Nat.le_of_ble_eq_true rfl) dX4_counterValue_8 ⟨(Nat.le_of_ble_eq_true rfl), (Nat.le_of_ble_eq_true rfl)⟩) hS hout hlocks (Nat.le_of_ble_eq_true rfl) (Nat.le_of_ble_eq_true rfl)
  obtain ⟨hk1, h1⟩ := ifg h1
  refine kx_ok0 (kx_V (ci := 4) (As := [.int a2]) (rest := []) hC hE hS hM (mt_X4_requireCounter _ hfl E this a2 _ _ _ h1) (gwV qw_628 qw_630 qw_27 qw_39 qw_631) ⟨rfl, rfl, (Nat.le_of_ble_eq_true rfl), (Nat.le_of_ble_eq_true rfl)⟩ dd_X4_requireCounter rfl hk1 rfl rfl hl.1 (Nat.le_of_ble_eq_true rfl) dX4_counterValue_8 ⟨(Nat.le_of_ble_eq_true rfl), (Nat.le_of_ble_eq_true rfl)⟩) hS (fun H locs hM hS => ?_)
  refine lv_aload_n hx hb dX4_counterValue_11 rfl (lv_at hl 0 rfl) ?_
  refine lv_iload_n hx hb dX4_counterValue_12 rfl (lv_at hl 3 rfl) ?_
  obtain ⟨v5, M6, h1, h⟩ := ob2 h
  obtain ⟨hk1, h1⟩ := ifg h1
  refine kV1 (ci := 2) (As := [.int a2]) (rest := []) hC hE hS hM (mt_X2_total _ E v1 a2 _ _ _ h1) (gwV qw_635 qw_636 qw_637 qw_41 qw_638) ⟨rfl, rfl, (Nat.le_of_ble_eq_true rfl), (Nat.le_of_ble_eq_true rfl)⟩ dd_X2_total rfl hk1 rfl rfl hl.1 (Nat.le_of_ble_eq_true rfl) dX4_counterValue_13 ⟨(Nat.le_of_ble_eq_true rfl), (Nat.le_of_ble_eq_true rfl)⟩ (fun H locs hM hS => ?_)
  cases h
  exact xRet (eI hx hb hr hlocks hM hS dX4_counterValue_16 (Nat.le_of_ble_eq_true rfl) (Nat.le_of_ble_eq_true rfl))

theorem dd_X4_sumOf : yX4_sumOf.cls = RX4 ∧ yX4_sumOf.cls ≠ "java/lang/invoke/MethodHandle" ∧ yX4_sumOf.cls ≠ "java/lang/invoke/VarHandle" ∧ (parseMethodDescriptor yX4_sumOf.desc).map (fun d => d.parameters.length) = some 4 := by decide +kernel
abbrev rm_X4_sumOf : Room := ({ frames := 8, cells := 3, slots := 18, locals := 132 } : Room)
noncomputable def f_X4_sumOf (this : Nat) (a1 : Int32) (a2 : Int32) (a3 : Int32) (a4 : Int32) (M : Mem) : Option ((Int32 ⊕ Nat) × Mem) :=
  bx (cK 5 this M (f_X4_stateOf this a2 M)) (fun ex M => some ((.inr ex, M))) fun v1 M2 =>
  bx (cK 5 this M2 (f_X4_requireCounter this a3 M2)) (fun ex M => some ((.inr ex, M))) fun v3 M4 =>
  bx (cK 5 this M4 (f_X4_requireReplica this a4 M4)) (fun ex M => some ((.inr ex, M))) fun v5 M6 =>
  bn (cK 3 v1 M6 (f_X2_sum v1 a1 a3 a4 M6)) fun v7 M8 =>
  some (.inl v7, M8)
set_option maxHeartbeats 4000000 in
set_option maxRecDepth 100000 in
theorem mt_X4_sumOf (l : Launch) (hfl : l.stackTraces = false) (E : KEnv) (this : Nat) (a1 : Int32) (a2 : Int32) (a3 : Int32) (a4 : Int32) (M M' : Mem) (r : Int32 ⊕ Nat) (h : f_X4_sumOf this a1 a2 a3 a4 M = some (r, M')) : vx_Met l yX4_sumOf (Cond.code yX4_sumOf cX4_sumOf 6 (some .int) :: lw_G) rm_X4_sumOf (cPc E [.ref this, .int a1, .int a2, .int a3, .int a4] M) (cQx E (vI r) M') (cXx E (vI r) M') 3 18 (eA E) := by
  refine vx_ofW (cc := cX4_sumOf) (maxL := 6) (ret := (some .int)) (by decide) rfl ?_
  intro p e s m args below meth c s₁ B hml hout hv
  obtain ⟨rfl, hE, hM⟩ := hv
  have hx := B.exec
  have hb := B.bytes
  have hr := B.returns
  have hts0 := atoms_spec (ws := Cond.code yX4_sumOf cX4_sumOf 6 (some .int) :: lw_G) B.pre
  have hts : ∀ w ∈ lw_G, w.before _ s = true := fun w hw => hts0 w (List.mem_cons_of_mem _ hw)
  have hown : s.vm.findClass RX4 = some m.cls := findClass_of_methodNamed B.named
  have hlocks := B.notSynchronized
  have hC : CallFix p m c cX4_sumOf 6 s _ lw_G RX4 := ⟨hx, hb, hml, hown, hts⟩
  have hS : va_S (eA E) s.heap s.heap [] := va_S.rf
  have hl := lv_entry ([.ref this, .int a1, .int a2, .int a3, .int a4]) (n := 6) (Nat.le_of_ble_eq_true rfl)
  rw [lg_entry_eq]
  generalize (lg_sl ([.ref this, .int a1, .int a2, .int a3, .int a4]) ++ List.replicate (6 - (lg_sl ([.ref this, .int a1, .int a2, .int a3, .int a4])).length) Slot.unset).toArray = ls at hl ⊢
  have hl : lv_has ls 6 [(0, .ref this), (1, .int a1), (2, .int a2), (3, .int a3), (4, .int a4)] := hl
  unfold f_X4_sumOf at h
  show W p l e rm_X4_sumOf s m _ below meth c s.heap [] 0 0 _ _
  refine lv_aload_n hx hb dX4_sumOf_0 rfl (lv_at hl 0 rfl) ?_
  refine lv_iload_n hx hb dX4_sumOf_1 rfl (lv_at hl 2 rfl) ?_
  rcases obx h with ⟨v1, M2, h1, h⟩ | ⟨ex, M9, h1, h⟩
  rotate_left
  · obtain ⟨hk1, h1⟩ := ifg h1
    cases h
    exact kx_out (kx_V (ci := 4) (As := [.int a2]) (rest := []) hC hE hS hM (mt_X4_stateOf _ hfl E this a2 _ _ _ h1) (gwV qw_619 qw_621 qw_25 qw_39 qw_622) ⟨rfl, rfl, (Nat.le_of_ble_eq_true rfl), (Nat.le_of_ble_eq_true rfl)⟩ dd_X4_stateOf rfl hk1 rfl rfl hl.1 (Nat.le_of_ble_eq_true rfl) dX4_sumOf_2 ⟨(Nat.le_of_ble_eq_true rfl), (Nat.le_of_ble_eq_true rfl)⟩) hS hout hlocks (Nat.le_of_ble_eq_true rfl) (Nat.le_of_ble_eq_true rfl)
  obtain ⟨hk1, h1⟩ := ifg h1
  refine kx_ok1 (kx_V (ci := 4) (As := [.int a2]) (rest := []) hC hE hS hM (mt_X4_stateOf _ hfl E this a2 _ _ _ h1) (gwV qw_619 qw_621 qw_25 qw_39 qw_622) ⟨rfl, rfl, (Nat.le_of_ble_eq_true rfl), (Nat.le_of_ble_eq_true rfl)⟩ dd_X4_stateOf rfl hk1 rfl rfl hl.1 (Nat.le_of_ble_eq_true rfl) dX4_sumOf_2 ⟨(Nat.le_of_ble_eq_true rfl), (Nat.le_of_ble_eq_true rfl)⟩) hS (fun H locs hM hS => ?_)
  refine lv_astore (lv' := [(5, .ref v1), (0, .ref this), (1, .int a1), (2, .int a2), (3, .int a3), (4, .int a4)]) hx hb dX4_sumOf_5 hl (by decide) rfl (fun ls hl => ?_)
  refine lv_aload_n hx hb dX4_sumOf_7 rfl (lv_at hl 1 rfl) ?_
  refine lv_iload_n hx hb dX4_sumOf_8 rfl (lv_at hl 4 rfl) ?_
  rcases obx h with ⟨v3, M4, h1, h⟩ | ⟨ex, M9, h1, h⟩
  rotate_left
  · obtain ⟨hk1, h1⟩ := ifg h1
    cases h
    exact kx_out (kx_V (ci := 4) (As := [.int a3]) (rest := []) hC hE hS hM (mt_X4_requireCounter _ hfl E this a3 _ _ _ h1) (gwV qw_628 qw_630 qw_27 qw_39 qw_631) ⟨rfl, rfl, (Nat.le_of_ble_eq_true rfl), (Nat.le_of_ble_eq_true rfl)⟩ dd_X4_requireCounter rfl hk1 rfl rfl hl.1 (Nat.le_of_ble_eq_true rfl) dX4_sumOf_9 ⟨(Nat.le_of_ble_eq_true rfl), (Nat.le_of_ble_eq_true rfl)⟩) hS hout hlocks (Nat.le_of_ble_eq_true rfl) (Nat.le_of_ble_eq_true rfl)
  obtain ⟨hk1, h1⟩ := ifg h1
  refine kx_ok0 (kx_V (ci := 4) (As := [.int a3]) (rest := []) hC hE hS hM (mt_X4_requireCounter _ hfl E this a3 _ _ _ h1) (gwV qw_628 qw_630 qw_27 qw_39 qw_631) ⟨rfl, rfl, (Nat.le_of_ble_eq_true rfl), (Nat.le_of_ble_eq_true rfl)⟩ dd_X4_requireCounter rfl hk1 rfl rfl hl.1 (Nat.le_of_ble_eq_true rfl) dX4_sumOf_9 ⟨(Nat.le_of_ble_eq_true rfl), (Nat.le_of_ble_eq_true rfl)⟩) hS (fun H locs hM hS => ?_)
  refine lv_aload_n hx hb dX4_sumOf_12 rfl (lv_at hl 1 rfl) ?_
  refine lv_iload hx hb dX4_sumOf_13 (lv_at hl 5 rfl) ?_
  rcases obx h with ⟨v5, M6, h1, h⟩ | ⟨ex, M9, h1, h⟩
  rotate_left
  · obtain ⟨hk1, h1⟩ := ifg h1
    cases h
    exact kx_out (kx_V (ci := 4) (As := [.int a4]) (rest := []) hC hE hS hM (mt_X4_requireReplica _ hfl E this a4 _ _ _ h1) (gwV qw_623 qw_625 qw_26 qw_39 qw_626) ⟨rfl, rfl, (Nat.le_of_ble_eq_true rfl), (Nat.le_of_ble_eq_true rfl)⟩ dd_X4_requireReplica rfl hk1 rfl rfl hl.1 (Nat.le_of_ble_eq_true rfl) dX4_sumOf_15 ⟨(Nat.le_of_ble_eq_true rfl), (Nat.le_of_ble_eq_true rfl)⟩) hS hout hlocks (Nat.le_of_ble_eq_true rfl) (Nat.le_of_ble_eq_true rfl)
  obtain ⟨hk1, h1⟩ := ifg h1
  refine kx_ok0 (kx_V (ci := 4) (As := [.int a4]) (rest := []) hC hE hS hM (mt_X4_requireReplica _ hfl E this a4 _ _ _ h1) (gwV qw_623 qw_625 qw_26 qw_39 qw_626) ⟨rfl, rfl, (Nat.le_of_ble_eq_true rfl), (Nat.le_of_ble_eq_true rfl)⟩ dd_X4_requireReplica rfl hk1 rfl rfl hl.1 (Nat.le_of_ble_eq_true rfl) dX4_sumOf_15 ⟨(Nat.le_of_ble_eq_true rfl), (Nat.le_of_ble_eq_true rfl)⟩) hS (fun H locs hM hS => ?_)
  refine lv_aload hx hb dX4_sumOf_18 (lv_at hl 0 rfl) ?_
  refine lv_iload_n hx hb dX4_sumOf_20 rfl (lv_at hl 2 rfl) ?_
  refine lv_iload_n hx hb dX4_sumOf_21 rfl (lv_at hl 4 rfl) ?_
  refine lv_iload hx hb dX4_sumOf_22 (lv_at hl 5 rfl) ?_
  obtain ⟨v7, M8, h1, h⟩ := ob2 h
  obtain ⟨hk1, h1⟩ := ifg h1
  refine kV1 (ci := 2) (As := [.int a1, .int a3, .int a4]) (rest := []) hC hE hS hM (mt_X2_sum _ E v1 a1 a3 a4 _ _ _ h1) (gwV qw_1010 qw_640 qw_641 qw_41 qw_642) ⟨rfl, rfl, (Nat.le_of_ble_eq_true rfl), (Nat.le_of_ble_eq_true rfl)⟩ dd_X2_sum rfl hk1 rfl rfl hl.1 (Nat.le_of_ble_eq_true rfl) dX4_sumOf_24 ⟨(Nat.le_of_ble_eq_true rfl), (Nat.le_of_ble_eq_true rfl)⟩ (fun H locs hM hS => ?_)
  cases h
  exact xRet (eI hx hb hr hlocks hM hS dX4_sumOf_27 (Nat.le_of_ble_eq_true rfl) (Nat.le_of_ble_eq_true rfl))

theorem dd_X4_increments : yX4_increments.cls = RX4 ∧ yX4_increments.cls ≠ "java/lang/invoke/MethodHandle" ∧ yX4_increments.cls ≠ "java/lang/invoke/VarHandle" ∧ (parseMethodDescriptor yX4_increments.desc).map (fun d => d.parameters.length) = some 3 := by decide +kernel
abbrev rm_X4_increments : Room := ({ frames := 9, cells := 3, slots := 18, locals := 157 } : Room)
noncomputable def f_X4_increments (this : Nat) (a1 : Int32) (a2 : Int32) (a3 : Int32) (M : Mem) : Option ((Int32 ⊕ Nat) × Mem) :=
  bx (cK 5 this M (f_X4_sumOf this 4 a1 a2 a3 M)) (fun ex M => some ((.inr ex, M))) fun v1 M2 =>
  some (.inl v1, M2)
set_option maxHeartbeats 4000000 in
set_option maxRecDepth 100000 in
theorem mt_X4_increments (l : Launch) (hfl : l.stackTraces = false) (E : KEnv) (this : Nat) (a1 : Int32) (a2 : Int32) (a3 : Int32) (M M' : Mem) (r : Int32 ⊕ Nat) (h : f_X4_increments this a1 a2 a3 M = some (r, M')) : vx_Met l yX4_increments (Cond.code yX4_increments cX4_increments 4 (some .int) :: lw_G) rm_X4_increments (cPc E [.ref this, .int a1, .int a2, .int a3] M) (cQx E (vI r) M') (cXx E (vI r) M') 3 18 (eA E) := by
  refine vx_ofW (cc := cX4_increments) (maxL := 4) (ret := (some .int)) (by decide) rfl ?_
  intro p e s m args below meth c s₁ B hml hout hv
  obtain ⟨rfl, hE, hM⟩ := hv
  have hx := B.exec
  have hb := B.bytes
  have hr := B.returns
  have hts0 := atoms_spec (ws := Cond.code yX4_increments cX4_increments 4 (some .int) :: lw_G) B.pre
  have hts : ∀ w ∈ lw_G, w.before _ s = true := fun w hw => hts0 w (List.mem_cons_of_mem _ hw)
  have hown : s.vm.findClass RX4 = some m.cls := findClass_of_methodNamed B.named
  have hlocks := B.notSynchronized
  have hC : CallFix p m c cX4_increments 4 s _ lw_G RX4 := ⟨hx, hb, hml, hown, hts⟩
  have hS : va_S (eA E) s.heap s.heap [] := va_S.rf
  have hl := lv_entry ([.ref this, .int a1, .int a2, .int a3]) (n := 4) (Nat.le_of_ble_eq_true rfl)
  rw [lg_entry_eq]
  generalize (lg_sl ([.ref this, .int a1, .int a2, .int a3]) ++ List.replicate (4 - (lg_sl ([.ref this, .int a1, .int a2, .int a3])).length) Slot.unset).toArray = ls at hl ⊢
  have hl : lv_has ls 4 [(0, .ref this), (1, .int a1), (2, .int a2), (3, .int a3)] := hl
  unfold f_X4_increments at h
  show W p l e rm_X4_increments s m _ below meth c s.heap [] 0 0 _ _
  refine lv_aload_n hx hb dX4_increments_0 rfl (lv_at hl 0 rfl) ?_
  refine lv_iconst (v := 4) hx hb dX4_increments_1 (by decide) ?_
  refine lv_iload_n hx hb dX4_increments_2 rfl (lv_at hl 1 rfl) ?_
  refine lv_iload_n hx hb dX4_increments_3 rfl (lv_at hl 2 rfl) ?_
  refine lv_iload_n hx hb dX4_increments_4 rfl (lv_at hl 3 rfl) ?_
  rcases obx h with ⟨v1, M2, h1, h⟩ | ⟨ex, M9, h1, h⟩
  rotate_left
  · obtain ⟨hk1, h1⟩ := ifg h1
    cases h
    exact kx_out (kx_V (ci := 4) (As := [.int 4, .int a1, .int a2, .int a3]) (rest := []) hC hE hS hM (mt_X4_sumOf _ hfl E this 4 a1 a2 a3 _ _ _ h1) (gwV qw_1006 qw_1008 qw_32 qw_39 qw_1009) ⟨rfl, rfl, (Nat.le_of_ble_eq_true rfl), (Nat.le_of_ble_eq_true rfl)⟩ dd_X4_sumOf rfl hk1 rfl rfl hl.1 (Nat.le_of_ble_eq_true rfl) dX4_increments_5 ⟨(Nat.le_of_ble_eq_true rfl), (Nat.le_of_ble_eq_true rfl)⟩) hS hout hlocks (Nat.le_of_ble_eq_true rfl) (Nat.le_of_ble_eq_true rfl)
  obtain ⟨hk1, h1⟩ := ifg h1
  refine kx_ok1 (kx_V (ci := 4) (As := [.int 4, .int a1, .int a2, .int a3]) (rest := []) hC hE hS hM (mt_X4_sumOf _ hfl E this 4 a1 a2 a3 _ _ _ h1) (gwV qw_1006 qw_1008 qw_32 qw_39 qw_1009) ⟨rfl, rfl, (Nat.le_of_ble_eq_true rfl), (Nat.le_of_ble_eq_true rfl)⟩ dd_X4_sumOf rfl hk1 rfl rfl hl.1 (Nat.le_of_ble_eq_true rfl) dX4_increments_5 ⟨(Nat.le_of_ble_eq_true rfl), (Nat.le_of_ble_eq_true rfl)⟩) hS (fun H locs hM hS => ?_)
  cases h
  exact xRet (eI hx hb hr hlocks hM hS dX4_increments_8 (Nat.le_of_ble_eq_true rfl) (Nat.le_of_ble_eq_true rfl))

theorem dd_X4_decrements : yX4_decrements.cls = RX4 ∧ yX4_decrements.cls ≠ "java/lang/invoke/MethodHandle" ∧ yX4_decrements.cls ≠ "java/lang/invoke/VarHandle" ∧ (parseMethodDescriptor yX4_decrements.desc).map (fun d => d.parameters.length) = some 3 := by decide +kernel
abbrev rm_X4_decrements : Room := ({ frames := 9, cells := 3, slots := 18, locals := 157 } : Room)
noncomputable def f_X4_decrements (this : Nat) (a1 : Int32) (a2 : Int32) (a3 : Int32) (M : Mem) : Option ((Int32 ⊕ Nat) × Mem) :=
  bx (cK 5 this M (f_X4_sumOf this 20 a1 a2 a3 M)) (fun ex M => some ((.inr ex, M))) fun v1 M2 =>
  some (.inl v1, M2)
set_option maxHeartbeats 4000000 in
set_option maxRecDepth 100000 in
theorem mt_X4_decrements (l : Launch) (hfl : l.stackTraces = false) (E : KEnv) (this : Nat) (a1 : Int32) (a2 : Int32) (a3 : Int32) (M M' : Mem) (r : Int32 ⊕ Nat) (h : f_X4_decrements this a1 a2 a3 M = some (r, M')) : vx_Met l yX4_decrements (Cond.code yX4_decrements cX4_decrements 4 (some .int) :: lw_G) rm_X4_decrements (cPc E [.ref this, .int a1, .int a2, .int a3] M) (cQx E (vI r) M') (cXx E (vI r) M') 3 18 (eA E) := by
  refine vx_ofW (cc := cX4_decrements) (maxL := 4) (ret := (some .int)) (by decide) rfl ?_
  intro p e s m args below meth c s₁ B hml hout hv
  obtain ⟨rfl, hE, hM⟩ := hv
  have hx := B.exec
  have hb := B.bytes
  have hr := B.returns
  have hts0 := atoms_spec (ws := Cond.code yX4_decrements cX4_decrements 4 (some .int) :: lw_G) B.pre
  have hts : ∀ w ∈ lw_G, w.before _ s = true := fun w hw => hts0 w (List.mem_cons_of_mem _ hw)
  have hown : s.vm.findClass RX4 = some m.cls := findClass_of_methodNamed B.named
  have hlocks := B.notSynchronized
  have hC : CallFix p m c cX4_decrements 4 s _ lw_G RX4 := ⟨hx, hb, hml, hown, hts⟩
  have hS : va_S (eA E) s.heap s.heap [] := va_S.rf
  have hl := lv_entry ([.ref this, .int a1, .int a2, .int a3]) (n := 4) (Nat.le_of_ble_eq_true rfl)
  rw [lg_entry_eq]
  generalize (lg_sl ([.ref this, .int a1, .int a2, .int a3]) ++ List.replicate (4 - (lg_sl ([.ref this, .int a1, .int a2, .int a3])).length) Slot.unset).toArray = ls at hl ⊢
  have hl : lv_has ls 4 [(0, .ref this), (1, .int a1), (2, .int a2), (3, .int a3)] := hl
  unfold f_X4_decrements at h
  show W p l e rm_X4_decrements s m _ below meth c s.heap [] 0 0 _ _
  refine lv_aload_n hx hb dX4_decrements_0 rfl (lv_at hl 0 rfl) ?_
  refine lv_bipush (v := 20) hx hb dX4_decrements_1 (by decide) ?_
  refine lv_iload_n hx hb dX4_decrements_3 rfl (lv_at hl 1 rfl) ?_
  refine lv_iload_n hx hb dX4_decrements_4 rfl (lv_at hl 2 rfl) ?_
  refine lv_iload_n hx hb dX4_decrements_5 rfl (lv_at hl 3 rfl) ?_
  rcases obx h with ⟨v1, M2, h1, h⟩ | ⟨ex, M9, h1, h⟩
  rotate_left
  · obtain ⟨hk1, h1⟩ := ifg h1
    cases h
    exact kx_out (kx_V (ci := 4) (As := [.int 20, .int a1, .int a2, .int a3]) (rest := []) hC hE hS hM (mt_X4_sumOf _ hfl E this 20 a1 a2 a3 _ _ _ h1) (gwV qw_1006 qw_1008 qw_32 qw_39 qw_1009) ⟨rfl, rfl, (Nat.le_of_ble_eq_true rfl), (Nat.le_of_ble_eq_true rfl)⟩ dd_X4_sumOf rfl hk1 rfl rfl hl.1 (Nat.le_of_ble_eq_true rfl) dX4_decrements_6 ⟨(Nat.le_of_ble_eq_true rfl), (Nat.le_of_ble_eq_true rfl)⟩) hS hout hlocks (Nat.le_of_ble_eq_true rfl) (Nat.le_of_ble_eq_true rfl)
  obtain ⟨hk1, h1⟩ := ifg h1
  refine kx_ok1 (kx_V (ci := 4) (As := [.int 20, .int a1, .int a2, .int a3]) (rest := []) hC hE hS hM (mt_X4_sumOf _ hfl E this 20 a1 a2 a3 _ _ _ h1) (gwV qw_1006 qw_1008 qw_32 qw_39 qw_1009) ⟨rfl, rfl, (Nat.le_of_ble_eq_true rfl), (Nat.le_of_ble_eq_true rfl)⟩ dd_X4_sumOf rfl hk1 rfl rfl hl.1 (Nat.le_of_ble_eq_true rfl) dX4_decrements_6 ⟨(Nat.le_of_ble_eq_true rfl), (Nat.le_of_ble_eq_true rfl)⟩) hS (fun H locs hM hS => ?_)
  cases h
  exact xRet (eI hx hb hr hlocks hM hS dX4_decrements_9 (Nat.le_of_ble_eq_true rfl) (Nat.le_of_ble_eq_true rfl))

theorem dd_X4_requireTag : yX4_requireTag.cls = RX4 ∧ yX4_requireTag.cls ≠ "java/lang/invoke/MethodHandle" ∧ yX4_requireTag.cls ≠ "java/lang/invoke/VarHandle" ∧ (parseMethodDescriptor yX4_requireTag.desc).map (fun d => d.parameters.length) = some 1 := by decide +kernel
abbrev rm_X4_requireTag : Room := ({ frames := 6, cells := 1, slots := 6, locals := 90 } : Room)
noncomputable def fj_X4_requireTag_10  (M : Mem) : Option ((Unit ⊕ Nat) × Mem) :=
  some (.inr 0, M)
set_option maxHeartbeats 4000000 in
set_option maxRecDepth 100000 in
theorem tj_X4_requireTag_10 {p : Program} {l : Launch} {e : Env} {s : State} {m : MethodId} {args : Array Value} {below : List Frame} {meth : Method} {c : Code} {E : KEnv} {H : Heap} {locs : List Loc} {ls : Array Slot}  {M : Mem} {r : Unit ⊕ Nat} {M' : Mem} (hfl : l.stackTraces = false) (hout : ∀ x ∈ c.exceptionTable.toList, False) (hC : CallFix p m c cX4_requireTag 2 s args lw_G RX4) (hr : meth.sig.returnType = none) (hlocks : meth.locks = false) (hE : EnvOK E s) (h : fj_X4_requireTag_10  M = some (r, M')) (hM : MOK E M H) (hS : va_S (eA E) s.heap H locs) (hl : lv_has ls 2 []) : W p l e rm_X4_requireTag s m args below meth c H locs 0 0 (vx_MQ below (cQx E (vU r) M') (cXx E (vU r) M') args s 1 6 (eA E)) (F0 m 10 ls []) := by
  obtain ⟨hx, hb, hml, hown, hts⟩ := id hC
  unfold fj_X4_requireTag_10 at h
  cases h
  exact xThr (i := 23) hfl hx hb hown hts hE hM hS (by decide) qw_443 qw_60 st_23 (ex_at hts hE ex_g0 ex_b0 (by decide)) (by decide +kernel) (hl.1.trans hml.symm) dX4_requireTag_10 dX4_requireTag_13 dX4_requireTag_14 dX4_requireTag_16 dX4_requireTag_19 hout (Nat.le_of_ble_eq_true rfl) (Nat.le_of_ble_eq_true rfl) (Nat.le_of_ble_eq_true rfl) (Nat.le_of_ble_eq_true rfl) hlocks (Nat.le_of_ble_eq_true rfl) (Nat.le_of_ble_eq_true rfl)
noncomputable def f_X4_requireTag (this : Nat) (a1 : Int32) (M : Mem) : Option ((Unit ⊕ Nat) × Mem) :=
  (if a1 < 0 then
  fj_X4_requireTag_10 M
  else
  (if a1 < 16 then
  some (.inl (), M)
  else
  fj_X4_requireTag_10 M))
set_option maxHeartbeats 4000000 in
set_option maxRecDepth 100000 in
theorem mt_X4_requireTag (l : Launch) (hfl : l.stackTraces = false) (E : KEnv) (this : Nat) (a1 : Int32) (M M' : Mem) (r : Unit ⊕ Nat) (h : f_X4_requireTag this a1 M = some (r, M')) : vx_Met l yX4_requireTag (Cond.code yX4_requireTag cX4_requireTag 2 none :: lw_G) rm_X4_requireTag (cPc E [.ref this, .int a1] M) (cQx E (vU r) M') (cXx E (vU r) M') 1 6 (eA E) := by
  refine vx_ofW (cc := cX4_requireTag) (maxL := 2) (ret := none) (by decide) rfl ?_
  intro p e s m args below meth c s₁ B hml hout hv
  obtain ⟨rfl, hE, hM⟩ := hv
  have hx := B.exec
  have hb := B.bytes
  have hr := B.returns
  have hts0 := atoms_spec (ws := Cond.code yX4_requireTag cX4_requireTag 2 none :: lw_G) B.pre
  have hts : ∀ w ∈ lw_G, w.before _ s = true := fun w hw => hts0 w (List.mem_cons_of_mem _ hw)
  have hown : s.vm.findClass RX4 = some m.cls := findClass_of_methodNamed B.named
  have hlocks := B.notSynchronized
  have hC : CallFix p m c cX4_requireTag 2 s _ lw_G RX4 := ⟨hx, hb, hml, hown, hts⟩
  have hS : va_S (eA E) s.heap s.heap [] := va_S.rf
  have hl := lv_entry ([.ref this, .int a1]) (n := 2) (Nat.le_of_ble_eq_true rfl)
  rw [lg_entry_eq]
  generalize (lg_sl ([.ref this, .int a1]) ++ List.replicate (2 - (lg_sl ([.ref this, .int a1])).length) Slot.unset).toArray = ls at hl ⊢
  have hl : lv_has ls 2 [(0, .ref this), (1, .int a1)] := hl
  unfold f_X4_requireTag at h
  show W p l e rm_X4_requireTag s m _ below meth c s.heap [] 0 0 _ _
  refine lv_iload_n hx hb dX4_requireTag_0 rfl (lv_at hl 1 rfl) ?_
  refine lv_if_lt (tgt := 10) hx hb dX4_requireTag_1 (by decide) (fun c1 => ?_) (fun c1 => ?_)
  · have h := ifp c1 h
    refine W.widen (k := 0) (n := 0) (Nat.le_of_ble_eq_true rfl) (Nat.le_of_ble_eq_true rfl) ?_
    exact tj_X4_requireTag_10 hfl hout  hC hr hlocks hE  h hM hS (lv_sub hl [] rfl)
  · have h := ifn c1 h
    refine lv_iload_n hx hb dX4_requireTag_4 rfl (lv_at hl 1 rfl) ?_
    refine lv_bipush (v := 16) hx hb dX4_requireTag_5 (by decide) ?_
    refine lv_icmp_lt (tgt := 20) hx hb dX4_requireTag_7 (by decide) (fun c1 => ?_) (fun c1 => ?_)
    · have h := ifp c1 h
      cases h
      exact xRet (eV_ hx hb hr hlocks hM hS dX4_requireTag_20 (Nat.le_of_ble_eq_true rfl) (Nat.le_of_ble_eq_true rfl))
    · have h := ifn c1 h
      refine W.widen (k := 0) (n := 0) (Nat.le_of_ble_eq_true rfl) (Nat.le_of_ble_eq_true rfl) ?_
      exact tj_X4_requireTag_10 hfl hout  hC hr hlocks hE  h hM hS (lv_sub hl [] rfl)

theorem dd_X4_liveDots : yX4_liveDots.cls = RX4 ∧ yX4_liveDots.cls ≠ "java/lang/invoke/MethodHandle" ∧ yX4_liveDots.cls ≠ "java/lang/invoke/VarHandle" ∧ (parseMethodDescriptor yX4_liveDots.desc).map (fun d => d.parameters.length) = some 2 := by decide +kernel
abbrev rm_X4_liveDots : Room := ({ frames := 8, cells := 2, slots := 12, locals := 132 } : Room)
noncomputable def f_X4_liveDots (this : Nat) (a1 : Int32) (a2 : Int32) (M : Mem) : Option ((Int32 ⊕ Nat) × Mem) :=
  bx (cK 5 this M (f_X4_stateOf this a1 M)) (fun ex M => some ((.inr ex, M))) fun v1 M2 =>
  bx (cK 5 this M2 (f_X4_requireTag this a2 M2)) (fun ex M => some ((.inr ex, M))) fun v3 M4 =>
  bn (cK 3 v1 M4 (f_X2_dotsOfTag v1 a2 M4)) fun v5 M6 =>
  some (.inl v5, M6)
set_option maxHeartbeats 4000000 in
set_option maxRecDepth 100000 in
theorem mt_X4_liveDots (l : Launch) (hfl : l.stackTraces = false) (E : KEnv) (this : Nat) (a1 : Int32) (a2 : Int32) (M M' : Mem) (r : Int32 ⊕ Nat) (h : f_X4_liveDots this a1 a2 M = some (r, M')) : vx_Met l yX4_liveDots (Cond.code yX4_liveDots cX4_liveDots 4 (some .int) :: lw_G) rm_X4_liveDots (cPc E [.ref this, .int a1, .int a2] M) (cQx E (vI r) M') (cXx E (vI r) M') 2 12 (eA E) := by
  refine vx_ofW (cc := cX4_liveDots) (maxL := 4) (ret := (some .int)) (by decide) rfl ?_
  intro p e s m args below meth c s₁ B hml hout hv
  obtain ⟨rfl, hE, hM⟩ := hv
  have hx := B.exec
  have hb := B.bytes
  have hr := B.returns
  have hts0 := atoms_spec (ws := Cond.code yX4_liveDots cX4_liveDots 4 (some .int) :: lw_G) B.pre
  have hts : ∀ w ∈ lw_G, w.before _ s = true := fun w hw => hts0 w (List.mem_cons_of_mem _ hw)
  have hown : s.vm.findClass RX4 = some m.cls := findClass_of_methodNamed B.named
  have hlocks := B.notSynchronized
  have hC : CallFix p m c cX4_liveDots 4 s _ lw_G RX4 := ⟨hx, hb, hml, hown, hts⟩
  have hS : va_S (eA E) s.heap s.heap [] := va_S.rf
  have hl := lv_entry ([.ref this, .int a1, .int a2]) (n := 4) (Nat.le_of_ble_eq_true rfl)
  rw [lg_entry_eq]
  generalize (lg_sl ([.ref this, .int a1, .int a2]) ++ List.replicate (4 - (lg_sl ([.ref this, .int a1, .int a2])).length) Slot.unset).toArray = ls at hl ⊢
  have hl : lv_has ls 4 [(0, .ref this), (1, .int a1), (2, .int a2)] := hl
  unfold f_X4_liveDots at h
  show W p l e rm_X4_liveDots s m _ below meth c s.heap [] 0 0 _ _
  refine lv_aload_n hx hb dX4_liveDots_0 rfl (lv_at hl 0 rfl) ?_
  refine lv_iload_n hx hb dX4_liveDots_1 rfl (lv_at hl 1 rfl) ?_
  rcases obx h with ⟨v1, M2, h1, h⟩ | ⟨ex, M9, h1, h⟩
  rotate_left
  · obtain ⟨hk1, h1⟩ := ifg h1
    cases h
    exact kx_out (kx_V (ci := 4) (As := [.int a1]) (rest := []) hC hE hS hM (mt_X4_stateOf _ hfl E this a1 _ _ _ h1) (gwV qw_619 qw_621 qw_25 qw_39 qw_622) ⟨rfl, rfl, (Nat.le_of_ble_eq_true rfl), (Nat.le_of_ble_eq_true rfl)⟩ dd_X4_stateOf rfl hk1 rfl rfl hl.1 (Nat.le_of_ble_eq_true rfl) dX4_liveDots_2 ⟨(Nat.le_of_ble_eq_true rfl), (Nat.le_of_ble_eq_true rfl)⟩) hS hout hlocks (Nat.le_of_ble_eq_true rfl) (Nat.le_of_ble_eq_true rfl)
  obtain ⟨hk1, h1⟩ := ifg h1
  refine kx_ok1 (kx_V (ci := 4) (As := [.int a1]) (rest := []) hC hE hS hM (mt_X4_stateOf _ hfl E this a1 _ _ _ h1) (gwV qw_619 qw_621 qw_25 qw_39 qw_622) ⟨rfl, rfl, (Nat.le_of_ble_eq_true rfl), (Nat.le_of_ble_eq_true rfl)⟩ dd_X4_stateOf rfl hk1 rfl rfl hl.1 (Nat.le_of_ble_eq_true rfl) dX4_liveDots_2 ⟨(Nat.le_of_ble_eq_true rfl), (Nat.le_of_ble_eq_true rfl)⟩) hS (fun H locs hM hS => ?_)
  refine lv_astore_n (lv' := [(3, .ref v1), (0, .ref this), (1, .int a1), (2, .int a2)]) hx hb dX4_liveDots_5 rfl hl (by decide) rfl (fun ls hl => ?_)
  refine lv_aload_n hx hb dX4_liveDots_6 rfl (lv_at hl 1 rfl) ?_
  refine lv_iload_n hx hb dX4_liveDots_7 rfl (lv_at hl 3 rfl) ?_
  rcases obx h with ⟨v3, M4, h1, h⟩ | ⟨ex, M9, h1, h⟩
  rotate_left
  · obtain ⟨hk1, h1⟩ := ifg h1
    cases h
    exact kx_out (kx_V (ci := 4) (As := [.int a2]) (rest := []) hC hE hS hM (mt_X4_requireTag _ hfl E this a2 _ _ _ h1) (gwV qw_652 qw_654 qw_28 qw_39 qw_655) ⟨rfl, rfl, (Nat.le_of_ble_eq_true rfl), (Nat.le_of_ble_eq_true rfl)⟩ dd_X4_requireTag rfl hk1 rfl rfl hl.1 (Nat.le_of_ble_eq_true rfl) dX4_liveDots_8 ⟨(Nat.le_of_ble_eq_true rfl), (Nat.le_of_ble_eq_true rfl)⟩) hS hout hlocks (Nat.le_of_ble_eq_true rfl) (Nat.le_of_ble_eq_true rfl)
  obtain ⟨hk1, h1⟩ := ifg h1
  refine kx_ok0 (kx_V (ci := 4) (As := [.int a2]) (rest := []) hC hE hS hM (mt_X4_requireTag _ hfl E this a2 _ _ _ h1) (gwV qw_652 qw_654 qw_28 qw_39 qw_655) ⟨rfl, rfl, (Nat.le_of_ble_eq_true rfl), (Nat.le_of_ble_eq_true rfl)⟩ dd_X4_requireTag rfl hk1 rfl rfl hl.1 (Nat.le_of_ble_eq_true rfl) dX4_liveDots_8 ⟨(Nat.le_of_ble_eq_true rfl), (Nat.le_of_ble_eq_true rfl)⟩) hS (fun H locs hM hS => ?_)
  refine lv_aload_n hx hb dX4_liveDots_11 rfl (lv_at hl 0 rfl) ?_
  refine lv_iload_n hx hb dX4_liveDots_12 rfl (lv_at hl 3 rfl) ?_
  obtain ⟨v5, M6, h1, h⟩ := ob2 h
  obtain ⟨hk1, h1⟩ := ifg h1
  refine kV1 (ci := 2) (As := [.int a2]) (rest := []) hC hE hS hM (mt_X2_dotsOfTag _ E v1 a2 _ _ _ h1) (gwV qw_669 qw_341 qw_342 qw_41 qw_343) ⟨rfl, rfl, (Nat.le_of_ble_eq_true rfl), (Nat.le_of_ble_eq_true rfl)⟩ dd_X2_dotsOfTag rfl hk1 rfl rfl hl.1 (Nat.le_of_ble_eq_true rfl) dX4_liveDots_13 ⟨(Nat.le_of_ble_eq_true rfl), (Nat.le_of_ble_eq_true rfl)⟩ (fun H locs hM hS => ?_)
  cases h
  exact xRet (eI hx hb hr hlocks hM hS dX4_liveDots_16 (Nat.le_of_ble_eq_true rfl) (Nat.le_of_ble_eq_true rfl))

theorem dd_X4_hasTag : yX4_hasTag.cls = RX4 ∧ yX4_hasTag.cls ≠ "java/lang/invoke/MethodHandle" ∧ yX4_hasTag.cls ≠ "java/lang/invoke/VarHandle" ∧ (parseMethodDescriptor yX4_hasTag.desc).map (fun d => d.parameters.length) = some 2 := by decide +kernel
abbrev rm_X4_hasTag : Room := ({ frames := 9, cells := 2, slots := 12, locals := 155 } : Room)
noncomputable def fj_X4_hasTag_14 (s0 : Int32) (M : Mem) : Option ((Int32 ⊕ Nat) × Mem) :=
  (if s0 = 0 ∨ s0 = 1 then some (.inl s0, M) else none)
set_option maxHeartbeats 4000000 in
set_option maxRecDepth 100000 in
theorem tj_X4_hasTag_14 {p : Program} {l : Launch} {e : Env} {s : State} {m : MethodId} {args : Array Value} {below : List Frame} {meth : Method} {c : Code} {E : KEnv} {H : Heap} {locs : List Loc} {ls : Array Slot} {s0 : Int32} {M : Mem} {r : Int32 ⊕ Nat} {M' : Mem} (hfl : l.stackTraces = false) (hout : ∀ x ∈ c.exceptionTable.toList, False) (hC : CallFix p m c cX4_hasTag 3 s args lw_G RX4) (hr : meth.sig.returnType = (some .boolean)) (hlocks : meth.locks = false) (hE : EnvOK E s) (h : fj_X4_hasTag_14 s0 M = some (r, M')) (hM : MOK E M H) (hS : va_S (eA E) s.heap H locs) (hl : lv_has ls 3 []) : W p l e rm_X4_hasTag s m args below meth c H locs 2 12 (vx_MQ below (cQx E (vI r) M') (cXx E (vI r) M') args s 2 12 (eA E)) (F0 m 14 ls [.int s0]) := by
  obtain ⟨hx, hb, hml, hown, hts⟩ := id hC
  unfold fj_X4_hasTag_14 at h
  obtain ⟨h01, h⟩ := ifg h
  cases h
  exact xRet (eZ hx hb hr hlocks hM hS dX4_hasTag_14 (Nat.le_of_ble_eq_true rfl) (Nat.le_of_ble_eq_true rfl) h01)
noncomputable def f_X4_hasTag (this : Nat) (a1 : Int32) (a2 : Int32) (M : Mem) : Option ((Int32 ⊕ Nat) × Mem) :=
  bx (cK 5 this M (f_X4_liveDots this a1 a2 M)) (fun ex M => some ((.inr ex, M))) fun v1 M2 =>
  (if v1 ≤ 0 then
  fj_X4_hasTag_14 0 M2
  else
  fj_X4_hasTag_14 1 M2)
set_option maxHeartbeats 4000000 in
set_option maxRecDepth 100000 in
theorem mt_X4_hasTag (l : Launch) (hfl : l.stackTraces = false) (E : KEnv) (this : Nat) (a1 : Int32) (a2 : Int32) (M M' : Mem) (r : Int32 ⊕ Nat) (h : f_X4_hasTag this a1 a2 M = some (r, M')) : vx_Met l yX4_hasTag (Cond.code yX4_hasTag cX4_hasTag 3 (some .boolean) :: lw_G) rm_X4_hasTag (cPc E [.ref this, .int a1, .int a2] M) (cQx E (vI r) M') (cXx E (vI r) M') 2 12 (eA E) := by
  refine vx_ofW (cc := cX4_hasTag) (maxL := 3) (ret := (some .boolean)) (by decide) rfl ?_
  intro p e s m args below meth c s₁ B hml hout hv
  obtain ⟨rfl, hE, hM⟩ := hv
  have hx := B.exec
  have hb := B.bytes
  have hr := B.returns
  have hts0 := atoms_spec (ws := Cond.code yX4_hasTag cX4_hasTag 3 (some .boolean) :: lw_G) B.pre
  have hts : ∀ w ∈ lw_G, w.before _ s = true := fun w hw => hts0 w (List.mem_cons_of_mem _ hw)
  have hown : s.vm.findClass RX4 = some m.cls := findClass_of_methodNamed B.named
  have hlocks := B.notSynchronized
  have hC : CallFix p m c cX4_hasTag 3 s _ lw_G RX4 := ⟨hx, hb, hml, hown, hts⟩
  have hS : va_S (eA E) s.heap s.heap [] := va_S.rf
  have hl := lv_entry ([.ref this, .int a1, .int a2]) (n := 3) (Nat.le_of_ble_eq_true rfl)
  rw [lg_entry_eq]
  generalize (lg_sl ([.ref this, .int a1, .int a2]) ++ List.replicate (3 - (lg_sl ([.ref this, .int a1, .int a2])).length) Slot.unset).toArray = ls at hl ⊢
  have hl : lv_has ls 3 [(0, .ref this), (1, .int a1), (2, .int a2)] := hl
  unfold f_X4_hasTag at h
  show W p l e rm_X4_hasTag s m _ below meth c s.heap [] 0 0 _ _
  refine lv_aload_n hx hb dX4_hasTag_0 rfl (lv_at hl 0 rfl) ?_
  refine lv_iload_n hx hb dX4_hasTag_1 rfl (lv_at hl 1 rfl) ?_
  refine lv_iload_n hx hb dX4_hasTag_2 rfl (lv_at hl 2 rfl) ?_
  rcases obx h with ⟨v1, M2, h1, h⟩ | ⟨ex, M9, h1, h⟩
  rotate_left
  · obtain ⟨hk1, h1⟩ := ifg h1
    cases h
    exact kx_out (kx_V (ci := 4) (As := [.int a1, .int a2]) (rest := []) hC hE hS hM (mt_X4_liveDots _ hfl E this a1 a2 _ _ _ h1) (gwV qw_1067 qw_1060 qw_1061 qw_39 qw_1062) ⟨rfl, rfl, (Nat.le_of_ble_eq_true rfl), (Nat.le_of_ble_eq_true rfl)⟩ dd_X4_liveDots rfl hk1 rfl rfl hl.1 (Nat.le_of_ble_eq_true rfl) dX4_hasTag_3 ⟨(Nat.le_of_ble_eq_true rfl), (Nat.le_of_ble_eq_true rfl)⟩) hS hout hlocks (Nat.le_of_ble_eq_true rfl) (Nat.le_of_ble_eq_true rfl)
  obtain ⟨hk1, h1⟩ := ifg h1
  refine kx_ok1 (kx_V (ci := 4) (As := [.int a1, .int a2]) (rest := []) hC hE hS hM (mt_X4_liveDots _ hfl E this a1 a2 _ _ _ h1) (gwV qw_1067 qw_1060 qw_1061 qw_39 qw_1062) ⟨rfl, rfl, (Nat.le_of_ble_eq_true rfl), (Nat.le_of_ble_eq_true rfl)⟩ dd_X4_liveDots rfl hk1 rfl rfl hl.1 (Nat.le_of_ble_eq_true rfl) dX4_hasTag_3 ⟨(Nat.le_of_ble_eq_true rfl), (Nat.le_of_ble_eq_true rfl)⟩) hS (fun H locs hM hS => ?_)
  refine lv_if_le (tgt := 13) hx hb dX4_hasTag_6 (by decide) (fun c1 => ?_) (fun c1 => ?_)
  · have h := ifp c1 h
    refine lv_iconst (v := 0) hx hb dX4_hasTag_13 (by decide) ?_
    refine W.widen (k := 2) (n := 12) (Nat.le_of_ble_eq_true rfl) (Nat.le_of_ble_eq_true rfl) ?_
    exact tj_X4_hasTag_14 hfl hout  hC hr hlocks hE  h hM hS (lv_sub hl [] rfl)
  · have h := ifn c1 h
    refine lv_iconst (v := 1) hx hb dX4_hasTag_9 (by decide) ?_
    refine lv_goto (tgt := 14) hx hb dX4_hasTag_10 (by decide) ?_
    refine W.widen (k := 2) (n := 12) (Nat.le_of_ble_eq_true rfl) (Nat.le_of_ble_eq_true rfl) ?_
    exact tj_X4_hasTag_14 hfl hout  hC hr hlocks hE  h hM hS (lv_sub hl [] rfl)

theorem dd_X4_tagDot : yX4_tagDot.cls = RX4 ∧ yX4_tagDot.cls ≠ "java/lang/invoke/MethodHandle" ∧ yX4_tagDot.cls ≠ "java/lang/invoke/VarHandle" ∧ (parseMethodDescriptor yX4_tagDot.desc).map (fun d => d.parameters.length) = some 3 := by decide +kernel
abbrev rm_X4_tagDot : Room := ({ frames := 8, cells := 3, slots := 18, locals := 132 } : Room)
noncomputable def f_X4_tagDot (this : Nat) (a1 : Int32) (a2 : Int32) (a3 : Int32) (M : Mem) : Option ((Int32 ⊕ Nat) × Mem) :=
  bx (cK 5 this M (f_X4_stateOf this a1 M)) (fun ex M => some ((.inr ex, M))) fun v1 M2 =>
  bx (cK 5 this M2 (f_X4_requireTag this a2 M2)) (fun ex M => some ((.inr ex, M))) fun v3 M4 =>
  bx (cK 5 this M4 (f_X4_requireReplica this a3 M4)) (fun ex M => some ((.inr ex, M))) fun v5 M6 =>
  bn (cK 3 v1 M6 (f_X2_dotOfTag v1 a2 a3 M6)) fun v7 M8 =>
  some (.inl v7, M8)
set_option maxHeartbeats 4000000 in
set_option maxRecDepth 100000 in
theorem mt_X4_tagDot (l : Launch) (hfl : l.stackTraces = false) (E : KEnv) (this : Nat) (a1 : Int32) (a2 : Int32) (a3 : Int32) (M M' : Mem) (r : Int32 ⊕ Nat) (h : f_X4_tagDot this a1 a2 a3 M = some (r, M')) : vx_Met l yX4_tagDot (Cond.code yX4_tagDot cX4_tagDot 5 (some .int) :: lw_G) rm_X4_tagDot (cPc E [.ref this, .int a1, .int a2, .int a3] M) (cQx E (vI r) M') (cXx E (vI r) M') 3 18 (eA E) := by
  refine vx_ofW (cc := cX4_tagDot) (maxL := 5) (ret := (some .int)) (by decide) rfl ?_
  intro p e s m args below meth c s₁ B hml hout hv
  obtain ⟨rfl, hE, hM⟩ := hv
  have hx := B.exec
  have hb := B.bytes
  have hr := B.returns
  have hts0 := atoms_spec (ws := Cond.code yX4_tagDot cX4_tagDot 5 (some .int) :: lw_G) B.pre
  have hts : ∀ w ∈ lw_G, w.before _ s = true := fun w hw => hts0 w (List.mem_cons_of_mem _ hw)
  have hown : s.vm.findClass RX4 = some m.cls := findClass_of_methodNamed B.named
  have hlocks := B.notSynchronized
  have hC : CallFix p m c cX4_tagDot 5 s _ lw_G RX4 := ⟨hx, hb, hml, hown, hts⟩
  have hS : va_S (eA E) s.heap s.heap [] := va_S.rf
  have hl := lv_entry ([.ref this, .int a1, .int a2, .int a3]) (n := 5) (Nat.le_of_ble_eq_true rfl)
  rw [lg_entry_eq]
  generalize (lg_sl ([.ref this, .int a1, .int a2, .int a3]) ++ List.replicate (5 - (lg_sl ([.ref this, .int a1, .int a2, .int a3])).length) Slot.unset).toArray = ls at hl ⊢
  have hl : lv_has ls 5 [(0, .ref this), (1, .int a1), (2, .int a2), (3, .int a3)] := hl
  unfold f_X4_tagDot at h
  show W p l e rm_X4_tagDot s m _ below meth c s.heap [] 0 0 _ _
  refine lv_aload_n hx hb dX4_tagDot_0 rfl (lv_at hl 0 rfl) ?_
  refine lv_iload_n hx hb dX4_tagDot_1 rfl (lv_at hl 1 rfl) ?_
  rcases obx h with ⟨v1, M2, h1, h⟩ | ⟨ex, M9, h1, h⟩
  rotate_left
  · obtain ⟨hk1, h1⟩ := ifg h1
    cases h
    exact kx_out (kx_V (ci := 4) (As := [.int a1]) (rest := []) hC hE hS hM (mt_X4_stateOf _ hfl E this a1 _ _ _ h1) (gwV qw_619 qw_621 qw_25 qw_39 qw_622) ⟨rfl, rfl, (Nat.le_of_ble_eq_true rfl), (Nat.le_of_ble_eq_true rfl)⟩ dd_X4_stateOf rfl hk1 rfl rfl hl.1 (Nat.le_of_ble_eq_true rfl) dX4_tagDot_2 ⟨(Nat.le_of_ble_eq_true rfl), (Nat.le_of_ble_eq_true rfl)⟩) hS hout hlocks (Nat.le_of_ble_eq_true rfl) (Nat.le_of_ble_eq_true rfl)
  obtain ⟨hk1, h1⟩ := ifg h1
  refine kx_ok1 (kx_V (ci := 4) (As := [.int a1]) (rest := []) hC hE hS hM (mt_X4_stateOf _ hfl E this a1 _ _ _ h1) (gwV qw_619 qw_621 qw_25 qw_39 qw_622) ⟨rfl, rfl, (Nat.le_of_ble_eq_true rfl), (Nat.le_of_ble_eq_true rfl)⟩ dd_X4_stateOf rfl hk1 rfl rfl hl.1 (Nat.le_of_ble_eq_true rfl) dX4_tagDot_2 ⟨(Nat.le_of_ble_eq_true rfl), (Nat.le_of_ble_eq_true rfl)⟩) hS (fun H locs hM hS => ?_)
  refine lv_astore (lv' := [(4, .ref v1), (0, .ref this), (1, .int a1), (2, .int a2), (3, .int a3)]) hx hb dX4_tagDot_5 hl (by decide) rfl (fun ls hl => ?_)
  refine lv_aload_n hx hb dX4_tagDot_7 rfl (lv_at hl 1 rfl) ?_
  refine lv_iload_n hx hb dX4_tagDot_8 rfl (lv_at hl 3 rfl) ?_
  rcases obx h with ⟨v3, M4, h1, h⟩ | ⟨ex, M9, h1, h⟩
  rotate_left
  · obtain ⟨hk1, h1⟩ := ifg h1
    cases h
    exact kx_out (kx_V (ci := 4) (As := [.int a2]) (rest := []) hC hE hS hM (mt_X4_requireTag _ hfl E this a2 _ _ _ h1) (gwV qw_652 qw_654 qw_28 qw_39 qw_655) ⟨rfl, rfl, (Nat.le_of_ble_eq_true rfl), (Nat.le_of_ble_eq_true rfl)⟩ dd_X4_requireTag rfl hk1 rfl rfl hl.1 (Nat.le_of_ble_eq_true rfl) dX4_tagDot_9 ⟨(Nat.le_of_ble_eq_true rfl), (Nat.le_of_ble_eq_true rfl)⟩) hS hout hlocks (Nat.le_of_ble_eq_true rfl) (Nat.le_of_ble_eq_true rfl)
  obtain ⟨hk1, h1⟩ := ifg h1
  refine kx_ok0 (kx_V (ci := 4) (As := [.int a2]) (rest := []) hC hE hS hM (mt_X4_requireTag _ hfl E this a2 _ _ _ h1) (gwV qw_652 qw_654 qw_28 qw_39 qw_655) ⟨rfl, rfl, (Nat.le_of_ble_eq_true rfl), (Nat.le_of_ble_eq_true rfl)⟩ dd_X4_requireTag rfl hk1 rfl rfl hl.1 (Nat.le_of_ble_eq_true rfl) dX4_tagDot_9 ⟨(Nat.le_of_ble_eq_true rfl), (Nat.le_of_ble_eq_true rfl)⟩) hS (fun H locs hM hS => ?_)
  refine lv_aload_n hx hb dX4_tagDot_12 rfl (lv_at hl 1 rfl) ?_
  refine lv_iload_n hx hb dX4_tagDot_13 rfl (lv_at hl 4 rfl) ?_
  rcases obx h with ⟨v5, M6, h1, h⟩ | ⟨ex, M9, h1, h⟩
  rotate_left
  · obtain ⟨hk1, h1⟩ := ifg h1
    cases h
    exact kx_out (kx_V (ci := 4) (As := [.int a3]) (rest := []) hC hE hS hM (mt_X4_requireReplica _ hfl E this a3 _ _ _ h1) (gwV qw_623 qw_625 qw_26 qw_39 qw_626) ⟨rfl, rfl, (Nat.le_of_ble_eq_true rfl), (Nat.le_of_ble_eq_true rfl)⟩ dd_X4_requireReplica rfl hk1 rfl rfl hl.1 (Nat.le_of_ble_eq_true rfl) dX4_tagDot_14 ⟨(Nat.le_of_ble_eq_true rfl), (Nat.le_of_ble_eq_true rfl)⟩) hS hout hlocks (Nat.le_of_ble_eq_true rfl) (Nat.le_of_ble_eq_true rfl)
  obtain ⟨hk1, h1⟩ := ifg h1
  refine kx_ok0 (kx_V (ci := 4) (As := [.int a3]) (rest := []) hC hE hS hM (mt_X4_requireReplica _ hfl E this a3 _ _ _ h1) (gwV qw_623 qw_625 qw_26 qw_39 qw_626) ⟨rfl, rfl, (Nat.le_of_ble_eq_true rfl), (Nat.le_of_ble_eq_true rfl)⟩ dd_X4_requireReplica rfl hk1 rfl rfl hl.1 (Nat.le_of_ble_eq_true rfl) dX4_tagDot_14 ⟨(Nat.le_of_ble_eq_true rfl), (Nat.le_of_ble_eq_true rfl)⟩) hS (fun H locs hM hS => ?_)
  refine lv_aload hx hb dX4_tagDot_17 (lv_at hl 0 rfl) ?_
  refine lv_iload_n hx hb dX4_tagDot_19 rfl (lv_at hl 3 rfl) ?_
  refine lv_iload_n hx hb dX4_tagDot_20 rfl (lv_at hl 4 rfl) ?_
  obtain ⟨v7, M8, h1, h⟩ := ob2 h
  obtain ⟨hk1, h1⟩ := ifg h1
  refine kV1 (ci := 2) (As := [.int a2, .int a3]) (rest := []) hC hE hS hM (mt_X2_dotOfTag _ E v1 a2 a3 _ _ _ h1) (gwV qw_1019 qw_1020 qw_1021 qw_41 qw_1022) ⟨rfl, rfl, (Nat.le_of_ble_eq_true rfl), (Nat.le_of_ble_eq_true rfl)⟩ dd_X2_dotOfTag rfl hk1 rfl rfl hl.1 (Nat.le_of_ble_eq_true rfl) dX4_tagDot_21 ⟨(Nat.le_of_ble_eq_true rfl), (Nat.le_of_ble_eq_true rfl)⟩ (fun H locs hM hS => ?_)
  cases h
  exact xRet (eI hx hb hr hlocks hM hS dX4_tagDot_24 (Nat.le_of_ble_eq_true rfl) (Nat.le_of_ble_eq_true rfl))

theorem dd_X4_tagCount : yX4_tagCount.cls = RX4 ∧ yX4_tagCount.cls ≠ "java/lang/invoke/MethodHandle" ∧ yX4_tagCount.cls ≠ "java/lang/invoke/VarHandle" ∧ (parseMethodDescriptor yX4_tagCount.desc).map (fun d => d.parameters.length) = some 1 := by decide +kernel
abbrev rm_X4_tagCount : Room := ({ frames := 8, cells := 1, slots := 6, locals := 132 } : Room)
noncomputable def f_X4_tagCount (this : Nat) (a1 : Int32) (M : Mem) : Option ((Int32 ⊕ Nat) × Mem) :=
  bx (cK 5 this M (f_X4_stateOf this a1 M)) (fun ex M => some ((.inr ex, M))) fun v1 M2 =>
  bn (cK 3 v1 M2 (f_X2_presentTags v1 M2)) fun v3 M4 =>
  some (.inl v3, M4)
set_option maxHeartbeats 4000000 in
set_option maxRecDepth 100000 in
theorem mt_X4_tagCount (l : Launch) (hfl : l.stackTraces = false) (E : KEnv) (this : Nat) (a1 : Int32) (M M' : Mem) (r : Int32 ⊕ Nat) (h : f_X4_tagCount this a1 M = some (r, M')) : vx_Met l yX4_tagCount (Cond.code yX4_tagCount cX4_tagCount 2 (some .int) :: lw_G) rm_X4_tagCount (cPc E [.ref this, .int a1] M) (cQx E (vI r) M') (cXx E (vI r) M') 1 6 (eA E) := by
  refine vx_ofW (cc := cX4_tagCount) (maxL := 2) (ret := (some .int)) (by decide) rfl ?_
  intro p e s m args below meth c s₁ B hml hout hv
  obtain ⟨rfl, hE, hM⟩ := hv
  have hx := B.exec
  have hb := B.bytes
  have hr := B.returns
  have hts0 := atoms_spec (ws := Cond.code yX4_tagCount cX4_tagCount 2 (some .int) :: lw_G) B.pre
  have hts : ∀ w ∈ lw_G, w.before _ s = true := fun w hw => hts0 w (List.mem_cons_of_mem _ hw)
  have hown : s.vm.findClass RX4 = some m.cls := findClass_of_methodNamed B.named
  have hlocks := B.notSynchronized
  have hC : CallFix p m c cX4_tagCount 2 s _ lw_G RX4 := ⟨hx, hb, hml, hown, hts⟩
  have hS : va_S (eA E) s.heap s.heap [] := va_S.rf
  have hl := lv_entry ([.ref this, .int a1]) (n := 2) (Nat.le_of_ble_eq_true rfl)
  rw [lg_entry_eq]
  generalize (lg_sl ([.ref this, .int a1]) ++ List.replicate (2 - (lg_sl ([.ref this, .int a1])).length) Slot.unset).toArray = ls at hl ⊢
  have hl : lv_has ls 2 [(0, .ref this), (1, .int a1)] := hl
  unfold f_X4_tagCount at h
  show W p l e rm_X4_tagCount s m _ below meth c s.heap [] 0 0 _ _
  refine lv_aload_n hx hb dX4_tagCount_0 rfl (lv_at hl 0 rfl) ?_
  refine lv_iload_n hx hb dX4_tagCount_1 rfl (lv_at hl 1 rfl) ?_
  rcases obx h with ⟨v1, M2, h1, h⟩ | ⟨ex, M9, h1, h⟩
  rotate_left
  · obtain ⟨hk1, h1⟩ := ifg h1
    cases h
    exact kx_out (kx_V (ci := 4) (As := [.int a1]) (rest := []) hC hE hS hM (mt_X4_stateOf _ hfl E this a1 _ _ _ h1) (gwV qw_619 qw_621 qw_25 qw_39 qw_622) ⟨rfl, rfl, (Nat.le_of_ble_eq_true rfl), (Nat.le_of_ble_eq_true rfl)⟩ dd_X4_stateOf rfl hk1 rfl rfl hl.1 (Nat.le_of_ble_eq_true rfl) dX4_tagCount_2 ⟨(Nat.le_of_ble_eq_true rfl), (Nat.le_of_ble_eq_true rfl)⟩) hS hout hlocks (Nat.le_of_ble_eq_true rfl) (Nat.le_of_ble_eq_true rfl)
  obtain ⟨hk1, h1⟩ := ifg h1
  refine kx_ok1 (kx_V (ci := 4) (As := [.int a1]) (rest := []) hC hE hS hM (mt_X4_stateOf _ hfl E this a1 _ _ _ h1) (gwV qw_619 qw_621 qw_25 qw_39 qw_622) ⟨rfl, rfl, (Nat.le_of_ble_eq_true rfl), (Nat.le_of_ble_eq_true rfl)⟩ dd_X4_stateOf rfl hk1 rfl rfl hl.1 (Nat.le_of_ble_eq_true rfl) dX4_tagCount_2 ⟨(Nat.le_of_ble_eq_true rfl), (Nat.le_of_ble_eq_true rfl)⟩) hS (fun H locs hM hS => ?_)
  obtain ⟨v3, M4, h1, h⟩ := ob2 h
  obtain ⟨hk1, h1⟩ := ifg h1
  refine kV1 (ci := 2) (As := []) (rest := []) hC hE hS hM (mt_X2_presentTags _ E v1 _ _ _ h1) (gwV qw_1094 qw_1095 qw_1096 qw_41 qw_1097) ⟨rfl, rfl, (Nat.le_of_ble_eq_true rfl), (Nat.le_of_ble_eq_true rfl)⟩ dd_X2_presentTags rfl hk1 rfl rfl hl.1 (Nat.le_of_ble_eq_true rfl) dX4_tagCount_5 ⟨(Nat.le_of_ble_eq_true rfl), (Nat.le_of_ble_eq_true rfl)⟩ (fun H locs hM hS => ?_)
  cases h
  exact xRet (eI hx hb hr hlocks hM hS dX4_tagCount_8 (Nat.le_of_ble_eq_true rfl) (Nat.le_of_ble_eq_true rfl))

theorem dd_X4_tagAt : yX4_tagAt.cls = RX4 ∧ yX4_tagAt.cls ≠ "java/lang/invoke/MethodHandle" ∧ yX4_tagAt.cls ≠ "java/lang/invoke/VarHandle" ∧ (parseMethodDescriptor yX4_tagAt.desc).map (fun d => d.parameters.length) = some 2 := by decide +kernel
abbrev rm_X4_tagAt : Room := ({ frames := 8, cells := 2, slots := 12, locals := 132 } : Room)
noncomputable def f_X4_tagAt (this : Nat) (a1 : Int32) (a2 : Int32) (M : Mem) : Option ((Int32 ⊕ Nat) × Mem) :=
  bx (cK 5 this M (f_X4_stateOf this a1 M)) (fun ex M => some ((.inr ex, M))) fun v1 M2 =>
  bn (cK 3 v1 M2 (f_X2_presentTag v1 a2 M2)) fun v3 M4 =>
  (if v3 = (-1) then
  some (.inr 0, M4)
  else
  some (.inl v3, M4))
set_option maxHeartbeats 4000000 in
set_option maxRecDepth 100000 in
theorem mt_X4_tagAt (l : Launch) (hfl : l.stackTraces = false) (E : KEnv) (this : Nat) (a1 : Int32) (a2 : Int32) (M M' : Mem) (r : Int32 ⊕ Nat) (h : f_X4_tagAt this a1 a2 M = some (r, M')) : vx_Met l yX4_tagAt (Cond.code yX4_tagAt cX4_tagAt 4 (some .int) :: lw_G) rm_X4_tagAt (cPc E [.ref this, .int a1, .int a2] M) (cQx E (vI r) M') (cXx E (vI r) M') 2 12 (eA E) := by
  refine vx_ofW (cc := cX4_tagAt) (maxL := 4) (ret := (some .int)) (by decide) rfl ?_
  intro p e s m args below meth c s₁ B hml hout hv
  obtain ⟨rfl, hE, hM⟩ := hv
  have hx := B.exec
  have hb := B.bytes
  have hr := B.returns
  have hts0 := atoms_spec (ws := Cond.code yX4_tagAt cX4_tagAt 4 (some .int) :: lw_G) B.pre
  have hts : ∀ w ∈ lw_G, w.before _ s = true := fun w hw => hts0 w (List.mem_cons_of_mem _ hw)
  have hown : s.vm.findClass RX4 = some m.cls := findClass_of_methodNamed B.named
  have hlocks := B.notSynchronized
  have hC : CallFix p m c cX4_tagAt 4 s _ lw_G RX4 := ⟨hx, hb, hml, hown, hts⟩
  have hS : va_S (eA E) s.heap s.heap [] := va_S.rf
  have hl := lv_entry ([.ref this, .int a1, .int a2]) (n := 4) (Nat.le_of_ble_eq_true rfl)
  rw [lg_entry_eq]
  generalize (lg_sl ([.ref this, .int a1, .int a2]) ++ List.replicate (4 - (lg_sl ([.ref this, .int a1, .int a2])).length) Slot.unset).toArray = ls at hl ⊢
  have hl : lv_has ls 4 [(0, .ref this), (1, .int a1), (2, .int a2)] := hl
  unfold f_X4_tagAt at h
  show W p l e rm_X4_tagAt s m _ below meth c s.heap [] 0 0 _ _
  refine lv_aload_n hx hb dX4_tagAt_0 rfl (lv_at hl 0 rfl) ?_
  refine lv_iload_n hx hb dX4_tagAt_1 rfl (lv_at hl 1 rfl) ?_
  rcases obx h with ⟨v1, M2, h1, h⟩ | ⟨ex, M9, h1, h⟩
  rotate_left
  · obtain ⟨hk1, h1⟩ := ifg h1
    cases h
    exact kx_out (kx_V (ci := 4) (As := [.int a1]) (rest := []) hC hE hS hM (mt_X4_stateOf _ hfl E this a1 _ _ _ h1) (gwV qw_619 qw_621 qw_25 qw_39 qw_622) ⟨rfl, rfl, (Nat.le_of_ble_eq_true rfl), (Nat.le_of_ble_eq_true rfl)⟩ dd_X4_stateOf rfl hk1 rfl rfl hl.1 (Nat.le_of_ble_eq_true rfl) dX4_tagAt_2 ⟨(Nat.le_of_ble_eq_true rfl), (Nat.le_of_ble_eq_true rfl)⟩) hS hout hlocks (Nat.le_of_ble_eq_true rfl) (Nat.le_of_ble_eq_true rfl)
  obtain ⟨hk1, h1⟩ := ifg h1
  refine kx_ok1 (kx_V (ci := 4) (As := [.int a1]) (rest := []) hC hE hS hM (mt_X4_stateOf _ hfl E this a1 _ _ _ h1) (gwV qw_619 qw_621 qw_25 qw_39 qw_622) ⟨rfl, rfl, (Nat.le_of_ble_eq_true rfl), (Nat.le_of_ble_eq_true rfl)⟩ dd_X4_stateOf rfl hk1 rfl rfl hl.1 (Nat.le_of_ble_eq_true rfl) dX4_tagAt_2 ⟨(Nat.le_of_ble_eq_true rfl), (Nat.le_of_ble_eq_true rfl)⟩) hS (fun H locs hM hS => ?_)
  refine lv_iload_n hx hb dX4_tagAt_5 rfl (lv_at hl 2 rfl) ?_
  obtain ⟨v3, M4, h1, h⟩ := ob2 h
  obtain ⟨hk1, h1⟩ := ifg h1
  refine kV1 (ci := 2) (As := [.int a2]) (rest := []) hC hE hS hM (mt_X2_presentTag _ E v1 a2 _ _ _ h1) (gwV qw_1075 qw_1076 qw_1077 qw_41 qw_1078) ⟨rfl, rfl, (Nat.le_of_ble_eq_true rfl), (Nat.le_of_ble_eq_true rfl)⟩ dd_X2_presentTag rfl hk1 rfl rfl hl.1 (Nat.le_of_ble_eq_true rfl) dX4_tagAt_6 ⟨(Nat.le_of_ble_eq_true rfl), (Nat.le_of_ble_eq_true rfl)⟩ (fun H locs hM hS => ?_)
  refine lv_istore_n (lv' := [(3, .int v3), (0, .ref this), (1, .int a1), (2, .int a2)]) hx hb dX4_tagAt_9 rfl hl (by decide) rfl (fun ls hl => ?_)
  refine lv_iload_n hx hb dX4_tagAt_10 rfl (lv_at hl 0 rfl) ?_
  refine lv_iconst (v := (-1)) hx hb dX4_tagAt_11 (by decide) ?_
  refine lv_icmp_ne (tgt := 25) hx hb dX4_tagAt_12 (by decide) (fun c1 => ?_) (fun c1 => ?_)
  · have h := ifn c1 h
    refine lv_iload_n hx hb dX4_tagAt_25 rfl (lv_at hl 0 rfl) ?_
    cases h
    exact xRet (eI hx hb hr hlocks hM hS dX4_tagAt_26 (Nat.le_of_ble_eq_true rfl) (Nat.le_of_ble_eq_true rfl))
  · have h := ifp c1 h
    cases h
    exact xThr (i := 23) hfl hx hb hown hts hE hM hS (by decide) qw_443 qw_60 st_23 (ex_at hts hE ex_g0 ex_b0 (by decide)) (by decide +kernel) (hl.1.trans hml.symm) dX4_tagAt_15 dX4_tagAt_18 dX4_tagAt_19 dX4_tagAt_21 dX4_tagAt_24 hout (Nat.le_of_ble_eq_true rfl) (Nat.le_of_ble_eq_true rfl) (Nat.le_of_ble_eq_true rfl) (Nat.le_of_ble_eq_true rfl) hlocks (Nat.le_of_ble_eq_true rfl) (Nat.le_of_ble_eq_true rfl)

theorem dd_X4_requireRegister : yX4_requireRegister.cls = RX4 ∧ yX4_requireRegister.cls ≠ "java/lang/invoke/MethodHandle" ∧ yX4_requireRegister.cls ≠ "java/lang/invoke/VarHandle" ∧ (parseMethodDescriptor yX4_requireRegister.desc).map (fun d => d.parameters.length) = some 1 := by decide +kernel
abbrev rm_X4_requireRegister : Room := ({ frames := 6, cells := 1, slots := 6, locals := 90 } : Room)
noncomputable def fj_X4_requireRegister_15  (M : Mem) : Option ((Unit ⊕ Nat) × Mem) :=
  some (.inr 0, M)
set_option maxHeartbeats 4000000 in
set_option maxRecDepth 100000 in
theorem tj_X4_requireRegister_15 {p : Program} {l : Launch} {e : Env} {s : State} {m : MethodId} {args : Array Value} {below : List Frame} {meth : Method} {c : Code} {E : KEnv} {H : Heap} {locs : List Loc} {ls : Array Slot}  {M : Mem} {r : Unit ⊕ Nat} {M' : Mem} (hfl : l.stackTraces = false) (hout : ∀ x ∈ c.exceptionTable.toList, False) (hC : CallFix p m c cX4_requireRegister 2 s args lw_G RX4) (hr : meth.sig.returnType = none) (hlocks : meth.locks = false) (hE : EnvOK E s) (h : fj_X4_requireRegister_15  M = some (r, M')) (hM : MOK E M H) (hS : va_S (eA E) s.heap H locs) (hl : lv_has ls 2 []) : W p l e rm_X4_requireRegister s m args below meth c H locs 0 0 (vx_MQ below (cQx E (vU r) M') (cXx E (vU r) M') args s 1 6 (eA E)) (F0 m 15 ls []) := by
  obtain ⟨hx, hb, hml, hown, hts⟩ := id hC
  unfold fj_X4_requireRegister_15 at h
  cases h
  exact xThrW (i := 24) hfl hx hb hown hts hE hM hS (by decide) qw_443 qw_60 st_24 (ex_at hts hE ex_g0 ex_b0 (by decide)) (by decide +kernel) (hl.1.trans hml.symm) dX4_requireRegister_15 dX4_requireRegister_18 dX4_requireRegister_19 dX4_requireRegister_22 dX4_requireRegister_25 hout (Nat.le_of_ble_eq_true rfl) (Nat.le_of_ble_eq_true rfl) (Nat.le_of_ble_eq_true rfl) (Nat.le_of_ble_eq_true rfl) hlocks (Nat.le_of_ble_eq_true rfl) (Nat.le_of_ble_eq_true rfl)
noncomputable def f_X4_requireRegister (this : Nat) (a1 : Int32) (M : Mem) : Option ((Unit ⊕ Nat) × Mem) :=
  (if a1 < 0 then
  fj_X4_requireRegister_15 M
  else
  (gRn 5 134 this M).bind fun v1 =>
  (gI 4 98 v1 M).bind fun v2 =>
  (if a1 < v2 then
  some (.inl (), M)
  else
  fj_X4_requireRegister_15 M))
set_option maxHeartbeats 4000000 in
set_option maxRecDepth 100000 in
theorem mt_X4_requireRegister (l : Launch) (hfl : l.stackTraces = false) (E : KEnv) (this : Nat) (a1 : Int32) (M M' : Mem) (r : Unit ⊕ Nat) (h : f_X4_requireRegister this a1 M = some (r, M')) : vx_Met l yX4_requireRegister (Cond.code yX4_requireRegister cX4_requireRegister 2 none :: lw_G) rm_X4_requireRegister (cPc E [.ref this, .int a1] M) (cQx E (vU r) M') (cXx E (vU r) M') 1 6 (eA E) := by
  refine vx_ofW (cc := cX4_requireRegister) (maxL := 2) (ret := none) (by decide) rfl ?_
  intro p e s m args below meth c s₁ B hml hout hv
  obtain ⟨rfl, hE, hM⟩ := hv
  have hx := B.exec
  have hb := B.bytes
  have hr := B.returns
  have hts0 := atoms_spec (ws := Cond.code yX4_requireRegister cX4_requireRegister 2 none :: lw_G) B.pre
  have hts : ∀ w ∈ lw_G, w.before _ s = true := fun w hw => hts0 w (List.mem_cons_of_mem _ hw)
  have hown : s.vm.findClass RX4 = some m.cls := findClass_of_methodNamed B.named
  have hlocks := B.notSynchronized
  have hC : CallFix p m c cX4_requireRegister 2 s _ lw_G RX4 := ⟨hx, hb, hml, hown, hts⟩
  have hS : va_S (eA E) s.heap s.heap [] := va_S.rf
  have hl := lv_entry ([.ref this, .int a1]) (n := 2) (Nat.le_of_ble_eq_true rfl)
  rw [lg_entry_eq]
  generalize (lg_sl ([.ref this, .int a1]) ++ List.replicate (2 - (lg_sl ([.ref this, .int a1])).length) Slot.unset).toArray = ls at hl ⊢
  have hl : lv_has ls 2 [(0, .ref this), (1, .int a1)] := hl
  unfold f_X4_requireRegister at h
  show W p l e rm_X4_requireRegister s m _ below meth c s.heap [] 0 0 _ _
  refine lv_iload_n hx hb dX4_requireRegister_0 rfl (lv_at hl 1 rfl) ?_
  refine lv_if_lt (tgt := 15) hx hb dX4_requireRegister_1 (by decide) (fun c1 => ?_) (fun c1 => ?_)
  · have h := ifp c1 h
    refine W.widen (k := 0) (n := 0) (Nat.le_of_ble_eq_true rfl) (Nat.le_of_ble_eq_true rfl) ?_
    exact tj_X4_requireRegister_15 hfl hout  hC hr hlocks hE  h hM hS (lv_sub hl [] rfl)
  · have h := ifn c1 h
    refine lv_iload_n hx hb dX4_requireRegister_4 rfl (lv_at hl 1 rfl) ?_
    refine lv_aload_n hx hb dX4_requireRegister_5 rfl (lv_at hl 0 rfl) ?_
    obtain ⟨v1, h1, h⟩ := ob h
    refine rgn_4_6 hx hb hts hown hE hM qw_404 h1 dX4_requireRegister_6 ?_
    obtain ⟨v2, h1, h⟩ := ob h
    refine rg_3_2 hx hb hts hown hE hM qw_95 h1 dX4_requireRegister_9 ?_
    refine lv_icmp_lt (tgt := 26) hx hb dX4_requireRegister_12 (by decide) (fun c1 => ?_) (fun c1 => ?_)
    · have h := ifp c1 h
      cases h
      exact xRet (eV_ hx hb hr hlocks hM hS dX4_requireRegister_26 (Nat.le_of_ble_eq_true rfl) (Nat.le_of_ble_eq_true rfl))
    · have h := ifn c1 h
      refine W.widen (k := 0) (n := 0) (Nat.le_of_ble_eq_true rfl) (Nat.le_of_ble_eq_true rfl) ?_
      exact tj_X4_requireRegister_15 hfl hout  hC hr hlocks hE  h hM hS (lv_sub hl [] rfl)

theorem dd_X4_entryCount : yX4_entryCount.cls = RX4 ∧ yX4_entryCount.cls ≠ "java/lang/invoke/MethodHandle" ∧ yX4_entryCount.cls ≠ "java/lang/invoke/VarHandle" ∧ (parseMethodDescriptor yX4_entryCount.desc).map (fun d => d.parameters.length) = some 2 := by decide +kernel
abbrev rm_X4_entryCount : Room := ({ frames := 8, cells := 2, slots := 12, locals := 132 } : Room)
noncomputable def f_X4_entryCount (this : Nat) (a1 : Int32) (a2 : Int32) (M : Mem) : Option ((Int32 ⊕ Nat) × Mem) :=
  bx (cK 5 this M (f_X4_stateOf this a1 M)) (fun ex M => some ((.inr ex, M))) fun v1 M2 =>
  bx (cK 5 this M2 (f_X4_requireRegister this a2 M2)) (fun ex M => some ((.inr ex, M))) fun v3 M4 =>
  bn (cK 3 v1 M4 (f_X2_entries v1 a2 M4)) fun v5 M6 =>
  some (.inl v5, M6)
set_option maxHeartbeats 4000000 in
set_option maxRecDepth 100000 in
theorem mt_X4_entryCount (l : Launch) (hfl : l.stackTraces = false) (E : KEnv) (this : Nat) (a1 : Int32) (a2 : Int32) (M M' : Mem) (r : Int32 ⊕ Nat) (h : f_X4_entryCount this a1 a2 M = some (r, M')) : vx_Met l yX4_entryCount (Cond.code yX4_entryCount cX4_entryCount 4 (some .int) :: lw_G) rm_X4_entryCount (cPc E [.ref this, .int a1, .int a2] M) (cQx E (vI r) M') (cXx E (vI r) M') 2 12 (eA E) := by
  refine vx_ofW (cc := cX4_entryCount) (maxL := 4) (ret := (some .int)) (by decide) rfl ?_
  intro p e s m args below meth c s₁ B hml hout hv
  obtain ⟨rfl, hE, hM⟩ := hv
  have hx := B.exec
  have hb := B.bytes
  have hr := B.returns
  have hts0 := atoms_spec (ws := Cond.code yX4_entryCount cX4_entryCount 4 (some .int) :: lw_G) B.pre
  have hts : ∀ w ∈ lw_G, w.before _ s = true := fun w hw => hts0 w (List.mem_cons_of_mem _ hw)
  have hown : s.vm.findClass RX4 = some m.cls := findClass_of_methodNamed B.named
  have hlocks := B.notSynchronized
  have hC : CallFix p m c cX4_entryCount 4 s _ lw_G RX4 := ⟨hx, hb, hml, hown, hts⟩
  have hS : va_S (eA E) s.heap s.heap [] := va_S.rf
  have hl := lv_entry ([.ref this, .int a1, .int a2]) (n := 4) (Nat.le_of_ble_eq_true rfl)
  rw [lg_entry_eq]
  generalize (lg_sl ([.ref this, .int a1, .int a2]) ++ List.replicate (4 - (lg_sl ([.ref this, .int a1, .int a2])).length) Slot.unset).toArray = ls at hl ⊢
  have hl : lv_has ls 4 [(0, .ref this), (1, .int a1), (2, .int a2)] := hl
  unfold f_X4_entryCount at h
  show W p l e rm_X4_entryCount s m _ below meth c s.heap [] 0 0 _ _
  refine lv_aload_n hx hb dX4_entryCount_0 rfl (lv_at hl 0 rfl) ?_
  refine lv_iload_n hx hb dX4_entryCount_1 rfl (lv_at hl 1 rfl) ?_
  rcases obx h with ⟨v1, M2, h1, h⟩ | ⟨ex, M9, h1, h⟩
  rotate_left
  · obtain ⟨hk1, h1⟩ := ifg h1
    cases h
    exact kx_out (kx_V (ci := 4) (As := [.int a1]) (rest := []) hC hE hS hM (mt_X4_stateOf _ hfl E this a1 _ _ _ h1) (gwV qw_619 qw_621 qw_25 qw_39 qw_622) ⟨rfl, rfl, (Nat.le_of_ble_eq_true rfl), (Nat.le_of_ble_eq_true rfl)⟩ dd_X4_stateOf rfl hk1 rfl rfl hl.1 (Nat.le_of_ble_eq_true rfl) dX4_entryCount_2 ⟨(Nat.le_of_ble_eq_true rfl), (Nat.le_of_ble_eq_true rfl)⟩) hS hout hlocks (Nat.le_of_ble_eq_true rfl) (Nat.le_of_ble_eq_true rfl)
  obtain ⟨hk1, h1⟩ := ifg h1
  refine kx_ok1 (kx_V (ci := 4) (As := [.int a1]) (rest := []) hC hE hS hM (mt_X4_stateOf _ hfl E this a1 _ _ _ h1) (gwV qw_619 qw_621 qw_25 qw_39 qw_622) ⟨rfl, rfl, (Nat.le_of_ble_eq_true rfl), (Nat.le_of_ble_eq_true rfl)⟩ dd_X4_stateOf rfl hk1 rfl rfl hl.1 (Nat.le_of_ble_eq_true rfl) dX4_entryCount_2 ⟨(Nat.le_of_ble_eq_true rfl), (Nat.le_of_ble_eq_true rfl)⟩) hS (fun H locs hM hS => ?_)
  refine lv_astore_n (lv' := [(3, .ref v1), (0, .ref this), (1, .int a1), (2, .int a2)]) hx hb dX4_entryCount_5 rfl hl (by decide) rfl (fun ls hl => ?_)
  refine lv_aload_n hx hb dX4_entryCount_6 rfl (lv_at hl 1 rfl) ?_
  refine lv_iload_n hx hb dX4_entryCount_7 rfl (lv_at hl 3 rfl) ?_
  rcases obx h with ⟨v3, M4, h1, h⟩ | ⟨ex, M9, h1, h⟩
  rotate_left
  · obtain ⟨hk1, h1⟩ := ifg h1
    cases h
    exact kx_out (kx_V (ci := 4) (As := [.int a2]) (rest := []) hC hE hS hM (mt_X4_requireRegister _ hfl E this a2 _ _ _ h1) (gwV qw_679 qw_681 qw_29 qw_39 qw_682) ⟨rfl, rfl, (Nat.le_of_ble_eq_true rfl), (Nat.le_of_ble_eq_true rfl)⟩ dd_X4_requireRegister rfl hk1 rfl rfl hl.1 (Nat.le_of_ble_eq_true rfl) dX4_entryCount_8 ⟨(Nat.le_of_ble_eq_true rfl), (Nat.le_of_ble_eq_true rfl)⟩) hS hout hlocks (Nat.le_of_ble_eq_true rfl) (Nat.le_of_ble_eq_true rfl)
  obtain ⟨hk1, h1⟩ := ifg h1
  refine kx_ok0 (kx_V (ci := 4) (As := [.int a2]) (rest := []) hC hE hS hM (mt_X4_requireRegister _ hfl E this a2 _ _ _ h1) (gwV qw_679 qw_681 qw_29 qw_39 qw_682) ⟨rfl, rfl, (Nat.le_of_ble_eq_true rfl), (Nat.le_of_ble_eq_true rfl)⟩ dd_X4_requireRegister rfl hk1 rfl rfl hl.1 (Nat.le_of_ble_eq_true rfl) dX4_entryCount_8 ⟨(Nat.le_of_ble_eq_true rfl), (Nat.le_of_ble_eq_true rfl)⟩) hS (fun H locs hM hS => ?_)
  refine lv_aload_n hx hb dX4_entryCount_11 rfl (lv_at hl 0 rfl) ?_
  refine lv_iload_n hx hb dX4_entryCount_12 rfl (lv_at hl 3 rfl) ?_
  obtain ⟨v5, M6, h1, h⟩ := ob2 h
  obtain ⟨hk1, h1⟩ := ifg h1
  refine kV1 (ci := 2) (As := [.int a2]) (rest := []) hC hE hS hM (mt_X2_entries _ E v1 a2 _ _ _ h1) (gwV qw_685 qw_686 qw_687 qw_41 qw_688) ⟨rfl, rfl, (Nat.le_of_ble_eq_true rfl), (Nat.le_of_ble_eq_true rfl)⟩ dd_X2_entries rfl hk1 rfl rfl hl.1 (Nat.le_of_ble_eq_true rfl) dX4_entryCount_13 ⟨(Nat.le_of_ble_eq_true rfl), (Nat.le_of_ble_eq_true rfl)⟩ (fun H locs hM hS => ?_)
  cases h
  exact xRet (eI hx hb hr hlocks hM hS dX4_entryCount_16 (Nat.le_of_ble_eq_true rfl) (Nat.le_of_ble_eq_true rfl))

theorem dd_X4_entryValue : yX4_entryValue.cls = RX4 ∧ yX4_entryValue.cls ≠ "java/lang/invoke/MethodHandle" ∧ yX4_entryValue.cls ≠ "java/lang/invoke/VarHandle" ∧ (parseMethodDescriptor yX4_entryValue.desc).map (fun d => d.parameters.length) = some 3 := by decide +kernel
abbrev rm_X4_entryValue : Room := ({ frames := 8, cells := 3, slots := 18, locals := 132 } : Room)
noncomputable def f_X4_entryValue (this : Nat) (a1 : Int32) (a2 : Int32) (a3 : Int32) (M : Mem) : Option ((Int32 ⊕ Nat) × Mem) :=
  bx (cK 5 this M (f_X4_stateOf this a1 M)) (fun ex M => some ((.inr ex, M))) fun v1 M2 =>
  bx (cK 5 this M2 (f_X4_requireRegister this a2 M2)) (fun ex M => some ((.inr ex, M))) fun v3 M4 =>
  bx (cK 5 this M4 (f_X4_requireReplica this a3 M4)) (fun ex M => some ((.inr ex, M))) fun v5 M6 =>
  bn (cK 3 v1 M6 (f_X2_valueBy v1 a2 a3 M6)) fun v7 M8 =>
  some (.inl v7, M8)
set_option maxHeartbeats 4000000 in
set_option maxRecDepth 100000 in
theorem mt_X4_entryValue (l : Launch) (hfl : l.stackTraces = false) (E : KEnv) (this : Nat) (a1 : Int32) (a2 : Int32) (a3 : Int32) (M M' : Mem) (r : Int32 ⊕ Nat) (h : f_X4_entryValue this a1 a2 a3 M = some (r, M')) : vx_Met l yX4_entryValue (Cond.code yX4_entryValue cX4_entryValue 5 (some .int) :: lw_G) rm_X4_entryValue (cPc E [.ref this, .int a1, .int a2, .int a3] M) (cQx E (vI r) M') (cXx E (vI r) M') 3 18 (eA E) := by
  refine vx_ofW (cc := cX4_entryValue) (maxL := 5) (ret := (some .int)) (by decide) rfl ?_
  intro p e s m args below meth c s₁ B hml hout hv
  obtain ⟨rfl, hE, hM⟩ := hv
  have hx := B.exec
  have hb := B.bytes
  have hr := B.returns
  have hts0 := atoms_spec (ws := Cond.code yX4_entryValue cX4_entryValue 5 (some .int) :: lw_G) B.pre
  have hts : ∀ w ∈ lw_G, w.before _ s = true := fun w hw => hts0 w (List.mem_cons_of_mem _ hw)
  have hown : s.vm.findClass RX4 = some m.cls := findClass_of_methodNamed B.named
  have hlocks := B.notSynchronized
  have hC : CallFix p m c cX4_entryValue 5 s _ lw_G RX4 := ⟨hx, hb, hml, hown, hts⟩
  have hS : va_S (eA E) s.heap s.heap [] := va_S.rf
  have hl := lv_entry ([.ref this, .int a1, .int a2, .int a3]) (n := 5) (Nat.le_of_ble_eq_true rfl)
  rw [lg_entry_eq]
  generalize (lg_sl ([.ref this, .int a1, .int a2, .int a3]) ++ List.replicate (5 - (lg_sl ([.ref this, .int a1, .int a2, .int a3])).length) Slot.unset).toArray = ls at hl ⊢
  have hl : lv_has ls 5 [(0, .ref this), (1, .int a1), (2, .int a2), (3, .int a3)] := hl
  unfold f_X4_entryValue at h
  show W p l e rm_X4_entryValue s m _ below meth c s.heap [] 0 0 _ _
  refine lv_aload_n hx hb dX4_entryValue_0 rfl (lv_at hl 0 rfl) ?_
  refine lv_iload_n hx hb dX4_entryValue_1 rfl (lv_at hl 1 rfl) ?_
  rcases obx h with ⟨v1, M2, h1, h⟩ | ⟨ex, M9, h1, h⟩
  rotate_left
  · obtain ⟨hk1, h1⟩ := ifg h1
    cases h
    exact kx_out (kx_V (ci := 4) (As := [.int a1]) (rest := []) hC hE hS hM (mt_X4_stateOf _ hfl E this a1 _ _ _ h1) (gwV qw_619 qw_621 qw_25 qw_39 qw_622) ⟨rfl, rfl, (Nat.le_of_ble_eq_true rfl), (Nat.le_of_ble_eq_true rfl)⟩ dd_X4_stateOf rfl hk1 rfl rfl hl.1 (Nat.le_of_ble_eq_true rfl) dX4_entryValue_2 ⟨(Nat.le_of_ble_eq_true rfl), (Nat.le_of_ble_eq_true rfl)⟩) hS hout hlocks (Nat.le_of_ble_eq_true rfl) (Nat.le_of_ble_eq_true rfl)
  obtain ⟨hk1, h1⟩ := ifg h1
  refine kx_ok1 (kx_V (ci := 4) (As := [.int a1]) (rest := []) hC hE hS hM (mt_X4_stateOf _ hfl E this a1 _ _ _ h1) (gwV qw_619 qw_621 qw_25 qw_39 qw_622) ⟨rfl, rfl, (Nat.le_of_ble_eq_true rfl), (Nat.le_of_ble_eq_true rfl)⟩ dd_X4_stateOf rfl hk1 rfl rfl hl.1 (Nat.le_of_ble_eq_true rfl) dX4_entryValue_2 ⟨(Nat.le_of_ble_eq_true rfl), (Nat.le_of_ble_eq_true rfl)⟩) hS (fun H locs hM hS => ?_)
  refine lv_astore (lv' := [(4, .ref v1), (0, .ref this), (1, .int a1), (2, .int a2), (3, .int a3)]) hx hb dX4_entryValue_5 hl (by decide) rfl (fun ls hl => ?_)
  refine lv_aload_n hx hb dX4_entryValue_7 rfl (lv_at hl 1 rfl) ?_
  refine lv_iload_n hx hb dX4_entryValue_8 rfl (lv_at hl 3 rfl) ?_
  rcases obx h with ⟨v3, M4, h1, h⟩ | ⟨ex, M9, h1, h⟩
  rotate_left
  · obtain ⟨hk1, h1⟩ := ifg h1
    cases h
    exact kx_out (kx_V (ci := 4) (As := [.int a2]) (rest := []) hC hE hS hM (mt_X4_requireRegister _ hfl E this a2 _ _ _ h1) (gwV qw_679 qw_681 qw_29 qw_39 qw_682) ⟨rfl, rfl, (Nat.le_of_ble_eq_true rfl), (Nat.le_of_ble_eq_true rfl)⟩ dd_X4_requireRegister rfl hk1 rfl rfl hl.1 (Nat.le_of_ble_eq_true rfl) dX4_entryValue_9 ⟨(Nat.le_of_ble_eq_true rfl), (Nat.le_of_ble_eq_true rfl)⟩) hS hout hlocks (Nat.le_of_ble_eq_true rfl) (Nat.le_of_ble_eq_true rfl)
  obtain ⟨hk1, h1⟩ := ifg h1
  refine kx_ok0 (kx_V (ci := 4) (As := [.int a2]) (rest := []) hC hE hS hM (mt_X4_requireRegister _ hfl E this a2 _ _ _ h1) (gwV qw_679 qw_681 qw_29 qw_39 qw_682) ⟨rfl, rfl, (Nat.le_of_ble_eq_true rfl), (Nat.le_of_ble_eq_true rfl)⟩ dd_X4_requireRegister rfl hk1 rfl rfl hl.1 (Nat.le_of_ble_eq_true rfl) dX4_entryValue_9 ⟨(Nat.le_of_ble_eq_true rfl), (Nat.le_of_ble_eq_true rfl)⟩) hS (fun H locs hM hS => ?_)
  refine lv_aload_n hx hb dX4_entryValue_12 rfl (lv_at hl 1 rfl) ?_
  refine lv_iload_n hx hb dX4_entryValue_13 rfl (lv_at hl 4 rfl) ?_
  rcases obx h with ⟨v5, M6, h1, h⟩ | ⟨ex, M9, h1, h⟩
  rotate_left
  · obtain ⟨hk1, h1⟩ := ifg h1
    cases h
    exact kx_out (kx_V (ci := 4) (As := [.int a3]) (rest := []) hC hE hS hM (mt_X4_requireReplica _ hfl E this a3 _ _ _ h1) (gwV qw_623 qw_625 qw_26 qw_39 qw_626) ⟨rfl, rfl, (Nat.le_of_ble_eq_true rfl), (Nat.le_of_ble_eq_true rfl)⟩ dd_X4_requireReplica rfl hk1 rfl rfl hl.1 (Nat.le_of_ble_eq_true rfl) dX4_entryValue_14 ⟨(Nat.le_of_ble_eq_true rfl), (Nat.le_of_ble_eq_true rfl)⟩) hS hout hlocks (Nat.le_of_ble_eq_true rfl) (Nat.le_of_ble_eq_true rfl)
  obtain ⟨hk1, h1⟩ := ifg h1
  refine kx_ok0 (kx_V (ci := 4) (As := [.int a3]) (rest := []) hC hE hS hM (mt_X4_requireReplica _ hfl E this a3 _ _ _ h1) (gwV qw_623 qw_625 qw_26 qw_39 qw_626) ⟨rfl, rfl, (Nat.le_of_ble_eq_true rfl), (Nat.le_of_ble_eq_true rfl)⟩ dd_X4_requireReplica rfl hk1 rfl rfl hl.1 (Nat.le_of_ble_eq_true rfl) dX4_entryValue_14 ⟨(Nat.le_of_ble_eq_true rfl), (Nat.le_of_ble_eq_true rfl)⟩) hS (fun H locs hM hS => ?_)
  refine lv_aload hx hb dX4_entryValue_17 (lv_at hl 0 rfl) ?_
  refine lv_iload_n hx hb dX4_entryValue_19 rfl (lv_at hl 3 rfl) ?_
  refine lv_iload_n hx hb dX4_entryValue_20 rfl (lv_at hl 4 rfl) ?_
  obtain ⟨v7, M8, h1, h⟩ := ob2 h
  obtain ⟨hk1, h1⟩ := ifg h1
  refine kV1 (ci := 2) (As := [.int a2, .int a3]) (rest := []) hC hE hS hM (mt_X2_valueBy _ E v1 a2 a3 _ _ _ h1) (gwV qw_1031 qw_1032 qw_1033 qw_41 qw_1034) ⟨rfl, rfl, (Nat.le_of_ble_eq_true rfl), (Nat.le_of_ble_eq_true rfl)⟩ dd_X2_valueBy rfl hk1 rfl rfl hl.1 (Nat.le_of_ble_eq_true rfl) dX4_entryValue_21 ⟨(Nat.le_of_ble_eq_true rfl), (Nat.le_of_ble_eq_true rfl)⟩ (fun H locs hM hS => ?_)
  cases h
  exact xRet (eI hx hb hr hlocks hM hS dX4_entryValue_24 (Nat.le_of_ble_eq_true rfl) (Nat.le_of_ble_eq_true rfl))

theorem dd_X4_greatestValue : yX4_greatestValue.cls = RX4 ∧ yX4_greatestValue.cls ≠ "java/lang/invoke/MethodHandle" ∧ yX4_greatestValue.cls ≠ "java/lang/invoke/VarHandle" ∧ (parseMethodDescriptor yX4_greatestValue.desc).map (fun d => d.parameters.length) = some 2 := by decide +kernel
abbrev rm_X4_greatestValue : Room := ({ frames := 8, cells := 2, slots := 12, locals := 132 } : Room)
noncomputable def fj_X4_greatestValue_43 (x4 : Int32) (M : Mem) : Option ((Int32 ⊕ Nat) × Mem) :=
  some (.inl x4, M)
set_option maxHeartbeats 4000000 in
set_option maxRecDepth 100000 in
theorem tj_X4_greatestValue_43 {p : Program} {l : Launch} {e : Env} {s : State} {m : MethodId} {args : Array Value} {below : List Frame} {meth : Method} {c : Code} {E : KEnv} {H : Heap} {locs : List Loc} {ls : Array Slot} {x4 : Int32} {M : Mem} {r : Int32 ⊕ Nat} {M' : Mem} (hfl : l.stackTraces = false) (hout : ∀ x ∈ c.exceptionTable.toList, False) (hC : CallFix p m c cX4_greatestValue 6 s args lw_G RX4) (hr : meth.sig.returnType = (some .int)) (hlocks : meth.locks = false) (hE : EnvOK E s) (h : fj_X4_greatestValue_43 x4 M = some (r, M')) (hM : MOK E M H) (hS : va_S (eA E) s.heap H locs) (hl : lv_has ls 6 [(4, .int x4)]) : W p l e rm_X4_greatestValue s m args below meth c H locs 2 12 (vx_MQ below (cQx E (vI r) M') (cXx E (vI r) M') args s 2 12 (eA E)) (F0 m 43 ls []) := by
  obtain ⟨hx, hb, hml, hown, hts⟩ := id hC
  unfold fj_X4_greatestValue_43 at h
  refine lv_iload hx hb dX4_greatestValue_43 (lv_at hl 0 rfl) ?_
  cases h
  exact xRet (eI hx hb hr hlocks hM hS dX4_greatestValue_45 (Nat.le_of_ble_eq_true rfl) (Nat.le_of_ble_eq_true rfl))
noncomputable def fc_X4_greatestValue_17 (x2 : Int32) (x3 : Nat) (x4 : Int32) (x5 : Int32) (M : Mem) : Option ((Int32 × Int32 × Mem) ⊕ ((Int32 ⊕ Nat) × Mem)) :=
  (if (4 : Int32) ≤ x5 then
  (fj_X4_greatestValue_43 x4 M).map Sum.inr
  else
  bn (cK 3 x3 M (f_X2_valueBy x3 x2 x5 M)) fun v5 M6 =>
  some (.inl ((if x4 < v5 then v5 else x4), x5 + 1, M6)))
noncomputable def fj_X4_greatestValue_17 (x2 : Int32) (x3 : Nat) (x4 : Int32) (x5 : Int32) (M : Mem) : Option ((Int32 ⊕ Nat) × Mem) := loopM (fun q : (Int32 × Int32 × Mem) => fc_X4_greatestValue_17 x2 x3 q.1 q.2.1 q.2.2) FU (x4, x5, M)
set_option maxHeartbeats 4000000 in
set_option maxRecDepth 100000 in
theorem tj_X4_greatestValue_17 {p : Program} {l : Launch} {e : Env} {s : State} {m : MethodId} {args : Array Value} {below : List Frame} {meth : Method} {c : Code} {E : KEnv} {H : Heap} {locs : List Loc} {ls : Array Slot} {x2 : Int32} {x3 : Nat} {x4 : Int32} {x5 : Int32} {M : Mem} {r : Int32 ⊕ Nat} {M' : Mem} (hfl : l.stackTraces = false) (hout : ∀ x ∈ c.exceptionTable.toList, False) (hC : CallFix p m c cX4_greatestValue 6 s args lw_G RX4) (hr : meth.sig.returnType = (some .int)) (hlocks : meth.locks = false) (hE : EnvOK E s) (h : fj_X4_greatestValue_17 x2 x3 x4 x5 M = some (r, M')) (hM : MOK E M H) (hS : va_S (eA E) s.heap H locs) (hl : lv_has ls 6 [(2, .int x2), (3, .ref x3), (4, .int x4), (5, .int x5)]) : W p l e rm_X4_greatestValue s m args below meth c H locs 2 12 (vx_MQ below (cQx E (vI r) M') (cXx E (vI r) M') args s 2 12 (eA E)) (F0 m 17 ls []) := by
  refine loopM_ind (body := fun q : (Int32 × Int32 × Mem) => fc_X4_greatestValue_17 x2 x3 q.1 q.2.1 q.2.2) (x0 := (r, M')) (Wd := fun q : (Int32 × Int32 × Mem) => ∀ (H : Heap) (locs : List Loc) (ls : Array Slot), MOK E (q.2.2) H → va_S (eA E) s.heap H locs → lv_has ls 6 [(2, .int x2), (3, .ref x3), (4, .int q.1), (5, .int q.2.1)] → W p l e rm_X4_greatestValue s m args below meth c H locs 2 12 (vx_MQ below (cQx E (vI r) M') (cXx E (vI r) M') args s 2 12 (eA E)) (F0 m 17 ls [])) ?_ FU (x4, x5, M) h H locs ls hM hS hl
  clear h hM hS hl H locs ls M x4 x5
  obtain ⟨hx, hb, hml, hown, hts⟩ := id hC
  intro q y1 h hy1 H locs ls hM hS hl
  obtain ⟨x4, x5, M⟩ := q
  have h : fc_X4_greatestValue_17 x2 x3 x4 x5 M = some y1 := h
  have hM : MOK E M H := hM
  have hl : lv_has ls 6 [(2, .int x2), (3, .ref x3), (4, .int x4), (5, .int x5)] := hl
  unfold fc_X4_greatestValue_17 at h
  show W p l e rm_X4_greatestValue s m args below meth c H locs _ _ _ _
  refine lv_iload hx hb dX4_greatestValue_17 (lv_at hl 3 rfl) ?_
  refine lv_iconst (v := 4) hx hb dX4_greatestValue_19 (by decide) ?_
  refine lv_icmp_ge (tgt := 43) hx hb dX4_greatestValue_20 (by decide) (fun c1 => ?_) (fun c1 => ?_)
  · have h := ifp c1 h
    obtain ⟨z0, h9, rfl⟩ := om h
    have e0 := hy1.2 _ rfl
    subst e0
    have h := h9
    refine W.widen (k := 2) (n := 12) (Nat.le_of_ble_eq_true rfl) (Nat.le_of_ble_eq_true rfl) ?_
    exact tj_X4_greatestValue_43 hfl hout  hC hr hlocks hE  h hM hS (lv_sub hl [2] rfl)
  · have h := ifn c1 h
    refine lv_iload hx hb dX4_greatestValue_23 (lv_at hl 2 rfl) ?_
    refine lv_aload_n hx hb dX4_greatestValue_25 rfl (lv_at hl 1 rfl) ?_
    refine lv_iload_n hx hb dX4_greatestValue_26 rfl (lv_at hl 0 rfl) ?_
    refine lv_iload hx hb dX4_greatestValue_27 (lv_at hl 3 rfl) ?_
    obtain ⟨v5, M6, h1, h⟩ := ob2 h
    obtain ⟨hk1, h1⟩ := ifg h1
    refine kV1 (ci := 2) (As := [.int x2, .int x5]) (rest := [.int x4]) hC hE hS hM (mt_X2_valueBy _ E x3 x2 x5 _ _ _ h1) (gwV qw_1031 qw_1032 qw_1033 qw_41 qw_1034) ⟨rfl, rfl, (Nat.le_of_ble_eq_true rfl), (Nat.le_of_ble_eq_true rfl)⟩ dd_X2_valueBy rfl hk1 rfl rfl hl.1 (Nat.le_of_ble_eq_true rfl) dX4_greatestValue_29 ⟨(Nat.le_of_ble_eq_true rfl), (Nat.le_of_ble_eq_true rfl)⟩ (fun H locs hM hS => ?_)
    refine va_mmax hx hb (hml.trans hl.1.symm) hown (hts _ qw_1089) (hts _ qw_375) (hts _ qw_48) (hts _ qw_376) (Nat.le_of_ble_eq_true rfl) (Nat.le_of_ble_eq_true rfl) (Nat.le_of_ble_eq_true rfl) (Nat.le_of_ble_eq_true rfl) dX4_greatestValue_32 ?_
    refine lv_istore (lv' := [(4, .int (if x4 < v5 then v5 else x4)), (2, .int x2), (3, .ref x3), (5, .int x5)]) hx hb dX4_greatestValue_35 hl (by decide) rfl (fun ls hl => ?_)
    refine lv_iinc (v := x5 + 1) (lv' := [(5, .int (x5 + 1)), (4, .int (if x4 < v5 then v5 else x4)), (2, .int x2), (3, .ref x3)]) hx hb dX4_greatestValue_37 hl (k := 3) rfl rfl (by decide) rfl (fun ls hl => ?_)
    refine lv_goto (tgt := 17) hx hb dX4_greatestValue_40 (by decide) ?_
    cases h
    exact hy1.1 _ rfl _ _ _ hM hS (lv_sub hl [2, 3, 1, 0] rfl)
noncomputable def f_X4_greatestValue (this : Nat) (a1 : Int32) (a2 : Int32) (M : Mem) : Option ((Int32 ⊕ Nat) × Mem) :=
  bx (cK 5 this M (f_X4_stateOf this a1 M)) (fun ex M => some ((.inr ex, M))) fun v1 M2 =>
  bx (cK 5 this M2 (f_X4_requireRegister this a2 M2)) (fun ex M => some ((.inr ex, M))) fun v3 M4 =>
  fj_X4_greatestValue_17 a2 v1 (-1) 0 M4
set_option maxHeartbeats 4000000 in
set_option maxRecDepth 100000 in
theorem mt_X4_greatestValue (l : Launch) (hfl : l.stackTraces = false) (E : KEnv) (this : Nat) (a1 : Int32) (a2 : Int32) (M M' : Mem) (r : Int32 ⊕ Nat) (h : f_X4_greatestValue this a1 a2 M = some (r, M')) : vx_Met l yX4_greatestValue (Cond.code yX4_greatestValue cX4_greatestValue 6 (some .int) :: lw_G) rm_X4_greatestValue (cPc E [.ref this, .int a1, .int a2] M) (cQx E (vI r) M') (cXx E (vI r) M') 2 12 (eA E) := by
  refine vx_ofW (cc := cX4_greatestValue) (maxL := 6) (ret := (some .int)) (by decide) rfl ?_
  intro p e s m args below meth c s₁ B hml hout hv
  obtain ⟨rfl, hE, hM⟩ := hv
  have hx := B.exec
  have hb := B.bytes
  have hr := B.returns
  have hts0 := atoms_spec (ws := Cond.code yX4_greatestValue cX4_greatestValue 6 (some .int) :: lw_G) B.pre
  have hts : ∀ w ∈ lw_G, w.before _ s = true := fun w hw => hts0 w (List.mem_cons_of_mem _ hw)
  have hown : s.vm.findClass RX4 = some m.cls := findClass_of_methodNamed B.named
  have hlocks := B.notSynchronized
  have hC : CallFix p m c cX4_greatestValue 6 s _ lw_G RX4 := ⟨hx, hb, hml, hown, hts⟩
  have hS : va_S (eA E) s.heap s.heap [] := va_S.rf
  have hl := lv_entry ([.ref this, .int a1, .int a2]) (n := 6) (Nat.le_of_ble_eq_true rfl)
  rw [lg_entry_eq]
  generalize (lg_sl ([.ref this, .int a1, .int a2]) ++ List.replicate (6 - (lg_sl ([.ref this, .int a1, .int a2])).length) Slot.unset).toArray = ls at hl ⊢
  have hl : lv_has ls 6 [(0, .ref this), (1, .int a1), (2, .int a2)] := hl
  unfold f_X4_greatestValue at h
  show W p l e rm_X4_greatestValue s m _ below meth c s.heap [] 0 0 _ _
  refine lv_aload_n hx hb dX4_greatestValue_0 rfl (lv_at hl 0 rfl) ?_
  refine lv_iload_n hx hb dX4_greatestValue_1 rfl (lv_at hl 1 rfl) ?_
  rcases obx h with ⟨v1, M2, h1, h⟩ | ⟨ex, M9, h1, h⟩
  rotate_left
  · obtain ⟨hk1, h1⟩ := ifg h1
    cases h
    exact kx_out (kx_V (ci := 4) (As := [.int a1]) (rest := []) hC hE hS hM (mt_X4_stateOf _ hfl E this a1 _ _ _ h1) (gwV qw_619 qw_621 qw_25 qw_39 qw_622) ⟨rfl, rfl, (Nat.le_of_ble_eq_true rfl), (Nat.le_of_ble_eq_true rfl)⟩ dd_X4_stateOf rfl hk1 rfl rfl hl.1 (Nat.le_of_ble_eq_true rfl) dX4_greatestValue_2 ⟨(Nat.le_of_ble_eq_true rfl), (Nat.le_of_ble_eq_true rfl)⟩) hS hout hlocks (Nat.le_of_ble_eq_true rfl) (Nat.le_of_ble_eq_true rfl)
  obtain ⟨hk1, h1⟩ := ifg h1
  refine kx_ok1 (kx_V (ci := 4) (As := [.int a1]) (rest := []) hC hE hS hM (mt_X4_stateOf _ hfl E this a1 _ _ _ h1) (gwV qw_619 qw_621 qw_25 qw_39 qw_622) ⟨rfl, rfl, (Nat.le_of_ble_eq_true rfl), (Nat.le_of_ble_eq_true rfl)⟩ dd_X4_stateOf rfl hk1 rfl rfl hl.1 (Nat.le_of_ble_eq_true rfl) dX4_greatestValue_2 ⟨(Nat.le_of_ble_eq_true rfl), (Nat.le_of_ble_eq_true rfl)⟩) hS (fun H locs hM hS => ?_)
  refine lv_astore_n (lv' := [(3, .ref v1), (0, .ref this), (1, .int a1), (2, .int a2)]) hx hb dX4_greatestValue_5 rfl hl (by decide) rfl (fun ls hl => ?_)
  refine lv_aload_n hx hb dX4_greatestValue_6 rfl (lv_at hl 1 rfl) ?_
  refine lv_iload_n hx hb dX4_greatestValue_7 rfl (lv_at hl 3 rfl) ?_
  rcases obx h with ⟨v3, M4, h1, h⟩ | ⟨ex, M9, h1, h⟩
  rotate_left
  · obtain ⟨hk1, h1⟩ := ifg h1
    cases h
    exact kx_out (kx_V (ci := 4) (As := [.int a2]) (rest := []) hC hE hS hM (mt_X4_requireRegister _ hfl E this a2 _ _ _ h1) (gwV qw_679 qw_681 qw_29 qw_39 qw_682) ⟨rfl, rfl, (Nat.le_of_ble_eq_true rfl), (Nat.le_of_ble_eq_true rfl)⟩ dd_X4_requireRegister rfl hk1 rfl rfl hl.1 (Nat.le_of_ble_eq_true rfl) dX4_greatestValue_8 ⟨(Nat.le_of_ble_eq_true rfl), (Nat.le_of_ble_eq_true rfl)⟩) hS hout hlocks (Nat.le_of_ble_eq_true rfl) (Nat.le_of_ble_eq_true rfl)
  obtain ⟨hk1, h1⟩ := ifg h1
  refine kx_ok0 (kx_V (ci := 4) (As := [.int a2]) (rest := []) hC hE hS hM (mt_X4_requireRegister _ hfl E this a2 _ _ _ h1) (gwV qw_679 qw_681 qw_29 qw_39 qw_682) ⟨rfl, rfl, (Nat.le_of_ble_eq_true rfl), (Nat.le_of_ble_eq_true rfl)⟩ dd_X4_requireRegister rfl hk1 rfl rfl hl.1 (Nat.le_of_ble_eq_true rfl) dX4_greatestValue_8 ⟨(Nat.le_of_ble_eq_true rfl), (Nat.le_of_ble_eq_true rfl)⟩) hS (fun H locs hM hS => ?_)
  refine lv_iconst (v := (-1)) hx hb dX4_greatestValue_11 (by decide) ?_
  refine lv_istore (lv' := [(4, .int (-1)), (3, .ref v1), (0, .ref this), (1, .int a1), (2, .int a2)]) hx hb dX4_greatestValue_12 hl (by decide) rfl (fun ls hl => ?_)
  refine lv_iconst (v := 0) hx hb dX4_greatestValue_14 (by decide) ?_
  refine lv_istore (lv' := [(5, .int 0), (4, .int (-1)), (3, .ref v1), (0, .ref this), (1, .int a1), (2, .int a2)]) hx hb dX4_greatestValue_15 hl (by decide) rfl (fun ls hl => ?_)
  refine W.widen (k := 2) (n := 12) (Nat.le_of_ble_eq_true rfl) (Nat.le_of_ble_eq_true rfl) ?_
  exact tj_X4_greatestValue_17 hfl hout  hC hr hlocks hE  h hM hS (lv_sub hl [5, 2, 1, 0] rfl)

theorem dd_X4_conflicts : yX4_conflicts.cls = RX4 ∧ yX4_conflicts.cls ≠ "java/lang/invoke/MethodHandle" ∧ yX4_conflicts.cls ≠ "java/lang/invoke/VarHandle" ∧ (parseMethodDescriptor yX4_conflicts.desc).map (fun d => d.parameters.length) = some 1 := by decide +kernel
abbrev rm_X4_conflicts : Room := ({ frames := 8, cells := 1, slots := 6, locals := 132 } : Room)
noncomputable def f_X4_conflicts (this : Nat) (a1 : Int32) (M : Mem) : Option ((Int32 ⊕ Nat) × Mem) :=
  bx (cK 5 this M (f_X4_stateOf this a1 M)) (fun ex M => some ((.inr ex, M))) fun v1 M2 =>
  bn (cK 3 v1 M2 (f_X2_registersInConflict v1 M2)) fun v3 M4 =>
  some (.inl v3, M4)
set_option maxHeartbeats 4000000 in
set_option maxRecDepth 100000 in
theorem mt_X4_conflicts (l : Launch) (hfl : l.stackTraces = false) (E : KEnv) (this : Nat) (a1 : Int32) (M M' : Mem) (r : Int32 ⊕ Nat) (h : f_X4_conflicts this a1 M = some (r, M')) : vx_Met l yX4_conflicts (Cond.code yX4_conflicts cX4_conflicts 2 (some .int) :: lw_G) rm_X4_conflicts (cPc E [.ref this, .int a1] M) (cQx E (vI r) M') (cXx E (vI r) M') 1 6 (eA E) := by
  refine vx_ofW (cc := cX4_conflicts) (maxL := 2) (ret := (some .int)) (by decide) rfl ?_
  intro p e s m args below meth c s₁ B hml hout hv
  obtain ⟨rfl, hE, hM⟩ := hv
  have hx := B.exec
  have hb := B.bytes
  have hr := B.returns
  have hts0 := atoms_spec (ws := Cond.code yX4_conflicts cX4_conflicts 2 (some .int) :: lw_G) B.pre
  have hts : ∀ w ∈ lw_G, w.before _ s = true := fun w hw => hts0 w (List.mem_cons_of_mem _ hw)
  have hown : s.vm.findClass RX4 = some m.cls := findClass_of_methodNamed B.named
  have hlocks := B.notSynchronized
  have hC : CallFix p m c cX4_conflicts 2 s _ lw_G RX4 := ⟨hx, hb, hml, hown, hts⟩
  have hS : va_S (eA E) s.heap s.heap [] := va_S.rf
  have hl := lv_entry ([.ref this, .int a1]) (n := 2) (Nat.le_of_ble_eq_true rfl)
  rw [lg_entry_eq]
  generalize (lg_sl ([.ref this, .int a1]) ++ List.replicate (2 - (lg_sl ([.ref this, .int a1])).length) Slot.unset).toArray = ls at hl ⊢
  have hl : lv_has ls 2 [(0, .ref this), (1, .int a1)] := hl
  unfold f_X4_conflicts at h
  show W p l e rm_X4_conflicts s m _ below meth c s.heap [] 0 0 _ _
  refine lv_aload_n hx hb dX4_conflicts_0 rfl (lv_at hl 0 rfl) ?_
  refine lv_iload_n hx hb dX4_conflicts_1 rfl (lv_at hl 1 rfl) ?_
  rcases obx h with ⟨v1, M2, h1, h⟩ | ⟨ex, M9, h1, h⟩
  rotate_left
  · obtain ⟨hk1, h1⟩ := ifg h1
    cases h
    exact kx_out (kx_V (ci := 4) (As := [.int a1]) (rest := []) hC hE hS hM (mt_X4_stateOf _ hfl E this a1 _ _ _ h1) (gwV qw_619 qw_621 qw_25 qw_39 qw_622) ⟨rfl, rfl, (Nat.le_of_ble_eq_true rfl), (Nat.le_of_ble_eq_true rfl)⟩ dd_X4_stateOf rfl hk1 rfl rfl hl.1 (Nat.le_of_ble_eq_true rfl) dX4_conflicts_2 ⟨(Nat.le_of_ble_eq_true rfl), (Nat.le_of_ble_eq_true rfl)⟩) hS hout hlocks (Nat.le_of_ble_eq_true rfl) (Nat.le_of_ble_eq_true rfl)
  obtain ⟨hk1, h1⟩ := ifg h1
  refine kx_ok1 (kx_V (ci := 4) (As := [.int a1]) (rest := []) hC hE hS hM (mt_X4_stateOf _ hfl E this a1 _ _ _ h1) (gwV qw_619 qw_621 qw_25 qw_39 qw_622) ⟨rfl, rfl, (Nat.le_of_ble_eq_true rfl), (Nat.le_of_ble_eq_true rfl)⟩ dd_X4_stateOf rfl hk1 rfl rfl hl.1 (Nat.le_of_ble_eq_true rfl) dX4_conflicts_2 ⟨(Nat.le_of_ble_eq_true rfl), (Nat.le_of_ble_eq_true rfl)⟩) hS (fun H locs hM hS => ?_)
  obtain ⟨v3, M4, h1, h⟩ := ob2 h
  obtain ⟨hk1, h1⟩ := ifg h1
  refine kV1 (ci := 2) (As := []) (rest := []) hC hE hS hM (mt_X2_registersInConflict _ E v1 _ _ _ h1) (gwV qw_1102 qw_1103 qw_1104 qw_41 qw_1105) ⟨rfl, rfl, (Nat.le_of_ble_eq_true rfl), (Nat.le_of_ble_eq_true rfl)⟩ dd_X2_registersInConflict rfl hk1 rfl rfl hl.1 (Nat.le_of_ble_eq_true rfl) dX4_conflicts_5 ⟨(Nat.le_of_ble_eq_true rfl), (Nat.le_of_ble_eq_true rfl)⟩ (fun H locs hM hS => ?_)
  cases h
  exact xRet (eI hx hb hr hlocks hM hS dX4_conflicts_8 (Nat.le_of_ble_eq_true rfl) (Nat.le_of_ble_eq_true rfl))

theorem dd_X4_unseenDots : yX4_unseenDots.cls = RX4 ∧ yX4_unseenDots.cls ≠ "java/lang/invoke/MethodHandle" ∧ yX4_unseenDots.cls ≠ "java/lang/invoke/VarHandle" ∧ (parseMethodDescriptor yX4_unseenDots.desc).map (fun d => d.parameters.length) = some 2 := by decide +kernel
abbrev rm_X4_unseenDots : Room := ({ frames := 8, cells := 2, slots := 12, locals := 132 } : Room)
noncomputable def fj_X4_unseenDots_54 (x5 : Int32) (M : Mem) : Option ((Int32 ⊕ Nat) × Mem) :=
  some (.inl x5, M)
set_option maxHeartbeats 4000000 in
set_option maxRecDepth 100000 in
theorem tj_X4_unseenDots_54 {p : Program} {l : Launch} {e : Env} {s : State} {m : MethodId} {args : Array Value} {below : List Frame} {meth : Method} {c : Code} {E : KEnv} {H : Heap} {locs : List Loc} {ls : Array Slot} {x5 : Int32} {M : Mem} {r : Int32 ⊕ Nat} {M' : Mem} (hfl : l.stackTraces = false) (hout : ∀ x ∈ c.exceptionTable.toList, False) (hC : CallFix p m c cX4_unseenDots 7 s args lw_G RX4) (hr : meth.sig.returnType = (some .int)) (hlocks : meth.locks = false) (hE : EnvOK E s) (h : fj_X4_unseenDots_54 x5 M = some (r, M')) (hM : MOK E M H) (hS : va_S (eA E) s.heap H locs) (hl : lv_has ls 7 [(5, .int x5)]) : W p l e rm_X4_unseenDots s m args below meth c H locs 2 12 (vx_MQ below (cQx E (vI r) M') (cXx E (vI r) M') args s 2 12 (eA E)) (F0 m 54 ls []) := by
  obtain ⟨hx, hb, hml, hown, hts⟩ := id hC
  unfold fj_X4_unseenDots_54 at h
  refine lv_iload hx hb dX4_unseenDots_54 (lv_at hl 0 rfl) ?_
  cases h
  exact xRet (eI hx hb hr hlocks hM hS dX4_unseenDots_56 (Nat.le_of_ble_eq_true rfl) (Nat.le_of_ble_eq_true rfl))
noncomputable def fc_X4_unseenDots_19 (x3 : Nat) (x4 : Nat) (x5 : Int32) (x6 : Int32) (M : Mem) : Option ((Int32 × Int32 × Mem) ⊕ ((Int32 ⊕ Nat) × Mem)) :=
  (if (4 : Int32) ≤ x6 then
  (fj_X4_unseenDots_54 x5 M).map Sum.inr
  else
  bn (cK 3 x3 M (f_X2_version x3 x6 M)) fun v5 M6 =>
  bn (cK 3 x4 M6 (f_X2_version x4 x6 M6)) fun v7 M8 =>
  some (.inl (x5 + (if 0 < (v5 - v7) then (v5 - v7) else 0), x6 + 1, M8)))
noncomputable def fj_X4_unseenDots_19 (x3 : Nat) (x4 : Nat) (x5 : Int32) (x6 : Int32) (M : Mem) : Option ((Int32 ⊕ Nat) × Mem) := loopM (fun q : (Int32 × Int32 × Mem) => fc_X4_unseenDots_19 x3 x4 q.1 q.2.1 q.2.2) FU (x5, x6, M)
set_option maxHeartbeats 4000000 in
set_option maxRecDepth 100000 in
theorem tj_X4_unseenDots_19 {p : Program} {l : Launch} {e : Env} {s : State} {m : MethodId} {args : Array Value} {below : List Frame} {meth : Method} {c : Code} {E : KEnv} {H : Heap} {locs : List Loc} {ls : Array Slot} {x3 : Nat} {x4 : Nat} {x5 : Int32} {x6 : Int32} {M : Mem} {r : Int32 ⊕ Nat} {M' : Mem} (hfl : l.stackTraces = false) (hout : ∀ x ∈ c.exceptionTable.toList, False) (hC : CallFix p m c cX4_unseenDots 7 s args lw_G RX4) (hr : meth.sig.returnType = (some .int)) (hlocks : meth.locks = false) (hE : EnvOK E s) (h : fj_X4_unseenDots_19 x3 x4 x5 x6 M = some (r, M')) (hM : MOK E M H) (hS : va_S (eA E) s.heap H locs) (hl : lv_has ls 7 [(3, .ref x3), (4, .ref x4), (5, .int x5), (6, .int x6)]) : W p l e rm_X4_unseenDots s m args below meth c H locs 2 12 (vx_MQ below (cQx E (vI r) M') (cXx E (vI r) M') args s 2 12 (eA E)) (F0 m 19 ls []) := by
  refine loopM_ind (body := fun q : (Int32 × Int32 × Mem) => fc_X4_unseenDots_19 x3 x4 q.1 q.2.1 q.2.2) (x0 := (r, M')) (Wd := fun q : (Int32 × Int32 × Mem) => ∀ (H : Heap) (locs : List Loc) (ls : Array Slot), MOK E (q.2.2) H → va_S (eA E) s.heap H locs → lv_has ls 7 [(3, .ref x3), (4, .ref x4), (5, .int q.1), (6, .int q.2.1)] → W p l e rm_X4_unseenDots s m args below meth c H locs 2 12 (vx_MQ below (cQx E (vI r) M') (cXx E (vI r) M') args s 2 12 (eA E)) (F0 m 19 ls [])) ?_ FU (x5, x6, M) h H locs ls hM hS hl
  clear h hM hS hl H locs ls M x5 x6
  obtain ⟨hx, hb, hml, hown, hts⟩ := id hC
  intro q y1 h hy1 H locs ls hM hS hl
  obtain ⟨x5, x6, M⟩ := q
  have h : fc_X4_unseenDots_19 x3 x4 x5 x6 M = some y1 := h
  have hM : MOK E M H := hM
  have hl : lv_has ls 7 [(3, .ref x3), (4, .ref x4), (5, .int x5), (6, .int x6)] := hl
  unfold fc_X4_unseenDots_19 at h
  show W p l e rm_X4_unseenDots s m args below meth c H locs _ _ _ _
  refine lv_iload hx hb dX4_unseenDots_19 (lv_at hl 3 rfl) ?_
  refine lv_iconst (v := 4) hx hb dX4_unseenDots_21 (by decide) ?_
  refine lv_icmp_ge (tgt := 54) hx hb dX4_unseenDots_22 (by decide) (fun c1 => ?_) (fun c1 => ?_)
  · have h := ifp c1 h
    obtain ⟨z0, h9, rfl⟩ := om h
    have e0 := hy1.2 _ rfl
    subst e0
    have h := h9
    refine W.widen (k := 2) (n := 12) (Nat.le_of_ble_eq_true rfl) (Nat.le_of_ble_eq_true rfl) ?_
    exact tj_X4_unseenDots_54 hfl hout  hC hr hlocks hE  h hM hS (lv_sub hl [2] rfl)
  · have h := ifn c1 h
    refine lv_iload hx hb dX4_unseenDots_25 (lv_at hl 2 rfl) ?_
    refine lv_iconst (v := 0) hx hb dX4_unseenDots_27 (by decide) ?_
    refine lv_aload_n hx hb dX4_unseenDots_28 rfl (lv_at hl 0 rfl) ?_
    refine lv_iload hx hb dX4_unseenDots_29 (lv_at hl 3 rfl) ?_
    obtain ⟨v5, M6, h1, h⟩ := ob2 h
    obtain ⟨hk1, h1⟩ := ifg h1
    refine kV1 (ci := 2) (As := [.int x6]) (rest := [.int 0, .int x5]) hC hE hS hM (mt_X2_version _ E x3 x6 _ _ _ h1) (gwV qw_658 qw_659 qw_660 qw_41 qw_661) ⟨rfl, rfl, (Nat.le_of_ble_eq_true rfl), (Nat.le_of_ble_eq_true rfl)⟩ dd_X2_version rfl hk1 rfl rfl hl.1 (Nat.le_of_ble_eq_true rfl) dX4_unseenDots_31 ⟨(Nat.le_of_ble_eq_true rfl), (Nat.le_of_ble_eq_true rfl)⟩ (fun H locs hM hS => ?_)
    refine lv_aload hx hb dX4_unseenDots_34 (lv_at hl 1 rfl) ?_
    refine lv_iload hx hb dX4_unseenDots_36 (lv_at hl 3 rfl) ?_
    obtain ⟨v7, M8, h1, h⟩ := ob2 h
    obtain ⟨hk1, h1⟩ := ifg h1
    refine kV1 (ci := 2) (As := [.int x6]) (rest := [.int v5, .int 0, .int x5]) hC hE hS hM (mt_X2_version _ E x4 x6 _ _ _ h1) (gwV qw_658 qw_659 qw_660 qw_41 qw_661) ⟨rfl, rfl, (Nat.le_of_ble_eq_true rfl), (Nat.le_of_ble_eq_true rfl)⟩ dd_X2_version rfl hk1 rfl rfl hl.1 (Nat.le_of_ble_eq_true rfl) dX4_unseenDots_38 ⟨(Nat.le_of_ble_eq_true rfl), (Nat.le_of_ble_eq_true rfl)⟩ (fun H locs hM hS => ?_)
    refine lv_isub hx hb dX4_unseenDots_41 ?_
    refine va_mmax hx hb (hml.trans hl.1.symm) hown (hts _ qw_1089) (hts _ qw_375) (hts _ qw_48) (hts _ qw_376) (Nat.le_of_ble_eq_true rfl) (Nat.le_of_ble_eq_true rfl) (Nat.le_of_ble_eq_true rfl) (Nat.le_of_ble_eq_true rfl) dX4_unseenDots_42 ?_
    refine lv_iadd hx hb dX4_unseenDots_45 ?_
    refine lv_istore (lv' := [(5, .int (x5 + (if 0 < (v5 - v7) then (v5 - v7) else 0))), (3, .ref x3), (4, .ref x4), (6, .int x6)]) hx hb dX4_unseenDots_46 hl (by decide) rfl (fun ls hl => ?_)
    refine lv_iinc (v := x6 + 1) (lv' := [(6, .int (x6 + 1)), (5, .int (x5 + (if 0 < (v5 - v7) then (v5 - v7) else 0))), (3, .ref x3), (4, .ref x4)]) hx hb dX4_unseenDots_48 hl (k := 3) rfl rfl (by decide) rfl (fun ls hl => ?_)
    refine lv_goto (tgt := 19) hx hb dX4_unseenDots_51 (by decide) ?_
    cases h
    exact hy1.1 _ rfl _ _ _ hM hS (lv_sub hl [2, 3, 1, 0] rfl)
noncomputable def f_X4_unseenDots (this : Nat) (a1 : Int32) (a2 : Int32) (M : Mem) : Option ((Int32 ⊕ Nat) × Mem) :=
  bx (cK 5 this M (f_X4_stateOf this a1 M)) (fun ex M => some ((.inr ex, M))) fun v1 M2 =>
  bx (cK 5 this M2 (f_X4_stateOf this a2 M2)) (fun ex M => some ((.inr ex, M))) fun v3 M4 =>
  fj_X4_unseenDots_19 v1 v3 0 0 M4
set_option maxHeartbeats 4000000 in
set_option maxRecDepth 100000 in
theorem mt_X4_unseenDots (l : Launch) (hfl : l.stackTraces = false) (E : KEnv) (this : Nat) (a1 : Int32) (a2 : Int32) (M M' : Mem) (r : Int32 ⊕ Nat) (h : f_X4_unseenDots this a1 a2 M = some (r, M')) : vx_Met l yX4_unseenDots (Cond.code yX4_unseenDots cX4_unseenDots 7 (some .int) :: lw_G) rm_X4_unseenDots (cPc E [.ref this, .int a1, .int a2] M) (cQx E (vI r) M') (cXx E (vI r) M') 2 12 (eA E) := by
  refine vx_ofW (cc := cX4_unseenDots) (maxL := 7) (ret := (some .int)) (by decide) rfl ?_
  intro p e s m args below meth c s₁ B hml hout hv
  obtain ⟨rfl, hE, hM⟩ := hv
  have hx := B.exec
  have hb := B.bytes
  have hr := B.returns
  have hts0 := atoms_spec (ws := Cond.code yX4_unseenDots cX4_unseenDots 7 (some .int) :: lw_G) B.pre
  have hts : ∀ w ∈ lw_G, w.before _ s = true := fun w hw => hts0 w (List.mem_cons_of_mem _ hw)
  have hown : s.vm.findClass RX4 = some m.cls := findClass_of_methodNamed B.named
  have hlocks := B.notSynchronized
  have hC : CallFix p m c cX4_unseenDots 7 s _ lw_G RX4 := ⟨hx, hb, hml, hown, hts⟩
  have hS : va_S (eA E) s.heap s.heap [] := va_S.rf
  have hl := lv_entry ([.ref this, .int a1, .int a2]) (n := 7) (Nat.le_of_ble_eq_true rfl)
  rw [lg_entry_eq]
  generalize (lg_sl ([.ref this, .int a1, .int a2]) ++ List.replicate (7 - (lg_sl ([.ref this, .int a1, .int a2])).length) Slot.unset).toArray = ls at hl ⊢
  have hl : lv_has ls 7 [(0, .ref this), (1, .int a1), (2, .int a2)] := hl
  unfold f_X4_unseenDots at h
  show W p l e rm_X4_unseenDots s m _ below meth c s.heap [] 0 0 _ _
  refine lv_aload_n hx hb dX4_unseenDots_0 rfl (lv_at hl 0 rfl) ?_
  refine lv_iload_n hx hb dX4_unseenDots_1 rfl (lv_at hl 1 rfl) ?_
  rcases obx h with ⟨v1, M2, h1, h⟩ | ⟨ex, M9, h1, h⟩
  rotate_left
  · obtain ⟨hk1, h1⟩ := ifg h1
    cases h
    exact kx_out (kx_V (ci := 4) (As := [.int a1]) (rest := []) hC hE hS hM (mt_X4_stateOf _ hfl E this a1 _ _ _ h1) (gwV qw_619 qw_621 qw_25 qw_39 qw_622) ⟨rfl, rfl, (Nat.le_of_ble_eq_true rfl), (Nat.le_of_ble_eq_true rfl)⟩ dd_X4_stateOf rfl hk1 rfl rfl hl.1 (Nat.le_of_ble_eq_true rfl) dX4_unseenDots_2 ⟨(Nat.le_of_ble_eq_true rfl), (Nat.le_of_ble_eq_true rfl)⟩) hS hout hlocks (Nat.le_of_ble_eq_true rfl) (Nat.le_of_ble_eq_true rfl)
  obtain ⟨hk1, h1⟩ := ifg h1
  refine kx_ok1 (kx_V (ci := 4) (As := [.int a1]) (rest := []) hC hE hS hM (mt_X4_stateOf _ hfl E this a1 _ _ _ h1) (gwV qw_619 qw_621 qw_25 qw_39 qw_622) ⟨rfl, rfl, (Nat.le_of_ble_eq_true rfl), (Nat.le_of_ble_eq_true rfl)⟩ dd_X4_stateOf rfl hk1 rfl rfl hl.1 (Nat.le_of_ble_eq_true rfl) dX4_unseenDots_2 ⟨(Nat.le_of_ble_eq_true rfl), (Nat.le_of_ble_eq_true rfl)⟩) hS (fun H locs hM hS => ?_)
  refine lv_astore_n (lv' := [(3, .ref v1), (0, .ref this), (1, .int a1), (2, .int a2)]) hx hb dX4_unseenDots_5 rfl hl (by decide) rfl (fun ls hl => ?_)
  refine lv_aload_n hx hb dX4_unseenDots_6 rfl (lv_at hl 1 rfl) ?_
  refine lv_iload_n hx hb dX4_unseenDots_7 rfl (lv_at hl 3 rfl) ?_
  rcases obx h with ⟨v3, M4, h1, h⟩ | ⟨ex, M9, h1, h⟩
  rotate_left
  · obtain ⟨hk1, h1⟩ := ifg h1
    cases h
    exact kx_out (kx_V (ci := 4) (As := [.int a2]) (rest := []) hC hE hS hM (mt_X4_stateOf _ hfl E this a2 _ _ _ h1) (gwV qw_619 qw_621 qw_25 qw_39 qw_622) ⟨rfl, rfl, (Nat.le_of_ble_eq_true rfl), (Nat.le_of_ble_eq_true rfl)⟩ dd_X4_stateOf rfl hk1 rfl rfl hl.1 (Nat.le_of_ble_eq_true rfl) dX4_unseenDots_8 ⟨(Nat.le_of_ble_eq_true rfl), (Nat.le_of_ble_eq_true rfl)⟩) hS hout hlocks (Nat.le_of_ble_eq_true rfl) (Nat.le_of_ble_eq_true rfl)
  obtain ⟨hk1, h1⟩ := ifg h1
  refine kx_ok1 (kx_V (ci := 4) (As := [.int a2]) (rest := []) hC hE hS hM (mt_X4_stateOf _ hfl E this a2 _ _ _ h1) (gwV qw_619 qw_621 qw_25 qw_39 qw_622) ⟨rfl, rfl, (Nat.le_of_ble_eq_true rfl), (Nat.le_of_ble_eq_true rfl)⟩ dd_X4_stateOf rfl hk1 rfl rfl hl.1 (Nat.le_of_ble_eq_true rfl) dX4_unseenDots_8 ⟨(Nat.le_of_ble_eq_true rfl), (Nat.le_of_ble_eq_true rfl)⟩) hS (fun H locs hM hS => ?_)
  refine lv_astore (lv' := [(4, .ref v3), (3, .ref v1), (0, .ref this), (1, .int a1), (2, .int a2)]) hx hb dX4_unseenDots_11 hl (by decide) rfl (fun ls hl => ?_)
  refine lv_iconst (v := 0) hx hb dX4_unseenDots_13 (by decide) ?_
  refine lv_istore (lv' := [(5, .int 0), (4, .ref v3), (3, .ref v1), (0, .ref this), (1, .int a1), (2, .int a2)]) hx hb dX4_unseenDots_14 hl (by decide) rfl (fun ls hl => ?_)
  refine lv_iconst (v := 0) hx hb dX4_unseenDots_16 (by decide) ?_
  refine lv_istore (lv' := [(6, .int 0), (5, .int 0), (4, .ref v3), (3, .ref v1), (0, .ref this), (1, .int a1), (2, .int a2)]) hx hb dX4_unseenDots_17 hl (by decide) rfl (fun ls hl => ?_)
  refine W.widen (k := 2) (n := 12) (Nat.le_of_ble_eq_true rfl) (Nat.le_of_ble_eq_true rfl) ?_
  exact tj_X4_unseenDots_19 hfl hout  hC hr hlocks hE  h hM hS (lv_sub hl [3, 2, 1, 0] rfl)

theorem dd_X4_deltaSize : yX4_deltaSize.cls = RX4 ∧ yX4_deltaSize.cls ≠ "java/lang/invoke/MethodHandle" ∧ yX4_deltaSize.cls ≠ "java/lang/invoke/VarHandle" ∧ (parseMethodDescriptor yX4_deltaSize.desc).map (fun d => d.parameters.length) = some 2 := by decide +kernel
abbrev rm_X4_deltaSize : Room := ({ frames := 8, cells := 2, slots := 12, locals := 132 } : Room)
noncomputable def f_X4_deltaSize (this : Nat) (a1 : Int32) (a2 : Int32) (M : Mem) : Option ((Int32 ⊕ Nat) × Mem) :=
  bx (cK 5 this M (f_X4_stateOf this a1 M)) (fun ex M => some ((.inr ex, M))) fun v1 M2 =>
  bx (cK 5 this M2 (f_X4_stateOf this a2 M2)) (fun ex M => some ((.inr ex, M))) fun v3 M4 =>
  bn (cK 3 v1 M4 (f_X2_newsFor v1 v3 M4)) fun v5 M6 =>
  some (.inl v5, M6)
set_option maxHeartbeats 4000000 in
set_option maxRecDepth 100000 in
theorem mt_X4_deltaSize (l : Launch) (hfl : l.stackTraces = false) (E : KEnv) (this : Nat) (a1 : Int32) (a2 : Int32) (M M' : Mem) (r : Int32 ⊕ Nat) (h : f_X4_deltaSize this a1 a2 M = some (r, M')) : vx_Met l yX4_deltaSize (Cond.code yX4_deltaSize cX4_deltaSize 3 (some .int) :: lw_G) rm_X4_deltaSize (cPc E [.ref this, .int a1, .int a2] M) (cQx E (vI r) M') (cXx E (vI r) M') 2 12 (eA E) := by
  refine vx_ofW (cc := cX4_deltaSize) (maxL := 3) (ret := (some .int)) (by decide) rfl ?_
  intro p e s m args below meth c s₁ B hml hout hv
  obtain ⟨rfl, hE, hM⟩ := hv
  have hx := B.exec
  have hb := B.bytes
  have hr := B.returns
  have hts0 := atoms_spec (ws := Cond.code yX4_deltaSize cX4_deltaSize 3 (some .int) :: lw_G) B.pre
  have hts : ∀ w ∈ lw_G, w.before _ s = true := fun w hw => hts0 w (List.mem_cons_of_mem _ hw)
  have hown : s.vm.findClass RX4 = some m.cls := findClass_of_methodNamed B.named
  have hlocks := B.notSynchronized
  have hC : CallFix p m c cX4_deltaSize 3 s _ lw_G RX4 := ⟨hx, hb, hml, hown, hts⟩
  have hS : va_S (eA E) s.heap s.heap [] := va_S.rf
  have hl := lv_entry ([.ref this, .int a1, .int a2]) (n := 3) (Nat.le_of_ble_eq_true rfl)
  rw [lg_entry_eq]
  generalize (lg_sl ([.ref this, .int a1, .int a2]) ++ List.replicate (3 - (lg_sl ([.ref this, .int a1, .int a2])).length) Slot.unset).toArray = ls at hl ⊢
  have hl : lv_has ls 3 [(0, .ref this), (1, .int a1), (2, .int a2)] := hl
  unfold f_X4_deltaSize at h
  show W p l e rm_X4_deltaSize s m _ below meth c s.heap [] 0 0 _ _
  refine lv_aload_n hx hb dX4_deltaSize_0 rfl (lv_at hl 0 rfl) ?_
  refine lv_iload_n hx hb dX4_deltaSize_1 rfl (lv_at hl 1 rfl) ?_
  rcases obx h with ⟨v1, M2, h1, h⟩ | ⟨ex, M9, h1, h⟩
  rotate_left
  · obtain ⟨hk1, h1⟩ := ifg h1
    cases h
    exact kx_out (kx_V (ci := 4) (As := [.int a1]) (rest := []) hC hE hS hM (mt_X4_stateOf _ hfl E this a1 _ _ _ h1) (gwV qw_619 qw_621 qw_25 qw_39 qw_622) ⟨rfl, rfl, (Nat.le_of_ble_eq_true rfl), (Nat.le_of_ble_eq_true rfl)⟩ dd_X4_stateOf rfl hk1 rfl rfl hl.1 (Nat.le_of_ble_eq_true rfl) dX4_deltaSize_2 ⟨(Nat.le_of_ble_eq_true rfl), (Nat.le_of_ble_eq_true rfl)⟩) hS hout hlocks (Nat.le_of_ble_eq_true rfl) (Nat.le_of_ble_eq_true rfl)
  obtain ⟨hk1, h1⟩ := ifg h1
  refine kx_ok1 (kx_V (ci := 4) (As := [.int a1]) (rest := []) hC hE hS hM (mt_X4_stateOf _ hfl E this a1 _ _ _ h1) (gwV qw_619 qw_621 qw_25 qw_39 qw_622) ⟨rfl, rfl, (Nat.le_of_ble_eq_true rfl), (Nat.le_of_ble_eq_true rfl)⟩ dd_X4_stateOf rfl hk1 rfl rfl hl.1 (Nat.le_of_ble_eq_true rfl) dX4_deltaSize_2 ⟨(Nat.le_of_ble_eq_true rfl), (Nat.le_of_ble_eq_true rfl)⟩) hS (fun H locs hM hS => ?_)
  refine lv_aload_n hx hb dX4_deltaSize_5 rfl (lv_at hl 0 rfl) ?_
  refine lv_iload_n hx hb dX4_deltaSize_6 rfl (lv_at hl 2 rfl) ?_
  rcases obx h with ⟨v3, M4, h1, h⟩ | ⟨ex, M9, h1, h⟩
  rotate_left
  · obtain ⟨hk1, h1⟩ := ifg h1
    cases h
    exact kx_out (kx_V (ci := 4) (As := [.int a2]) (rest := [.ref v1]) hC hE hS hM (mt_X4_stateOf _ hfl E this a2 _ _ _ h1) (gwV qw_619 qw_621 qw_25 qw_39 qw_622) ⟨rfl, rfl, (Nat.le_of_ble_eq_true rfl), (Nat.le_of_ble_eq_true rfl)⟩ dd_X4_stateOf rfl hk1 rfl rfl hl.1 (Nat.le_of_ble_eq_true rfl) dX4_deltaSize_7 ⟨(Nat.le_of_ble_eq_true rfl), (Nat.le_of_ble_eq_true rfl)⟩) hS hout hlocks (Nat.le_of_ble_eq_true rfl) (Nat.le_of_ble_eq_true rfl)
  obtain ⟨hk1, h1⟩ := ifg h1
  refine kx_ok1 (kx_V (ci := 4) (As := [.int a2]) (rest := [.ref v1]) hC hE hS hM (mt_X4_stateOf _ hfl E this a2 _ _ _ h1) (gwV qw_619 qw_621 qw_25 qw_39 qw_622) ⟨rfl, rfl, (Nat.le_of_ble_eq_true rfl), (Nat.le_of_ble_eq_true rfl)⟩ dd_X4_stateOf rfl hk1 rfl rfl hl.1 (Nat.le_of_ble_eq_true rfl) dX4_deltaSize_7 ⟨(Nat.le_of_ble_eq_true rfl), (Nat.le_of_ble_eq_true rfl)⟩) hS (fun H locs hM hS => ?_)
  obtain ⟨v5, M6, h1, h⟩ := ob2 h
  obtain ⟨hk1, h1⟩ := ifg h1
  refine kV1 (ci := 2) (As := [.ref v3]) (rest := []) hC hE hS hM (mt_X2_newsFor _ E v1 v3 _ _ _ h1) (gwV qw_1131 qw_1132 qw_1133 qw_41 qw_1134) ⟨rfl, rfl, (Nat.le_of_ble_eq_true rfl), (Nat.le_of_ble_eq_true rfl)⟩ dd_X2_newsFor rfl hk1 rfl rfl hl.1 (Nat.le_of_ble_eq_true rfl) dX4_deltaSize_10 ⟨(Nat.le_of_ble_eq_true rfl), (Nat.le_of_ble_eq_true rfl)⟩ (fun H locs hM hS => ?_)
  cases h
  exact xRet (eI hx hb hr hlocks hM hS dX4_deltaSize_13 (Nat.le_of_ble_eq_true rfl) (Nat.le_of_ble_eq_true rfl))

theorem dd_X4_tagsGained : yX4_tagsGained.cls = RX4 ∧ yX4_tagsGained.cls ≠ "java/lang/invoke/MethodHandle" ∧ yX4_tagsGained.cls ≠ "java/lang/invoke/VarHandle" ∧ (parseMethodDescriptor yX4_tagsGained.desc).map (fun d => d.parameters.length) = some 2 := by decide +kernel
abbrev rm_X4_tagsGained : Room := ({ frames := 8, cells := 2, slots := 12, locals := 132 } : Room)
noncomputable def f_X4_tagsGained (this : Nat) (a1 : Int32) (a2 : Int32) (M : Mem) : Option ((Int32 ⊕ Nat) × Mem) :=
  bx (cK 5 this M (f_X4_stateOf this a1 M)) (fun ex M => some ((.inr ex, M))) fun v1 M2 =>
  bx (cK 5 this M2 (f_X4_stateOf this a2 M2)) (fun ex M => some ((.inr ex, M))) fun v3 M4 =>
  bn (cK 5 this M4 (f_X4_mergedOnTrial this v1 v3 M4)) fun v5 M6 =>
  bn (cK 3 v5 M6 (f_X2_tagsMissingIn v5 v1 M6)) fun v7 M8 =>
  some (.inl v7, M8)
set_option maxHeartbeats 4000000 in
set_option maxRecDepth 100000 in
theorem mt_X4_tagsGained (l : Launch) (hfl : l.stackTraces = false) (E : KEnv) (this : Nat) (a1 : Int32) (a2 : Int32) (M M' : Mem) (r : Int32 ⊕ Nat) (h : f_X4_tagsGained this a1 a2 M = some (r, M')) : vx_Met l yX4_tagsGained (Cond.code yX4_tagsGained cX4_tagsGained 5 (some .int) :: lw_G) rm_X4_tagsGained (cPc E [.ref this, .int a1, .int a2] M) (cQx E (vI r) M') (cXx E (vI r) M') 2 12 (eA E) := by
  refine vx_ofW (cc := cX4_tagsGained) (maxL := 5) (ret := (some .int)) (by decide) rfl ?_
  intro p e s m args below meth c s₁ B hml hout hv
  obtain ⟨rfl, hE, hM⟩ := hv
  have hx := B.exec
  have hb := B.bytes
  have hr := B.returns
  have hts0 := atoms_spec (ws := Cond.code yX4_tagsGained cX4_tagsGained 5 (some .int) :: lw_G) B.pre
  have hts : ∀ w ∈ lw_G, w.before _ s = true := fun w hw => hts0 w (List.mem_cons_of_mem _ hw)
  have hown : s.vm.findClass RX4 = some m.cls := findClass_of_methodNamed B.named
  have hlocks := B.notSynchronized
  have hC : CallFix p m c cX4_tagsGained 5 s _ lw_G RX4 := ⟨hx, hb, hml, hown, hts⟩
  have hS : va_S (eA E) s.heap s.heap [] := va_S.rf
  have hl := lv_entry ([.ref this, .int a1, .int a2]) (n := 5) (Nat.le_of_ble_eq_true rfl)
  rw [lg_entry_eq]
  generalize (lg_sl ([.ref this, .int a1, .int a2]) ++ List.replicate (5 - (lg_sl ([.ref this, .int a1, .int a2])).length) Slot.unset).toArray = ls at hl ⊢
  have hl : lv_has ls 5 [(0, .ref this), (1, .int a1), (2, .int a2)] := hl
  unfold f_X4_tagsGained at h
  show W p l e rm_X4_tagsGained s m _ below meth c s.heap [] 0 0 _ _
  refine lv_aload_n hx hb dX4_tagsGained_0 rfl (lv_at hl 0 rfl) ?_
  refine lv_iload_n hx hb dX4_tagsGained_1 rfl (lv_at hl 1 rfl) ?_
  rcases obx h with ⟨v1, M2, h1, h⟩ | ⟨ex, M9, h1, h⟩
  rotate_left
  · obtain ⟨hk1, h1⟩ := ifg h1
    cases h
    exact kx_out (kx_V (ci := 4) (As := [.int a1]) (rest := []) hC hE hS hM (mt_X4_stateOf _ hfl E this a1 _ _ _ h1) (gwV qw_619 qw_621 qw_25 qw_39 qw_622) ⟨rfl, rfl, (Nat.le_of_ble_eq_true rfl), (Nat.le_of_ble_eq_true rfl)⟩ dd_X4_stateOf rfl hk1 rfl rfl hl.1 (Nat.le_of_ble_eq_true rfl) dX4_tagsGained_2 ⟨(Nat.le_of_ble_eq_true rfl), (Nat.le_of_ble_eq_true rfl)⟩) hS hout hlocks (Nat.le_of_ble_eq_true rfl) (Nat.le_of_ble_eq_true rfl)
  obtain ⟨hk1, h1⟩ := ifg h1
  refine kx_ok1 (kx_V (ci := 4) (As := [.int a1]) (rest := []) hC hE hS hM (mt_X4_stateOf _ hfl E this a1 _ _ _ h1) (gwV qw_619 qw_621 qw_25 qw_39 qw_622) ⟨rfl, rfl, (Nat.le_of_ble_eq_true rfl), (Nat.le_of_ble_eq_true rfl)⟩ dd_X4_stateOf rfl hk1 rfl rfl hl.1 (Nat.le_of_ble_eq_true rfl) dX4_tagsGained_2 ⟨(Nat.le_of_ble_eq_true rfl), (Nat.le_of_ble_eq_true rfl)⟩) hS (fun H locs hM hS => ?_)
  refine lv_astore_n (lv' := [(3, .ref v1), (0, .ref this), (1, .int a1), (2, .int a2)]) hx hb dX4_tagsGained_5 rfl hl (by decide) rfl (fun ls hl => ?_)
  refine lv_aload_n hx hb dX4_tagsGained_6 rfl (lv_at hl 1 rfl) ?_
  refine lv_aload_n hx hb dX4_tagsGained_7 rfl (lv_at hl 0 rfl) ?_
  refine lv_aload_n hx hb dX4_tagsGained_8 rfl (lv_at hl 1 rfl) ?_
  refine lv_iload_n hx hb dX4_tagsGained_9 rfl (lv_at hl 3 rfl) ?_
  rcases obx h with ⟨v3, M4, h1, h⟩ | ⟨ex, M9, h1, h⟩
  rotate_left
  · obtain ⟨hk1, h1⟩ := ifg h1
    cases h
    exact kx_out (kx_V (ci := 4) (As := [.int a2]) (rest := [.ref v1, .ref this]) hC hE hS hM (mt_X4_stateOf _ hfl E this a2 _ _ _ h1) (gwV qw_619 qw_621 qw_25 qw_39 qw_622) ⟨rfl, rfl, (Nat.le_of_ble_eq_true rfl), (Nat.le_of_ble_eq_true rfl)⟩ dd_X4_stateOf rfl hk1 rfl rfl hl.1 (Nat.le_of_ble_eq_true rfl) dX4_tagsGained_10 ⟨(Nat.le_of_ble_eq_true rfl), (Nat.le_of_ble_eq_true rfl)⟩) hS hout hlocks (Nat.le_of_ble_eq_true rfl) (Nat.le_of_ble_eq_true rfl)
  obtain ⟨hk1, h1⟩ := ifg h1
  refine kx_ok1 (kx_V (ci := 4) (As := [.int a2]) (rest := [.ref v1, .ref this]) hC hE hS hM (mt_X4_stateOf _ hfl E this a2 _ _ _ h1) (gwV qw_619 qw_621 qw_25 qw_39 qw_622) ⟨rfl, rfl, (Nat.le_of_ble_eq_true rfl), (Nat.le_of_ble_eq_true rfl)⟩ dd_X4_stateOf rfl hk1 rfl rfl hl.1 (Nat.le_of_ble_eq_true rfl) dX4_tagsGained_10 ⟨(Nat.le_of_ble_eq_true rfl), (Nat.le_of_ble_eq_true rfl)⟩) hS (fun H locs hM hS => ?_)
  obtain ⟨v5, M6, h1, h⟩ := ob2 h
  obtain ⟨hk1, h1⟩ := ifg h1
  refine kV1 (ci := 4) (As := [.ref v1, .ref v3]) (rest := []) hC hE hS hM (mt_X4_mergedOnTrial _ E this v1 v3 _ _ _ h1) (gwV qw_1048 qw_1050 qw_34 qw_39 qw_1051) ⟨rfl, rfl, (Nat.le_of_ble_eq_true rfl), (Nat.le_of_ble_eq_true rfl)⟩ dd_X4_mergedOnTrial rfl hk1 rfl rfl hl.1 (Nat.le_of_ble_eq_true rfl) dX4_tagsGained_13 ⟨(Nat.le_of_ble_eq_true rfl), (Nat.le_of_ble_eq_true rfl)⟩ (fun H locs hM hS => ?_)
  refine lv_astore (lv' := [(4, .ref v5), (3, .ref v1), (0, .ref this), (1, .int a1), (2, .int a2)]) hx hb dX4_tagsGained_16 hl (by decide) rfl (fun ls hl => ?_)
  refine lv_aload hx hb dX4_tagsGained_18 (lv_at hl 0 rfl) ?_
  refine lv_aload_n hx hb dX4_tagsGained_20 rfl (lv_at hl 1 rfl) ?_
  obtain ⟨v7, M8, h1, h⟩ := ob2 h
  obtain ⟨hk1, h1⟩ := ifg h1
  refine kV1 (ci := 2) (As := [.ref v1]) (rest := []) hC hE hS hM (mt_X2_tagsMissingIn _ E v5 v1 _ _ _ h1) (gwV qw_1139 qw_1140 qw_1141 qw_41 qw_1142) ⟨rfl, rfl, (Nat.le_of_ble_eq_true rfl), (Nat.le_of_ble_eq_true rfl)⟩ dd_X2_tagsMissingIn rfl hk1 rfl rfl hl.1 (Nat.le_of_ble_eq_true rfl) dX4_tagsGained_21 ⟨(Nat.le_of_ble_eq_true rfl), (Nat.le_of_ble_eq_true rfl)⟩ (fun H locs hM hS => ?_)
  cases h
  exact xRet (eI hx hb hr hlocks hM hS dX4_tagsGained_24 (Nat.le_of_ble_eq_true rfl) (Nat.le_of_ble_eq_true rfl))

theorem dd_X4_tagsLost : yX4_tagsLost.cls = RX4 ∧ yX4_tagsLost.cls ≠ "java/lang/invoke/MethodHandle" ∧ yX4_tagsLost.cls ≠ "java/lang/invoke/VarHandle" ∧ (parseMethodDescriptor yX4_tagsLost.desc).map (fun d => d.parameters.length) = some 2 := by decide +kernel
abbrev rm_X4_tagsLost : Room := ({ frames := 8, cells := 2, slots := 12, locals := 132 } : Room)
noncomputable def f_X4_tagsLost (this : Nat) (a1 : Int32) (a2 : Int32) (M : Mem) : Option ((Int32 ⊕ Nat) × Mem) :=
  bx (cK 5 this M (f_X4_stateOf this a1 M)) (fun ex M => some ((.inr ex, M))) fun v1 M2 =>
  bx (cK 5 this M2 (f_X4_stateOf this a2 M2)) (fun ex M => some ((.inr ex, M))) fun v3 M4 =>
  bn (cK 5 this M4 (f_X4_mergedOnTrial this v1 v3 M4)) fun v5 M6 =>
  bn (cK 3 v1 M6 (f_X2_tagsMissingIn v1 v5 M6)) fun v7 M8 =>
  some (.inl v7, M8)
set_option maxHeartbeats 4000000 in
set_option maxRecDepth 100000 in
theorem mt_X4_tagsLost (l : Launch) (hfl : l.stackTraces = false) (E : KEnv) (this : Nat) (a1 : Int32) (a2 : Int32) (M M' : Mem) (r : Int32 ⊕ Nat) (h : f_X4_tagsLost this a1 a2 M = some (r, M')) : vx_Met l yX4_tagsLost (Cond.code yX4_tagsLost cX4_tagsLost 5 (some .int) :: lw_G) rm_X4_tagsLost (cPc E [.ref this, .int a1, .int a2] M) (cQx E (vI r) M') (cXx E (vI r) M') 2 12 (eA E) := by
  refine vx_ofW (cc := cX4_tagsLost) (maxL := 5) (ret := (some .int)) (by decide) rfl ?_
  intro p e s m args below meth c s₁ B hml hout hv
  obtain ⟨rfl, hE, hM⟩ := hv
  have hx := B.exec
  have hb := B.bytes
  have hr := B.returns
  have hts0 := atoms_spec (ws := Cond.code yX4_tagsLost cX4_tagsLost 5 (some .int) :: lw_G) B.pre
  have hts : ∀ w ∈ lw_G, w.before _ s = true := fun w hw => hts0 w (List.mem_cons_of_mem _ hw)
  have hown : s.vm.findClass RX4 = some m.cls := findClass_of_methodNamed B.named
  have hlocks := B.notSynchronized
  have hC : CallFix p m c cX4_tagsLost 5 s _ lw_G RX4 := ⟨hx, hb, hml, hown, hts⟩
  have hS : va_S (eA E) s.heap s.heap [] := va_S.rf
  have hl := lv_entry ([.ref this, .int a1, .int a2]) (n := 5) (Nat.le_of_ble_eq_true rfl)
  rw [lg_entry_eq]
  generalize (lg_sl ([.ref this, .int a1, .int a2]) ++ List.replicate (5 - (lg_sl ([.ref this, .int a1, .int a2])).length) Slot.unset).toArray = ls at hl ⊢
  have hl : lv_has ls 5 [(0, .ref this), (1, .int a1), (2, .int a2)] := hl
  unfold f_X4_tagsLost at h
  show W p l e rm_X4_tagsLost s m _ below meth c s.heap [] 0 0 _ _
  refine lv_aload_n hx hb dX4_tagsLost_0 rfl (lv_at hl 0 rfl) ?_
  refine lv_iload_n hx hb dX4_tagsLost_1 rfl (lv_at hl 1 rfl) ?_
  rcases obx h with ⟨v1, M2, h1, h⟩ | ⟨ex, M9, h1, h⟩
  rotate_left
  · obtain ⟨hk1, h1⟩ := ifg h1
    cases h
    exact kx_out (kx_V (ci := 4) (As := [.int a1]) (rest := []) hC hE hS hM (mt_X4_stateOf _ hfl E this a1 _ _ _ h1) (gwV qw_619 qw_621 qw_25 qw_39 qw_622) ⟨rfl, rfl, (Nat.le_of_ble_eq_true rfl), (Nat.le_of_ble_eq_true rfl)⟩ dd_X4_stateOf rfl hk1 rfl rfl hl.1 (Nat.le_of_ble_eq_true rfl) dX4_tagsLost_2 ⟨(Nat.le_of_ble_eq_true rfl), (Nat.le_of_ble_eq_true rfl)⟩) hS hout hlocks (Nat.le_of_ble_eq_true rfl) (Nat.le_of_ble_eq_true rfl)
  obtain ⟨hk1, h1⟩ := ifg h1
  refine kx_ok1 (kx_V (ci := 4) (As := [.int a1]) (rest := []) hC hE hS hM (mt_X4_stateOf _ hfl E this a1 _ _ _ h1) (gwV qw_619 qw_621 qw_25 qw_39 qw_622) ⟨rfl, rfl, (Nat.le_of_ble_eq_true rfl), (Nat.le_of_ble_eq_true rfl)⟩ dd_X4_stateOf rfl hk1 rfl rfl hl.1 (Nat.le_of_ble_eq_true rfl) dX4_tagsLost_2 ⟨(Nat.le_of_ble_eq_true rfl), (Nat.le_of_ble_eq_true rfl)⟩) hS (fun H locs hM hS => ?_)
  refine lv_astore_n (lv' := [(3, .ref v1), (0, .ref this), (1, .int a1), (2, .int a2)]) hx hb dX4_tagsLost_5 rfl hl (by decide) rfl (fun ls hl => ?_)
  refine lv_aload_n hx hb dX4_tagsLost_6 rfl (lv_at hl 1 rfl) ?_
  refine lv_aload_n hx hb dX4_tagsLost_7 rfl (lv_at hl 0 rfl) ?_
  refine lv_aload_n hx hb dX4_tagsLost_8 rfl (lv_at hl 1 rfl) ?_
  refine lv_iload_n hx hb dX4_tagsLost_9 rfl (lv_at hl 3 rfl) ?_
  rcases obx h with ⟨v3, M4, h1, h⟩ | ⟨ex, M9, h1, h⟩
  rotate_left
  · obtain ⟨hk1, h1⟩ := ifg h1
    cases h
    exact kx_out (kx_V (ci := 4) (As := [.int a2]) (rest := [.ref v1, .ref this]) hC hE hS hM (mt_X4_stateOf _ hfl E this a2 _ _ _ h1) (gwV qw_619 qw_621 qw_25 qw_39 qw_622) ⟨rfl, rfl, (Nat.le_of_ble_eq_true rfl), (Nat.le_of_ble_eq_true rfl)⟩ dd_X4_stateOf rfl hk1 rfl rfl hl.1 (Nat.le_of_ble_eq_true rfl) dX4_tagsLost_10 ⟨(Nat.le_of_ble_eq_true rfl), (Nat.le_of_ble_eq_true rfl)⟩) hS hout hlocks (Nat.le_of_ble_eq_true rfl) (Nat.le_of_ble_eq_true rfl)
  obtain ⟨hk1, h1⟩ := ifg h1
  refine kx_ok1 (kx_V (ci := 4) (As := [.int a2]) (rest := [.ref v1, .ref this]) hC hE hS hM (mt_X4_stateOf _ hfl E this a2 _ _ _ h1) (gwV qw_619 qw_621 qw_25 qw_39 qw_622) ⟨rfl, rfl, (Nat.le_of_ble_eq_true rfl), (Nat.le_of_ble_eq_true rfl)⟩ dd_X4_stateOf rfl hk1 rfl rfl hl.1 (Nat.le_of_ble_eq_true rfl) dX4_tagsLost_10 ⟨(Nat.le_of_ble_eq_true rfl), (Nat.le_of_ble_eq_true rfl)⟩) hS (fun H locs hM hS => ?_)
  obtain ⟨v5, M6, h1, h⟩ := ob2 h
  obtain ⟨hk1, h1⟩ := ifg h1
  refine kV1 (ci := 4) (As := [.ref v1, .ref v3]) (rest := []) hC hE hS hM (mt_X4_mergedOnTrial _ E this v1 v3 _ _ _ h1) (gwV qw_1048 qw_1050 qw_34 qw_39 qw_1051) ⟨rfl, rfl, (Nat.le_of_ble_eq_true rfl), (Nat.le_of_ble_eq_true rfl)⟩ dd_X4_mergedOnTrial rfl hk1 rfl rfl hl.1 (Nat.le_of_ble_eq_true rfl) dX4_tagsLost_13 ⟨(Nat.le_of_ble_eq_true rfl), (Nat.le_of_ble_eq_true rfl)⟩ (fun H locs hM hS => ?_)
  refine lv_astore (lv' := [(4, .ref v5), (3, .ref v1), (0, .ref this), (1, .int a1), (2, .int a2)]) hx hb dX4_tagsLost_16 hl (by decide) rfl (fun ls hl => ?_)
  refine lv_aload_n hx hb dX4_tagsLost_18 rfl (lv_at hl 1 rfl) ?_
  refine lv_aload hx hb dX4_tagsLost_19 (lv_at hl 0 rfl) ?_
  obtain ⟨v7, M8, h1, h⟩ := ob2 h
  obtain ⟨hk1, h1⟩ := ifg h1
  refine kV1 (ci := 2) (As := [.ref v5]) (rest := []) hC hE hS hM (mt_X2_tagsMissingIn _ E v1 v5 _ _ _ h1) (gwV qw_1139 qw_1140 qw_1141 qw_41 qw_1142) ⟨rfl, rfl, (Nat.le_of_ble_eq_true rfl), (Nat.le_of_ble_eq_true rfl)⟩ dd_X2_tagsMissingIn rfl hk1 rfl rfl hl.1 (Nat.le_of_ble_eq_true rfl) dX4_tagsLost_21 ⟨(Nat.le_of_ble_eq_true rfl), (Nat.le_of_ble_eq_true rfl)⟩ (fun H locs hM hS => ?_)
  cases h
  exact xRet (eI hx hb hr hlocks hM hS dX4_tagsLost_24 (Nat.le_of_ble_eq_true rfl) (Nat.le_of_ble_eq_true rfl))

theorem dd_X4_allMergedOnTrial : yX4_allMergedOnTrial.cls = RX4 ∧ yX4_allMergedOnTrial.cls ≠ "java/lang/invoke/MethodHandle" ∧ yX4_allMergedOnTrial.cls ≠ "java/lang/invoke/VarHandle" ∧ (parseMethodDescriptor yX4_allMergedOnTrial.desc).map (fun d => d.parameters.length) = some 0 := by decide +kernel
abbrev rm_X4_allMergedOnTrial : Room := ({ frames := 3, cells := 0, slots := 0, locals := 70 } : Room)
noncomputable def fj_X4_allMergedOnTrial_42 (x0 : Nat) (M : Mem) : Option (Nat × Mem) :=
  (gRn 5 138 x0 M).bind fun v6 =>
  some (v6, M)
set_option maxHeartbeats 4000000 in
set_option maxRecDepth 100000 in
theorem tj_X4_allMergedOnTrial_42 {p : Program} {l : Launch} {e : Env} {s : State} {m : MethodId} {args : Array Value} {below : List Frame} {meth : Method} {c : Code} {E : KEnv} {H : Heap} {locs : List Loc} {ls : Array Slot} {x0 : Nat} {M : Mem} {v : Nat} {M' : Mem} (hC : CallFix p m c cX4_allMergedOnTrial 2 s args lw_G RX4) (hr : meth.sig.returnType = (some (.object "OfflineNotes$State"))) (hlocks : meth.locks = false) (hE : EnvOK E s) (h : fj_X4_allMergedOnTrial_42 x0 M = some (v, M')) (hM : MOK E M H) (hS : va_S (eA E) s.heap H locs) (hl : lv_has ls 2 [(0, .ref x0)]) : W p l e rm_X4_allMergedOnTrial s m args below meth c H locs 0 0 (MQ below (cQ E (some (.ref v)) M') args s 0 0 (eA E)) (F0 m 42 ls []) := by
  obtain ⟨hx, hb, hml, hown, hts⟩ := id hC
  unfold fj_X4_allMergedOnTrial_42 at h
  refine lv_aload_n hx hb dX4_allMergedOnTrial_42 rfl (lv_at hl 0 rfl) ?_
  obtain ⟨v6, h1, h⟩ := ob h
  refine rgn_4_10 hx hb hts hown hE hM qw_408 h1 dX4_allMergedOnTrial_43 ?_
  cases h
  exact eR hx hb hr (by first | exact Or.inl ⟨_, rfl⟩ | exact Or.inr ⟨_, rfl⟩) hlocks hM hS dX4_allMergedOnTrial_46 (Nat.le_of_ble_eq_true rfl) (Nat.le_of_ble_eq_true rfl)
noncomputable def fc_X4_allMergedOnTrial_9 (x0 : Nat) (x1 : Int32) (M : Mem) : Option ((Int32 × Mem) ⊕ (Nat × Mem)) :=
  (gRn 5 134 x0 M).bind fun v4 =>
  (gI 4 96 v4 M).bind fun v5 =>
  (if v5 ≤ x1 then
  (fj_X4_allMergedOnTrial_42 x0 M).map Sum.inr
  else
  (gRn 5 138 x0 M).bind fun v7 =>
  (gRn 5 134 x0 M).bind fun v8 =>
  (gRn 4 100 v8 M).bind fun v9 =>
  (gBn 10 v9 x1 M).bind fun v10 =>
  (cK 3 v7 M (f_X2_absorb v7 v10 M)).bind fun M12 =>
  some (.inl (x1 + 1, M12)))
noncomputable def fj_X4_allMergedOnTrial_9 (x0 : Nat) (x1 : Int32) (M : Mem) : Option (Nat × Mem) := loopM (fun q : (Int32 × Mem) => fc_X4_allMergedOnTrial_9 x0 q.1 q.2) FU (x1, M)
set_option maxHeartbeats 4000000 in
set_option maxRecDepth 100000 in
theorem tj_X4_allMergedOnTrial_9 {p : Program} {l : Launch} {e : Env} {s : State} {m : MethodId} {args : Array Value} {below : List Frame} {meth : Method} {c : Code} {E : KEnv} {H : Heap} {locs : List Loc} {ls : Array Slot} {x0 : Nat} {x1 : Int32} {M : Mem} {v : Nat} {M' : Mem} (hC : CallFix p m c cX4_allMergedOnTrial 2 s args lw_G RX4) (hr : meth.sig.returnType = (some (.object "OfflineNotes$State"))) (hlocks : meth.locks = false) (hE : EnvOK E s) (h : fj_X4_allMergedOnTrial_9 x0 x1 M = some (v, M')) (hM : MOK E M H) (hS : va_S (eA E) s.heap H locs) (hl : lv_has ls 2 [(0, .ref x0), (1, .int x1)]) : W p l e rm_X4_allMergedOnTrial s m args below meth c H locs 0 0 (MQ below (cQ E (some (.ref v)) M') args s 0 0 (eA E)) (F0 m 9 ls []) := by
  refine loopM_ind (body := fun q : (Int32 × Mem) => fc_X4_allMergedOnTrial_9 x0 q.1 q.2) (x0 := (v, M')) (Wd := fun q : (Int32 × Mem) => ∀ (H : Heap) (locs : List Loc) (ls : Array Slot), MOK E (q.2) H → va_S (eA E) s.heap H locs → lv_has ls 2 [(0, .ref x0), (1, .int q.1)] → W p l e rm_X4_allMergedOnTrial s m args below meth c H locs 0 0 (MQ below (cQ E (some (.ref v)) M') args s 0 0 (eA E)) (F0 m 9 ls [])) ?_ FU (x1, M) h H locs ls hM hS hl
  clear h hM hS hl H locs ls M x1
  obtain ⟨hx, hb, hml, hown, hts⟩ := id hC
  intro q y1 h hy1 H locs ls hM hS hl
  obtain ⟨x1, M⟩ := q
  have h : fc_X4_allMergedOnTrial_9 x0 x1 M = some y1 := h
  have hM : MOK E M H := hM
  have hl : lv_has ls 2 [(0, .ref x0), (1, .int x1)] := hl
  unfold fc_X4_allMergedOnTrial_9 at h
  show W p l e rm_X4_allMergedOnTrial s m args below meth c H locs _ _ _ _
  refine lv_iload_n hx hb dX4_allMergedOnTrial_9 rfl (lv_at hl 1 rfl) ?_
  refine lv_aload_n hx hb dX4_allMergedOnTrial_10 rfl (lv_at hl 0 rfl) ?_
  obtain ⟨v4, h1, h⟩ := ob h
  refine rgn_4_6 hx hb hts hown hE hM qw_404 h1 dX4_allMergedOnTrial_11 ?_
  obtain ⟨v5, h1, h⟩ := ob h
  refine rg_3_0 hx hb hts hown hE hM qw_89 h1 dX4_allMergedOnTrial_14 ?_
  refine lv_icmp_ge (tgt := 42) hx hb dX4_allMergedOnTrial_17 (by decide) (fun c1 => ?_) (fun c1 => ?_)
  · have h := ifp c1 h
    obtain ⟨z0, h9, rfl⟩ := om h
    have e0 := hy1.2 _ rfl
    subst e0
    have h := h9
    refine W.widen (k := 0) (n := 0) (Nat.le_of_ble_eq_true rfl) (Nat.le_of_ble_eq_true rfl) ?_
    exact tj_X4_allMergedOnTrial_42  hC hr hlocks hE  h hM hS (lv_sub hl [0] rfl)
  · have h := ifn c1 h
    refine lv_aload_n hx hb dX4_allMergedOnTrial_20 rfl (lv_at hl 0 rfl) ?_
    obtain ⟨v7, h1, h⟩ := ob h
    refine rgn_4_10 hx hb hts hown hE hM qw_408 h1 dX4_allMergedOnTrial_21 ?_
    refine lv_aload_n hx hb dX4_allMergedOnTrial_24 rfl (lv_at hl 0 rfl) ?_
    obtain ⟨v8, h1, h⟩ := ob h
    refine rgn_4_6 hx hb hts hown hE hM qw_404 h1 dX4_allMergedOnTrial_25 ?_
    obtain ⟨v9, h1, h⟩ := ob h
    refine rgn_3_4 hx hb hts hown hE hM qw_102 h1 dX4_allMergedOnTrial_28 ?_
    refine lv_iload_n hx hb dX4_allMergedOnTrial_31 rfl (lv_at hl 1 rfl) ?_
    obtain ⟨v10, h1, h⟩ := ob h
    refine r_aldnS hx hb hE hM h1 dX4_allMergedOnTrial_32 ?_
    obtain ⟨M12, h1, h⟩ := ob h
    obtain ⟨hk1, h1⟩ := ifg h1
    refine kV0 (ci := 2) (As := [.ref v10]) (rest := []) hC hE hS hM (mt_X2_absorb _ E v7 v10 _ _ h1) (gwV qw_702 qw_367 qw_368 qw_41 qw_369) ⟨rfl, rfl, (Nat.le_of_ble_eq_true rfl), (Nat.le_of_ble_eq_true rfl)⟩ dd_X2_absorb rfl hk1 rfl rfl hl.1 (Nat.le_of_ble_eq_true rfl) dX4_allMergedOnTrial_33 ⟨(Nat.le_of_ble_eq_true rfl), (Nat.le_of_ble_eq_true rfl)⟩ (fun H locs hM hS => ?_)
    refine lv_iinc (v := x1 + 1) (lv' := [(1, .int (x1 + 1)), (0, .ref x0)]) hx hb dX4_allMergedOnTrial_36 hl (k := 1) rfl rfl (by decide) rfl (fun ls hl => ?_)
    refine lv_goto (tgt := 9) hx hb dX4_allMergedOnTrial_39 (by decide) ?_
    cases h
    exact hy1.1 _ rfl _ _ _ hM hS (lv_sub hl [1, 0] rfl)
noncomputable def f_X4_allMergedOnTrial (this : Nat) (M : Mem) : Option (Nat × Mem) :=
  (gRn 5 138 this M).bind fun v1 =>
  (cK 3 v1 M (f_X2_empty v1 M)).bind fun M3 =>
  fj_X4_allMergedOnTrial_9 this 0 M3
set_option maxHeartbeats 4000000 in
set_option maxRecDepth 100000 in
theorem mt_X4_allMergedOnTrial (l : Launch) (E : KEnv) (this : Nat) (M M' : Mem) (v : Nat) (h : f_X4_allMergedOnTrial this M = some (v, M')) : Met l yX4_allMergedOnTrial (Cond.code yX4_allMergedOnTrial cX4_allMergedOnTrial 2 (some (.object "OfflineNotes$State")) :: lw_G) rm_X4_allMergedOnTrial (cPc E [.ref this] M) (cQ E (some (.ref v)) M') 0 0 (eA E) := by
  refine Met.ofW (cc := cX4_allMergedOnTrial) (maxL := 2) (ret := (some (.object "OfflineNotes$State"))) (by decide) rfl ?_
  intro p e s m args below meth c s₁ B hml hv
  obtain ⟨rfl, hE, hM⟩ := hv
  have hx := B.exec
  have hb := B.bytes
  have hr := B.returns
  have hts0 := atoms_spec (ws := Cond.code yX4_allMergedOnTrial cX4_allMergedOnTrial 2 (some (.object "OfflineNotes$State")) :: lw_G) B.pre
  have hts : ∀ w ∈ lw_G, w.before _ s = true := fun w hw => hts0 w (List.mem_cons_of_mem _ hw)
  have hown : s.vm.findClass RX4 = some m.cls := findClass_of_methodNamed B.named
  have hlocks := B.notSynchronized
  have hC : CallFix p m c cX4_allMergedOnTrial 2 s _ lw_G RX4 := ⟨hx, hb, hml, hown, hts⟩
  have hS : va_S (eA E) s.heap s.heap [] := va_S.rf
  have hl := lv_entry ([.ref this]) (n := 2) (Nat.le_of_ble_eq_true rfl)
  rw [lg_entry_eq]
  generalize (lg_sl ([.ref this]) ++ List.replicate (2 - (lg_sl ([.ref this])).length) Slot.unset).toArray = ls at hl ⊢
  have hl : lv_has ls 2 [(0, .ref this)] := hl
  unfold f_X4_allMergedOnTrial at h
  show W p l e rm_X4_allMergedOnTrial s m _ below meth c s.heap [] 0 0 _ _
  refine lv_aload_n hx hb dX4_allMergedOnTrial_0 rfl (lv_at hl 0 rfl) ?_
  obtain ⟨v1, h1, h⟩ := ob h
  refine rgn_4_10 hx hb hts hown hE hM qw_408 h1 dX4_allMergedOnTrial_1 ?_
  obtain ⟨M3, h1, h⟩ := ob h
  obtain ⟨hk1, h1⟩ := ifg h1
  refine kV0 (ci := 2) (As := []) (rest := []) hC hE hS hM (mt_X2_empty _ E v1 _ _ h1) (gwV qw_1118 qw_293 qw_294 qw_41 qw_295) ⟨rfl, rfl, (Nat.le_of_ble_eq_true rfl), (Nat.le_of_ble_eq_true rfl)⟩ dd_X2_empty rfl hk1 rfl rfl hl.1 (Nat.le_of_ble_eq_true rfl) dX4_allMergedOnTrial_4 ⟨(Nat.le_of_ble_eq_true rfl), (Nat.le_of_ble_eq_true rfl)⟩ (fun H locs hM hS => ?_)
  refine lv_iconst (v := 0) hx hb dX4_allMergedOnTrial_7 (by decide) ?_
  refine lv_istore_n (lv' := [(1, .int 0), (0, .ref this)]) hx hb dX4_allMergedOnTrial_8 rfl hl (by decide) rfl (fun ls hl => ?_)
  refine W.widen (k := 0) (n := 0) (Nat.le_of_ble_eq_true rfl) (Nat.le_of_ble_eq_true rfl) ?_
  exact tj_X4_allMergedOnTrial_9  hC hr hlocks hE  h hM hS (lv_sub hl [1, 0] rfl)

theorem dd_X4_mergedValue : yX4_mergedValue.cls = RX4 ∧ yX4_mergedValue.cls ≠ "java/lang/invoke/MethodHandle" ∧ yX4_mergedValue.cls ≠ "java/lang/invoke/VarHandle" ∧ (parseMethodDescriptor yX4_mergedValue.desc).map (fun d => d.parameters.length) = some 1 := by decide +kernel
abbrev rm_X4_mergedValue : Room := ({ frames := 7, cells := 1, slots := 6, locals := 111 } : Room)
noncomputable def f_X4_mergedValue (this : Nat) (a1 : Int32) (M : Mem) : Option ((Int32 ⊕ Nat) × Mem) :=
  bx (cK 5 this M (f_X4_requireCounter this a1 M)) (fun ex M => some ((.inr ex, M))) fun v1 M2 =>
  bn (cK 5 this M2 (f_X4_allMergedOnTrial this M2)) fun v3 M4 =>
  bn (cK 3 v3 M4 (f_X2_total v3 a1 M4)) fun v5 M6 =>
  some (.inl v5, M6)
set_option maxHeartbeats 4000000 in
set_option maxRecDepth 100000 in
theorem mt_X4_mergedValue (l : Launch) (hfl : l.stackTraces = false) (E : KEnv) (this : Nat) (a1 : Int32) (M M' : Mem) (r : Int32 ⊕ Nat) (h : f_X4_mergedValue this a1 M = some (r, M')) : vx_Met l yX4_mergedValue (Cond.code yX4_mergedValue cX4_mergedValue 2 (some .int) :: lw_G) rm_X4_mergedValue (cPc E [.ref this, .int a1] M) (cQx E (vI r) M') (cXx E (vI r) M') 1 6 (eA E) := by
  refine vx_ofW (cc := cX4_mergedValue) (maxL := 2) (ret := (some .int)) (by decide) rfl ?_
  intro p e s m args below meth c s₁ B hml hout hv
  obtain ⟨rfl, hE, hM⟩ := hv
  have hx := B.exec
  have hb := B.bytes
  have hr := B.returns
  have hts0 := atoms_spec (ws := Cond.code yX4_mergedValue cX4_mergedValue 2 (some .int) :: lw_G) B.pre
  have hts : ∀ w ∈ lw_G, w.before _ s = true := fun w hw => hts0 w (List.mem_cons_of_mem _ hw)
  have hown : s.vm.findClass RX4 = some m.cls := findClass_of_methodNamed B.named
  have hlocks := B.notSynchronized
  have hC : CallFix p m c cX4_mergedValue 2 s _ lw_G RX4 := ⟨hx, hb, hml, hown, hts⟩
  have hS : va_S (eA E) s.heap s.heap [] := va_S.rf
  have hl := lv_entry ([.ref this, .int a1]) (n := 2) (Nat.le_of_ble_eq_true rfl)
  rw [lg_entry_eq]
  generalize (lg_sl ([.ref this, .int a1]) ++ List.replicate (2 - (lg_sl ([.ref this, .int a1])).length) Slot.unset).toArray = ls at hl ⊢
  have hl : lv_has ls 2 [(0, .ref this), (1, .int a1)] := hl
  unfold f_X4_mergedValue at h
  show W p l e rm_X4_mergedValue s m _ below meth c s.heap [] 0 0 _ _
  refine lv_aload_n hx hb dX4_mergedValue_0 rfl (lv_at hl 0 rfl) ?_
  refine lv_iload_n hx hb dX4_mergedValue_1 rfl (lv_at hl 1 rfl) ?_
  rcases obx h with ⟨v1, M2, h1, h⟩ | ⟨ex, M9, h1, h⟩
  rotate_left
  · obtain ⟨hk1, h1⟩ := ifg h1
    cases h
    exact kx_out (kx_V (ci := 4) (As := [.int a1]) (rest := []) hC hE hS hM (mt_X4_requireCounter _ hfl E this a1 _ _ _ h1) (gwV qw_628 qw_630 qw_27 qw_39 qw_631) ⟨rfl, rfl, (Nat.le_of_ble_eq_true rfl), (Nat.le_of_ble_eq_true rfl)⟩ dd_X4_requireCounter rfl hk1 rfl rfl hl.1 (Nat.le_of_ble_eq_true rfl) dX4_mergedValue_2 ⟨(Nat.le_of_ble_eq_true rfl), (Nat.le_of_ble_eq_true rfl)⟩) hS hout hlocks (Nat.le_of_ble_eq_true rfl) (Nat.le_of_ble_eq_true rfl)
  obtain ⟨hk1, h1⟩ := ifg h1
  refine kx_ok0 (kx_V (ci := 4) (As := [.int a1]) (rest := []) hC hE hS hM (mt_X4_requireCounter _ hfl E this a1 _ _ _ h1) (gwV qw_628 qw_630 qw_27 qw_39 qw_631) ⟨rfl, rfl, (Nat.le_of_ble_eq_true rfl), (Nat.le_of_ble_eq_true rfl)⟩ dd_X4_requireCounter rfl hk1 rfl rfl hl.1 (Nat.le_of_ble_eq_true rfl) dX4_mergedValue_2 ⟨(Nat.le_of_ble_eq_true rfl), (Nat.le_of_ble_eq_true rfl)⟩) hS (fun H locs hM hS => ?_)
  refine lv_aload_n hx hb dX4_mergedValue_5 rfl (lv_at hl 0 rfl) ?_
  obtain ⟨v3, M4, h1, h⟩ := ob2 h
  obtain ⟨hk1, h1⟩ := ifg h1
  refine kV1 (ci := 4) (As := []) (rest := []) hC hE hS hM (mt_X4_allMergedOnTrial _ E this _ _ _ h1) (gwV qw_1114 qw_1116 qw_35 qw_39 qw_1117) ⟨rfl, rfl, (Nat.le_of_ble_eq_true rfl), (Nat.le_of_ble_eq_true rfl)⟩ dd_X4_allMergedOnTrial rfl hk1 rfl rfl hl.1 (Nat.le_of_ble_eq_true rfl) dX4_mergedValue_6 ⟨(Nat.le_of_ble_eq_true rfl), (Nat.le_of_ble_eq_true rfl)⟩ (fun H locs hM hS => ?_)
  refine lv_iload_n hx hb dX4_mergedValue_9 rfl (lv_at hl 1 rfl) ?_
  obtain ⟨v5, M6, h1, h⟩ := ob2 h
  obtain ⟨hk1, h1⟩ := ifg h1
  refine kV1 (ci := 2) (As := [.int a1]) (rest := []) hC hE hS hM (mt_X2_total _ E v3 a1 _ _ _ h1) (gwV qw_635 qw_636 qw_637 qw_41 qw_638) ⟨rfl, rfl, (Nat.le_of_ble_eq_true rfl), (Nat.le_of_ble_eq_true rfl)⟩ dd_X2_total rfl hk1 rfl rfl hl.1 (Nat.le_of_ble_eq_true rfl) dX4_mergedValue_10 ⟨(Nat.le_of_ble_eq_true rfl), (Nat.le_of_ble_eq_true rfl)⟩ (fun H locs hM hS => ?_)
  cases h
  exact xRet (eI hx hb hr hlocks hM hS dX4_mergedValue_13 (Nat.le_of_ble_eq_true rfl) (Nat.le_of_ble_eq_true rfl))

theorem dd_X4_mergedTags : yX4_mergedTags.cls = RX4 ∧ yX4_mergedTags.cls ≠ "java/lang/invoke/MethodHandle" ∧ yX4_mergedTags.cls ≠ "java/lang/invoke/VarHandle" ∧ (parseMethodDescriptor yX4_mergedTags.desc).map (fun d => d.parameters.length) = some 0 := by decide +kernel
abbrev rm_X4_mergedTags : Room := ({ frames := 4, cells := 0, slots := 0, locals := 91 } : Room)
noncomputable def f_X4_mergedTags (this : Nat) (M : Mem) : Option (Int32 × Mem) :=
  bn (cK 5 this M (f_X4_allMergedOnTrial this M)) fun v1 M2 =>
  bn (cK 3 v1 M2 (f_X2_presentTags v1 M2)) fun v3 M4 =>
  some (v3, M4)
set_option maxHeartbeats 4000000 in
set_option maxRecDepth 100000 in
theorem mt_X4_mergedTags (l : Launch) (E : KEnv) (this : Nat) (M M' : Mem) (v : Int32) (h : f_X4_mergedTags this M = some (v, M')) : Met l yX4_mergedTags (Cond.code yX4_mergedTags cX4_mergedTags 1 (some .int) :: lw_G) rm_X4_mergedTags (cPc E [.ref this] M) (cQ E (some (.int v)) M') 0 0 (eA E) := by
  refine Met.ofW (cc := cX4_mergedTags) (maxL := 1) (ret := (some .int)) (by decide) rfl ?_
  intro p e s m args below meth c s₁ B hml hv
  obtain ⟨rfl, hE, hM⟩ := hv
  have hx := B.exec
  have hb := B.bytes
  have hr := B.returns
  have hts0 := atoms_spec (ws := Cond.code yX4_mergedTags cX4_mergedTags 1 (some .int) :: lw_G) B.pre
  have hts : ∀ w ∈ lw_G, w.before _ s = true := fun w hw => hts0 w (List.mem_cons_of_mem _ hw)
  have hown : s.vm.findClass RX4 = some m.cls := findClass_of_methodNamed B.named
  have hlocks := B.notSynchronized
  have hC : CallFix p m c cX4_mergedTags 1 s _ lw_G RX4 := ⟨hx, hb, hml, hown, hts⟩
  have hS : va_S (eA E) s.heap s.heap [] := va_S.rf
  have hl := lv_entry ([.ref this]) (n := 1) (Nat.le_of_ble_eq_true rfl)
  rw [lg_entry_eq]
  generalize (lg_sl ([.ref this]) ++ List.replicate (1 - (lg_sl ([.ref this])).length) Slot.unset).toArray = ls at hl ⊢
  have hl : lv_has ls 1 [(0, .ref this)] := hl
  unfold f_X4_mergedTags at h
  show W p l e rm_X4_mergedTags s m _ below meth c s.heap [] 0 0 _ _
  refine lv_aload_n hx hb dX4_mergedTags_0 rfl (lv_at hl 0 rfl) ?_
  obtain ⟨v1, M2, h1, h⟩ := ob2 h
  obtain ⟨hk1, h1⟩ := ifg h1
  refine kV1 (ci := 4) (As := []) (rest := []) hC hE hS hM (mt_X4_allMergedOnTrial _ E this _ _ _ h1) (gwV qw_1114 qw_1116 qw_35 qw_39 qw_1117) ⟨rfl, rfl, (Nat.le_of_ble_eq_true rfl), (Nat.le_of_ble_eq_true rfl)⟩ dd_X4_allMergedOnTrial rfl hk1 rfl rfl hl.1 (Nat.le_of_ble_eq_true rfl) dX4_mergedTags_1 ⟨(Nat.le_of_ble_eq_true rfl), (Nat.le_of_ble_eq_true rfl)⟩ (fun H locs hM hS => ?_)
  obtain ⟨v3, M4, h1, h⟩ := ob2 h
  obtain ⟨hk1, h1⟩ := ifg h1
  refine kV1 (ci := 2) (As := []) (rest := []) hC hE hS hM (mt_X2_presentTags _ E v1 _ _ _ h1) (gwV qw_1094 qw_1095 qw_1096 qw_41 qw_1097) ⟨rfl, rfl, (Nat.le_of_ble_eq_true rfl), (Nat.le_of_ble_eq_true rfl)⟩ dd_X2_presentTags rfl hk1 rfl rfl hl.1 (Nat.le_of_ble_eq_true rfl) dX4_mergedTags_4 ⟨(Nat.le_of_ble_eq_true rfl), (Nat.le_of_ble_eq_true rfl)⟩ (fun H locs hM hS => ?_)
  cases h
  exact eI hx hb hr hlocks hM hS dX4_mergedTags_7 (Nat.le_of_ble_eq_true rfl) (Nat.le_of_ble_eq_true rfl)

theorem dd_X4_mergedConflicts : yX4_mergedConflicts.cls = RX4 ∧ yX4_mergedConflicts.cls ≠ "java/lang/invoke/MethodHandle" ∧ yX4_mergedConflicts.cls ≠ "java/lang/invoke/VarHandle" ∧ (parseMethodDescriptor yX4_mergedConflicts.desc).map (fun d => d.parameters.length) = some 0 := by decide +kernel
abbrev rm_X4_mergedConflicts : Room := ({ frames := 4, cells := 0, slots := 0, locals := 91 } : Room)
noncomputable def f_X4_mergedConflicts (this : Nat) (M : Mem) : Option (Int32 × Mem) :=
  bn (cK 5 this M (f_X4_allMergedOnTrial this M)) fun v1 M2 =>
  bn (cK 3 v1 M2 (f_X2_registersInConflict v1 M2)) fun v3 M4 =>
  some (v3, M4)
set_option maxHeartbeats 4000000 in
set_option maxRecDepth 100000 in
theorem mt_X4_mergedConflicts (l : Launch) (E : KEnv) (this : Nat) (M M' : Mem) (v : Int32) (h : f_X4_mergedConflicts this M = some (v, M')) : Met l yX4_mergedConflicts (Cond.code yX4_mergedConflicts cX4_mergedConflicts 1 (some .int) :: lw_G) rm_X4_mergedConflicts (cPc E [.ref this] M) (cQ E (some (.int v)) M') 0 0 (eA E) := by
  refine Met.ofW (cc := cX4_mergedConflicts) (maxL := 1) (ret := (some .int)) (by decide) rfl ?_
  intro p e s m args below meth c s₁ B hml hv
  obtain ⟨rfl, hE, hM⟩ := hv
  have hx := B.exec
  have hb := B.bytes
  have hr := B.returns
  have hts0 := atoms_spec (ws := Cond.code yX4_mergedConflicts cX4_mergedConflicts 1 (some .int) :: lw_G) B.pre
  have hts : ∀ w ∈ lw_G, w.before _ s = true := fun w hw => hts0 w (List.mem_cons_of_mem _ hw)
  have hown : s.vm.findClass RX4 = some m.cls := findClass_of_methodNamed B.named
  have hlocks := B.notSynchronized
  have hC : CallFix p m c cX4_mergedConflicts 1 s _ lw_G RX4 := ⟨hx, hb, hml, hown, hts⟩
  have hS : va_S (eA E) s.heap s.heap [] := va_S.rf
  have hl := lv_entry ([.ref this]) (n := 1) (Nat.le_of_ble_eq_true rfl)
  rw [lg_entry_eq]
  generalize (lg_sl ([.ref this]) ++ List.replicate (1 - (lg_sl ([.ref this])).length) Slot.unset).toArray = ls at hl ⊢
  have hl : lv_has ls 1 [(0, .ref this)] := hl
  unfold f_X4_mergedConflicts at h
  show W p l e rm_X4_mergedConflicts s m _ below meth c s.heap [] 0 0 _ _
  refine lv_aload_n hx hb dX4_mergedConflicts_0 rfl (lv_at hl 0 rfl) ?_
  obtain ⟨v1, M2, h1, h⟩ := ob2 h
  obtain ⟨hk1, h1⟩ := ifg h1
  refine kV1 (ci := 4) (As := []) (rest := []) hC hE hS hM (mt_X4_allMergedOnTrial _ E this _ _ _ h1) (gwV qw_1114 qw_1116 qw_35 qw_39 qw_1117) ⟨rfl, rfl, (Nat.le_of_ble_eq_true rfl), (Nat.le_of_ble_eq_true rfl)⟩ dd_X4_allMergedOnTrial rfl hk1 rfl rfl hl.1 (Nat.le_of_ble_eq_true rfl) dX4_mergedConflicts_1 ⟨(Nat.le_of_ble_eq_true rfl), (Nat.le_of_ble_eq_true rfl)⟩ (fun H locs hM hS => ?_)
  obtain ⟨v3, M4, h1, h⟩ := ob2 h
  obtain ⟨hk1, h1⟩ := ifg h1
  refine kV1 (ci := 2) (As := []) (rest := []) hC hE hS hM (mt_X2_registersInConflict _ E v1 _ _ _ h1) (gwV qw_1102 qw_1103 qw_1104 qw_41 qw_1105) ⟨rfl, rfl, (Nat.le_of_ble_eq_true rfl), (Nat.le_of_ble_eq_true rfl)⟩ dd_X2_registersInConflict rfl hk1 rfl rfl hl.1 (Nat.le_of_ble_eq_true rfl) dX4_mergedConflicts_4 ⟨(Nat.le_of_ble_eq_true rfl), (Nat.le_of_ble_eq_true rfl)⟩ (fun H locs hM hS => ?_)
  cases h
  exact eI hx hb hr hlocks hM hS dX4_mergedConflicts_7 (Nat.le_of_ble_eq_true rfl) (Nat.le_of_ble_eq_true rfl)

theorem dd_X4_convergenceErrors : yX4_convergenceErrors.cls = RX4 ∧ yX4_convergenceErrors.cls ≠ "java/lang/invoke/MethodHandle" ∧ yX4_convergenceErrors.cls ≠ "java/lang/invoke/VarHandle" ∧ (parseMethodDescriptor yX4_convergenceErrors.desc).map (fun d => d.parameters.length) = some 0 := by decide +kernel
abbrev rm_X4_convergenceErrors : Room := ({ frames := 4, cells := 0, slots := 0, locals := 91 } : Room)
noncomputable def fj_X4_convergenceErrors_60 (s0 : Int32) (M : Mem) : Option (Int32 × Mem) :=
  some (s0, M)
set_option maxHeartbeats 4000000 in
set_option maxRecDepth 100000 in
theorem tj_X4_convergenceErrors_60 {p : Program} {l : Launch} {e : Env} {s : State} {m : MethodId} {args : Array Value} {below : List Frame} {meth : Method} {c : Code} {E : KEnv} {H : Heap} {locs : List Loc} {ls : Array Slot} {s0 : Int32} {M : Mem} {v : Int32} {M' : Mem} (hC : CallFix p m c cX4_convergenceErrors 4 s args lw_G RX4) (hr : meth.sig.returnType = (some .int)) (hlocks : meth.locks = false) (hE : EnvOK E s) (h : fj_X4_convergenceErrors_60 s0 M = some (v, M')) (hM : MOK E M H) (hS : va_S (eA E) s.heap H locs) (hl : lv_has ls 4 []) : W p l e rm_X4_convergenceErrors s m args below meth c H locs 0 0 (MQ below (cQ E (some (.int v)) M') args s 0 0 (eA E)) (F0 m 60 ls [.int s0]) := by
  obtain ⟨hx, hb, hml, hown, hts⟩ := id hC
  unfold fj_X4_convergenceErrors_60 at h
  cases h
  exact eI hx hb hr hlocks hM hS dX4_convergenceErrors_60 (Nat.le_of_ble_eq_true rfl) (Nat.le_of_ble_eq_true rfl)
noncomputable def fj_X4_convergenceErrors_47 (x1 : Nat) (x2 : Nat) (M : Mem) : Option (Int32 × Mem) :=
  bn (cK 3 x1 M (f_X2_sameAs x1 x2 M)) fun v8 M9 =>
  (if v8 = 0 then
  fj_X4_convergenceErrors_60 1 M9
  else
  fj_X4_convergenceErrors_60 0 M9)
set_option maxHeartbeats 4000000 in
set_option maxRecDepth 100000 in
theorem tj_X4_convergenceErrors_47 {p : Program} {l : Launch} {e : Env} {s : State} {m : MethodId} {args : Array Value} {below : List Frame} {meth : Method} {c : Code} {E : KEnv} {H : Heap} {locs : List Loc} {ls : Array Slot} {x1 : Nat} {x2 : Nat} {M : Mem} {v : Int32} {M' : Mem} (hC : CallFix p m c cX4_convergenceErrors 4 s args lw_G RX4) (hr : meth.sig.returnType = (some .int)) (hlocks : meth.locks = false) (hE : EnvOK E s) (h : fj_X4_convergenceErrors_47 x1 x2 M = some (v, M')) (hM : MOK E M H) (hS : va_S (eA E) s.heap H locs) (hl : lv_has ls 4 [(1, .ref x1), (2, .ref x2)]) : W p l e rm_X4_convergenceErrors s m args below meth c H locs 0 0 (MQ below (cQ E (some (.int v)) M') args s 0 0 (eA E)) (F0 m 47 ls []) := by
  obtain ⟨hx, hb, hml, hown, hts⟩ := id hC
  unfold fj_X4_convergenceErrors_47 at h
  refine lv_aload_n hx hb dX4_convergenceErrors_47 rfl (lv_at hl 0 rfl) ?_
  refine lv_aload_n hx hb dX4_convergenceErrors_48 rfl (lv_at hl 1 rfl) ?_
  obtain ⟨v8, M9, h1, h⟩ := ob2 h
  obtain ⟨hk1, h1⟩ := ifg h1
  refine kV1 (ci := 2) (As := [.ref x2]) (rest := []) hC hE hS hM (mt_X2_sameAs _ E x1 x2 _ _ _ h1) (gwV qw_703 qw_704 qw_705 qw_41 qw_706) ⟨rfl, rfl, (Nat.le_of_ble_eq_true rfl), (Nat.le_of_ble_eq_true rfl)⟩ dd_X2_sameAs rfl hk1 rfl rfl hl.1 (Nat.le_of_ble_eq_true rfl) dX4_convergenceErrors_49 ⟨(Nat.le_of_ble_eq_true rfl), (Nat.le_of_ble_eq_true rfl)⟩ (fun H locs hM hS => ?_)
  refine lv_if_eq (tgt := 59) hx hb dX4_convergenceErrors_52 (by decide) (fun c1 => ?_) (fun c1 => ?_)
  · have h := ifp c1 h
    refine lv_iconst (v := 1) hx hb dX4_convergenceErrors_59 (by decide) ?_
    refine W.widen (k := 0) (n := 0) (Nat.le_of_ble_eq_true rfl) (Nat.le_of_ble_eq_true rfl) ?_
    exact tj_X4_convergenceErrors_60  hC hr hlocks hE  h hM hS (lv_sub hl [] rfl)
  · have h := ifn c1 h
    refine lv_iconst (v := 0) hx hb dX4_convergenceErrors_55 (by decide) ?_
    refine lv_goto (tgt := 60) hx hb dX4_convergenceErrors_56 (by decide) ?_
    refine W.widen (k := 0) (n := 0) (Nat.le_of_ble_eq_true rfl) (Nat.le_of_ble_eq_true rfl) ?_
    exact tj_X4_convergenceErrors_60  hC hr hlocks hE  h hM hS (lv_sub hl [] rfl)
noncomputable def fc_X4_convergenceErrors_24 (x0 : Nat) (x1 : Nat) (x2 : Nat) (x3 : Int32) (M : Mem) : Option ((Int32 × Mem) ⊕ (Int32 × Mem)) :=
  (if x3 < 0 then
  (fj_X4_convergenceErrors_47 x1 x2 M).map Sum.inr
  else
  (gRn 5 134 x0 M).bind fun v10 =>
  (gRn 4 100 v10 M).bind fun v11 =>
  (gBn 10 v11 x3 M).bind fun v12 =>
  (cK 3 x2 M (f_X2_absorb x2 v12 M)).bind fun M14 =>
  some (.inl (x3 + (-1), M14)))
noncomputable def fj_X4_convergenceErrors_24 (x0 : Nat) (x1 : Nat) (x2 : Nat) (x3 : Int32) (M : Mem) : Option (Int32 × Mem) := loopM (fun q : (Int32 × Mem) => fc_X4_convergenceErrors_24 x0 x1 x2 q.1 q.2) FU (x3, M)
set_option maxHeartbeats 4000000 in
set_option maxRecDepth 100000 in
theorem tj_X4_convergenceErrors_24 {p : Program} {l : Launch} {e : Env} {s : State} {m : MethodId} {args : Array Value} {below : List Frame} {meth : Method} {c : Code} {E : KEnv} {H : Heap} {locs : List Loc} {ls : Array Slot} {x0 : Nat} {x1 : Nat} {x2 : Nat} {x3 : Int32} {M : Mem} {v : Int32} {M' : Mem} (hC : CallFix p m c cX4_convergenceErrors 4 s args lw_G RX4) (hr : meth.sig.returnType = (some .int)) (hlocks : meth.locks = false) (hE : EnvOK E s) (h : fj_X4_convergenceErrors_24 x0 x1 x2 x3 M = some (v, M')) (hM : MOK E M H) (hS : va_S (eA E) s.heap H locs) (hl : lv_has ls 4 [(0, .ref x0), (1, .ref x1), (2, .ref x2), (3, .int x3)]) : W p l e rm_X4_convergenceErrors s m args below meth c H locs 0 0 (MQ below (cQ E (some (.int v)) M') args s 0 0 (eA E)) (F0 m 24 ls []) := by
  refine loopM_ind (body := fun q : (Int32 × Mem) => fc_X4_convergenceErrors_24 x0 x1 x2 q.1 q.2) (x0 := (v, M')) (Wd := fun q : (Int32 × Mem) => ∀ (H : Heap) (locs : List Loc) (ls : Array Slot), MOK E (q.2) H → va_S (eA E) s.heap H locs → lv_has ls 4 [(0, .ref x0), (1, .ref x1), (2, .ref x2), (3, .int q.1)] → W p l e rm_X4_convergenceErrors s m args below meth c H locs 0 0 (MQ below (cQ E (some (.int v)) M') args s 0 0 (eA E)) (F0 m 24 ls [])) ?_ FU (x3, M) h H locs ls hM hS hl
  clear h hM hS hl H locs ls M x3
  obtain ⟨hx, hb, hml, hown, hts⟩ := id hC
  intro q y1 h hy1 H locs ls hM hS hl
  obtain ⟨x3, M⟩ := q
  have h : fc_X4_convergenceErrors_24 x0 x1 x2 x3 M = some y1 := h
  have hM : MOK E M H := hM
  have hl : lv_has ls 4 [(0, .ref x0), (1, .ref x1), (2, .ref x2), (3, .int x3)] := hl
  unfold fc_X4_convergenceErrors_24 at h
  show W p l e rm_X4_convergenceErrors s m args below meth c H locs _ _ _ _
  refine lv_iload_n hx hb dX4_convergenceErrors_24 rfl (lv_at hl 3 rfl) ?_
  refine lv_if_lt (tgt := 47) hx hb dX4_convergenceErrors_25 (by decide) (fun c1 => ?_) (fun c1 => ?_)
  · have h := ifp c1 h
    obtain ⟨z0, h9, rfl⟩ := om h
    have e0 := hy1.2 _ rfl
    subst e0
    have h := h9
    refine W.widen (k := 0) (n := 0) (Nat.le_of_ble_eq_true rfl) (Nat.le_of_ble_eq_true rfl) ?_
    exact tj_X4_convergenceErrors_47  hC hr hlocks hE  h hM hS (lv_sub hl [1, 2] rfl)
  · have h := ifn c1 h
    refine lv_aload_n hx hb dX4_convergenceErrors_28 rfl (lv_at hl 2 rfl) ?_
    refine lv_aload_n hx hb dX4_convergenceErrors_29 rfl (lv_at hl 0 rfl) ?_
    obtain ⟨v10, h1, h⟩ := ob h
    refine rgn_4_6 hx hb hts hown hE hM qw_404 h1 dX4_convergenceErrors_30 ?_
    obtain ⟨v11, h1, h⟩ := ob h
    refine rgn_3_4 hx hb hts hown hE hM qw_102 h1 dX4_convergenceErrors_33 ?_
    refine lv_iload_n hx hb dX4_convergenceErrors_36 rfl (lv_at hl 3 rfl) ?_
    obtain ⟨v12, h1, h⟩ := ob h
    refine r_aldnS hx hb hE hM h1 dX4_convergenceErrors_37 ?_
    obtain ⟨M14, h1, h⟩ := ob h
    obtain ⟨hk1, h1⟩ := ifg h1
    refine kV0 (ci := 2) (As := [.ref v12]) (rest := []) hC hE hS hM (mt_X2_absorb _ E x2 v12 _ _ h1) (gwV qw_702 qw_367 qw_368 qw_41 qw_369) ⟨rfl, rfl, (Nat.le_of_ble_eq_true rfl), (Nat.le_of_ble_eq_true rfl)⟩ dd_X2_absorb rfl hk1 rfl rfl hl.1 (Nat.le_of_ble_eq_true rfl) dX4_convergenceErrors_38 ⟨(Nat.le_of_ble_eq_true rfl), (Nat.le_of_ble_eq_true rfl)⟩ (fun H locs hM hS => ?_)
    refine lv_iinc (v := x3 + (-1)) (lv' := [(3, .int (x3 + (-1))), (0, .ref x0), (1, .ref x1), (2, .ref x2)]) hx hb dX4_convergenceErrors_41 hl (k := 3) rfl rfl (by decide) rfl (fun ls hl => ?_)
    refine lv_goto (tgt := 24) hx hb dX4_convergenceErrors_44 (by decide) ?_
    cases h
    exact hy1.1 _ rfl _ _ _ hM hS (lv_sub hl [1, 2, 3, 0] rfl)
noncomputable def f_X4_convergenceErrors (this : Nat) (M : Mem) : Option (Int32 × Mem) :=
  bn (cK 5 this M (f_X4_allMergedOnTrial this M)) fun v1 M2 =>
  (gRn 5 139 this M2).bind fun v3 =>
  (cK 3 v3 M2 (f_X2_empty v3 M2)).bind fun M5 =>
  (gRn 5 134 this M5).bind fun v6 =>
  (gI 4 96 v6 M5).bind fun v7 =>
  fj_X4_convergenceErrors_24 this v1 v3 (v7 - 1) M5
set_option maxHeartbeats 4000000 in
set_option maxRecDepth 100000 in
theorem mt_X4_convergenceErrors (l : Launch) (E : KEnv) (this : Nat) (M M' : Mem) (v : Int32) (h : f_X4_convergenceErrors this M = some (v, M')) : Met l yX4_convergenceErrors (Cond.code yX4_convergenceErrors cX4_convergenceErrors 4 (some .int) :: lw_G) rm_X4_convergenceErrors (cPc E [.ref this] M) (cQ E (some (.int v)) M') 0 0 (eA E) := by
  refine Met.ofW (cc := cX4_convergenceErrors) (maxL := 4) (ret := (some .int)) (by decide) rfl ?_
  intro p e s m args below meth c s₁ B hml hv
  obtain ⟨rfl, hE, hM⟩ := hv
  have hx := B.exec
  have hb := B.bytes
  have hr := B.returns
  have hts0 := atoms_spec (ws := Cond.code yX4_convergenceErrors cX4_convergenceErrors 4 (some .int) :: lw_G) B.pre
  have hts : ∀ w ∈ lw_G, w.before _ s = true := fun w hw => hts0 w (List.mem_cons_of_mem _ hw)
  have hown : s.vm.findClass RX4 = some m.cls := findClass_of_methodNamed B.named
  have hlocks := B.notSynchronized
  have hC : CallFix p m c cX4_convergenceErrors 4 s _ lw_G RX4 := ⟨hx, hb, hml, hown, hts⟩
  have hS : va_S (eA E) s.heap s.heap [] := va_S.rf
  have hl := lv_entry ([.ref this]) (n := 4) (Nat.le_of_ble_eq_true rfl)
  rw [lg_entry_eq]
  generalize (lg_sl ([.ref this]) ++ List.replicate (4 - (lg_sl ([.ref this])).length) Slot.unset).toArray = ls at hl ⊢
  have hl : lv_has ls 4 [(0, .ref this)] := hl
  unfold f_X4_convergenceErrors at h
  show W p l e rm_X4_convergenceErrors s m _ below meth c s.heap [] 0 0 _ _
  refine lv_aload_n hx hb dX4_convergenceErrors_0 rfl (lv_at hl 0 rfl) ?_
  obtain ⟨v1, M2, h1, h⟩ := ob2 h
  obtain ⟨hk1, h1⟩ := ifg h1
  refine kV1 (ci := 4) (As := []) (rest := []) hC hE hS hM (mt_X4_allMergedOnTrial _ E this _ _ _ h1) (gwV qw_1114 qw_1116 qw_35 qw_39 qw_1117) ⟨rfl, rfl, (Nat.le_of_ble_eq_true rfl), (Nat.le_of_ble_eq_true rfl)⟩ dd_X4_allMergedOnTrial rfl hk1 rfl rfl hl.1 (Nat.le_of_ble_eq_true rfl) dX4_convergenceErrors_1 ⟨(Nat.le_of_ble_eq_true rfl), (Nat.le_of_ble_eq_true rfl)⟩ (fun H locs hM hS => ?_)
  refine lv_astore_n (lv' := [(1, .ref v1), (0, .ref this)]) hx hb dX4_convergenceErrors_4 rfl hl (by decide) rfl (fun ls hl => ?_)
  refine lv_aload_n hx hb dX4_convergenceErrors_5 rfl (lv_at hl 1 rfl) ?_
  obtain ⟨v3, h1, h⟩ := ob h
  refine rgn_4_11 hx hb hts hown hE hM qw_409 h1 dX4_convergenceErrors_6 ?_
  refine lv_astore_n (lv' := [(2, .ref v3), (1, .ref v1), (0, .ref this)]) hx hb dX4_convergenceErrors_9 rfl hl (by decide) rfl (fun ls hl => ?_)
  refine lv_aload_n hx hb dX4_convergenceErrors_10 rfl (lv_at hl 0 rfl) ?_
  obtain ⟨M5, h1, h⟩ := ob h
  obtain ⟨hk1, h1⟩ := ifg h1
  refine kV0 (ci := 2) (As := []) (rest := []) hC hE hS hM (mt_X2_empty _ E v3 _ _ h1) (gwV qw_1118 qw_293 qw_294 qw_41 qw_295) ⟨rfl, rfl, (Nat.le_of_ble_eq_true rfl), (Nat.le_of_ble_eq_true rfl)⟩ dd_X2_empty rfl hk1 rfl rfl hl.1 (Nat.le_of_ble_eq_true rfl) dX4_convergenceErrors_11 ⟨(Nat.le_of_ble_eq_true rfl), (Nat.le_of_ble_eq_true rfl)⟩ (fun H locs hM hS => ?_)
  refine lv_aload_n hx hb dX4_convergenceErrors_14 rfl (lv_at hl 2 rfl) ?_
  obtain ⟨v6, h1, h⟩ := ob h
  refine rgn_4_6 hx hb hts hown hE hM qw_404 h1 dX4_convergenceErrors_15 ?_
  obtain ⟨v7, h1, h⟩ := ob h
  refine rg_3_0 hx hb hts hown hE hM qw_89 h1 dX4_convergenceErrors_18 ?_
  refine lv_iconst (v := 1) hx hb dX4_convergenceErrors_21 (by decide) ?_
  refine lv_isub hx hb dX4_convergenceErrors_22 ?_
  refine lv_istore_n (lv' := [(3, .int (v7 - 1)), (2, .ref v3), (1, .ref v1), (0, .ref this)]) hx hb dX4_convergenceErrors_23 rfl hl (by decide) rfl (fun ls hl => ?_)
  refine W.widen (k := 0) (n := 0) (Nat.le_of_ble_eq_true rfl) (Nat.le_of_ble_eq_true rfl) ?_
  exact tj_X4_convergenceErrors_24  hC hr hlocks hE  h hM hS (lv_sub hl [3, 2, 1, 0] rfl)

theorem dd_X4_meanTags : yX4_meanTags.cls = RX4 ∧ yX4_meanTags.cls ≠ "java/lang/invoke/MethodHandle" ∧ yX4_meanTags.cls ≠ "java/lang/invoke/VarHandle" ∧ (parseMethodDescriptor yX4_meanTags.desc).map (fun d => d.parameters.length) = some 0 := by decide +kernel
abbrev rm_X4_meanTags : Room := ({ frames := 3, cells := 0, slots := 0, locals := 66 } : Room)
noncomputable def fj_X4_meanTags_36 (x0 : Nat) (x1 : Int32) (M : Mem) : Option (UInt64 × Mem) :=
  (gRn 5 134 x0 M).bind fun v3 =>
  (gI 4 96 v3 M).bind fun v4 =>
  (nd (FP.ddiv (FP.i2d x1) (FP.i2d v4))).bind fun v5 =>
  some (v5, M)
set_option maxHeartbeats 4000000 in
set_option maxRecDepth 100000 in
theorem tj_X4_meanTags_36 {p : Program} {l : Launch} {e : Env} {s : State} {m : MethodId} {args : Array Value} {below : List Frame} {meth : Method} {c : Code} {E : KEnv} {H : Heap} {locs : List Loc} {ls : Array Slot} {x0 : Nat} {x1 : Int32} {M : Mem} {v : UInt64} {M' : Mem} (hC : CallFix p m c cX4_meanTags 3 s args lw_G RX4) (hr : meth.sig.returnType = (some .double)) (hlocks : meth.locks = false) (hE : EnvOK E s) (h : fj_X4_meanTags_36 x0 x1 M = some (v, M')) (hM : MOK E M H) (hS : va_S (eA E) s.heap H locs) (hl : lv_has ls 3 [(0, .ref x0), (1, .int x1)]) : W p l e rm_X4_meanTags s m args below meth c H locs 0 0 (MQ below (cQ E (some (.double v)) M') args s 0 0 (eA E)) (F0 m 36 ls []) := by
  obtain ⟨hx, hb, hml, hown, hts⟩ := id hC
  unfold fj_X4_meanTags_36 at h
  refine lv_iload_n hx hb dX4_meanTags_36 rfl (lv_at hl 1 rfl) ?_
  refine lv_i2d hx hb dX4_meanTags_37 ?_
  refine lv_aload_n hx hb dX4_meanTags_38 rfl (lv_at hl 0 rfl) ?_
  obtain ⟨v3, h1, h⟩ := ob h
  refine rgn_4_6 hx hb hts hown hE hM qw_404 h1 dX4_meanTags_39 ?_
  obtain ⟨v4, h1, h⟩ := ob h
  refine rg_3_0 hx hb hts hown hE hM qw_89 h1 dX4_meanTags_42 ?_
  refine lv_i2d hx hb dX4_meanTags_45 ?_
  obtain ⟨v5, h1, h⟩ := ob h
  obtain ⟨hn, e1⟩ := ifs h1
  refine lv_ddiv hx hb dX4_meanTags_46 hn ?_
  rw [← e1]
  cases h
  exact eDb hx hb hr hlocks hM hS dX4_meanTags_47 (Nat.le_of_ble_eq_true rfl) (Nat.le_of_ble_eq_true rfl)
noncomputable def fc_X4_meanTags_4 (x0 : Nat) (x1 : Int32) (x2 : Int32) (M : Mem) : Option ((Int32 × Int32 × Mem) ⊕ (UInt64 × Mem)) :=
  (gRn 5 134 x0 M).bind fun v1 =>
  (gI 4 96 v1 M).bind fun v2 =>
  (if v2 ≤ x2 then
  (fj_X4_meanTags_36 x0 x1 M).map Sum.inr
  else
  (gRn 5 134 x0 M).bind fun v6 =>
  (gRn 4 100 v6 M).bind fun v7 =>
  (gBn 10 v7 x2 M).bind fun v8 =>
  bn (cK 3 v8 M (f_X2_presentTags v8 M)) fun v9 M10 =>
  some (.inl (x1 + v9, x2 + 1, M10)))
noncomputable def fj_X4_meanTags_4 (x0 : Nat) (x1 : Int32) (x2 : Int32) (M : Mem) : Option (UInt64 × Mem) := loopM (fun q : (Int32 × Int32 × Mem) => fc_X4_meanTags_4 x0 q.1 q.2.1 q.2.2) FU (x1, x2, M)
set_option maxHeartbeats 4000000 in
set_option maxRecDepth 100000 in
theorem tj_X4_meanTags_4 {p : Program} {l : Launch} {e : Env} {s : State} {m : MethodId} {args : Array Value} {below : List Frame} {meth : Method} {c : Code} {E : KEnv} {H : Heap} {locs : List Loc} {ls : Array Slot} {x0 : Nat} {x1 : Int32} {x2 : Int32} {M : Mem} {v : UInt64} {M' : Mem} (hC : CallFix p m c cX4_meanTags 3 s args lw_G RX4) (hr : meth.sig.returnType = (some .double)) (hlocks : meth.locks = false) (hE : EnvOK E s) (h : fj_X4_meanTags_4 x0 x1 x2 M = some (v, M')) (hM : MOK E M H) (hS : va_S (eA E) s.heap H locs) (hl : lv_has ls 3 [(0, .ref x0), (1, .int x1), (2, .int x2)]) : W p l e rm_X4_meanTags s m args below meth c H locs 0 0 (MQ below (cQ E (some (.double v)) M') args s 0 0 (eA E)) (F0 m 4 ls []) := by
  refine loopM_ind (body := fun q : (Int32 × Int32 × Mem) => fc_X4_meanTags_4 x0 q.1 q.2.1 q.2.2) (x0 := (v, M')) (Wd := fun q : (Int32 × Int32 × Mem) => ∀ (H : Heap) (locs : List Loc) (ls : Array Slot), MOK E (q.2.2) H → va_S (eA E) s.heap H locs → lv_has ls 3 [(0, .ref x0), (1, .int q.1), (2, .int q.2.1)] → W p l e rm_X4_meanTags s m args below meth c H locs 0 0 (MQ below (cQ E (some (.double v)) M') args s 0 0 (eA E)) (F0 m 4 ls [])) ?_ FU (x1, x2, M) h H locs ls hM hS hl
  clear h hM hS hl H locs ls M x1 x2
  obtain ⟨hx, hb, hml, hown, hts⟩ := id hC
  intro q y1 h hy1 H locs ls hM hS hl
  obtain ⟨x1, x2, M⟩ := q
  have h : fc_X4_meanTags_4 x0 x1 x2 M = some y1 := h
  have hM : MOK E M H := hM
  have hl : lv_has ls 3 [(0, .ref x0), (1, .int x1), (2, .int x2)] := hl
  unfold fc_X4_meanTags_4 at h
  show W p l e rm_X4_meanTags s m args below meth c H locs _ _ _ _
  refine lv_iload_n hx hb dX4_meanTags_4 rfl (lv_at hl 2 rfl) ?_
  refine lv_aload_n hx hb dX4_meanTags_5 rfl (lv_at hl 0 rfl) ?_
  obtain ⟨v1, h1, h⟩ := ob h
  refine rgn_4_6 hx hb hts hown hE hM qw_404 h1 dX4_meanTags_6 ?_
  obtain ⟨v2, h1, h⟩ := ob h
  refine rg_3_0 hx hb hts hown hE hM qw_89 h1 dX4_meanTags_9 ?_
  refine lv_icmp_ge (tgt := 36) hx hb dX4_meanTags_12 (by decide) (fun c1 => ?_) (fun c1 => ?_)
  · have h := ifp c1 h
    obtain ⟨z0, h9, rfl⟩ := om h
    have e0 := hy1.2 _ rfl
    subst e0
    have h := h9
    refine W.widen (k := 0) (n := 0) (Nat.le_of_ble_eq_true rfl) (Nat.le_of_ble_eq_true rfl) ?_
    exact tj_X4_meanTags_36  hC hr hlocks hE  h hM hS (lv_sub hl [0, 1] rfl)
  · have h := ifn c1 h
    refine lv_iload_n hx hb dX4_meanTags_15 rfl (lv_at hl 1 rfl) ?_
    refine lv_aload_n hx hb dX4_meanTags_16 rfl (lv_at hl 0 rfl) ?_
    obtain ⟨v6, h1, h⟩ := ob h
    refine rgn_4_6 hx hb hts hown hE hM qw_404 h1 dX4_meanTags_17 ?_
    obtain ⟨v7, h1, h⟩ := ob h
    refine rgn_3_4 hx hb hts hown hE hM qw_102 h1 dX4_meanTags_20 ?_
    refine lv_iload_n hx hb dX4_meanTags_23 rfl (lv_at hl 2 rfl) ?_
    obtain ⟨v8, h1, h⟩ := ob h
    refine r_aldnS hx hb hE hM h1 dX4_meanTags_24 ?_
    obtain ⟨v9, M10, h1, h⟩ := ob2 h
    obtain ⟨hk1, h1⟩ := ifg h1
    refine kV1 (ci := 2) (As := []) (rest := [.int x1]) hC hE hS hM (mt_X2_presentTags _ E v8 _ _ _ h1) (gwV qw_1094 qw_1095 qw_1096 qw_41 qw_1097) ⟨rfl, rfl, (Nat.le_of_ble_eq_true rfl), (Nat.le_of_ble_eq_true rfl)⟩ dd_X2_presentTags rfl hk1 rfl rfl hl.1 (Nat.le_of_ble_eq_true rfl) dX4_meanTags_25 ⟨(Nat.le_of_ble_eq_true rfl), (Nat.le_of_ble_eq_true rfl)⟩ (fun H locs hM hS => ?_)
    refine lv_iadd hx hb dX4_meanTags_28 ?_
    refine lv_istore_n (lv' := [(1, .int (x1 + v9)), (0, .ref x0), (2, .int x2)]) hx hb dX4_meanTags_29 rfl hl (by decide) rfl (fun ls hl => ?_)
    refine lv_iinc (v := x2 + 1) (lv' := [(2, .int (x2 + 1)), (1, .int (x1 + v9)), (0, .ref x0)]) hx hb dX4_meanTags_30 hl (k := 2) rfl rfl (by decide) rfl (fun ls hl => ?_)
    refine lv_goto (tgt := 4) hx hb dX4_meanTags_33 (by decide) ?_
    cases h
    exact hy1.1 _ rfl _ _ _ hM hS (lv_sub hl [2, 1, 0] rfl)
noncomputable def f_X4_meanTags (this : Nat) (M : Mem) : Option (UInt64 × Mem) :=
  fj_X4_meanTags_4 this 0 0 M
set_option maxHeartbeats 4000000 in
set_option maxRecDepth 100000 in
theorem mt_X4_meanTags (l : Launch) (E : KEnv) (this : Nat) (M M' : Mem) (v : UInt64) (h : f_X4_meanTags this M = some (v, M')) : Met l yX4_meanTags (Cond.code yX4_meanTags cX4_meanTags 3 (some .double) :: lw_G) rm_X4_meanTags (cPc E [.ref this] M) (cQ E (some (.double v)) M') 0 0 (eA E) := by
  refine Met.ofW (cc := cX4_meanTags) (maxL := 3) (ret := (some .double)) (by decide) rfl ?_
  intro p e s m args below meth c s₁ B hml hv
  obtain ⟨rfl, hE, hM⟩ := hv
  have hx := B.exec
  have hb := B.bytes
  have hr := B.returns
  have hts0 := atoms_spec (ws := Cond.code yX4_meanTags cX4_meanTags 3 (some .double) :: lw_G) B.pre
  have hts : ∀ w ∈ lw_G, w.before _ s = true := fun w hw => hts0 w (List.mem_cons_of_mem _ hw)
  have hown : s.vm.findClass RX4 = some m.cls := findClass_of_methodNamed B.named
  have hlocks := B.notSynchronized
  have hC : CallFix p m c cX4_meanTags 3 s _ lw_G RX4 := ⟨hx, hb, hml, hown, hts⟩
  have hS : va_S (eA E) s.heap s.heap [] := va_S.rf
  have hl := lv_entry ([.ref this]) (n := 3) (Nat.le_of_ble_eq_true rfl)
  rw [lg_entry_eq]
  generalize (lg_sl ([.ref this]) ++ List.replicate (3 - (lg_sl ([.ref this])).length) Slot.unset).toArray = ls at hl ⊢
  have hl : lv_has ls 3 [(0, .ref this)] := hl
  unfold f_X4_meanTags at h
  show W p l e rm_X4_meanTags s m _ below meth c s.heap [] 0 0 _ _
  refine lv_iconst (v := 0) hx hb dX4_meanTags_0 (by decide) ?_
  refine lv_istore_n (lv' := [(1, .int 0), (0, .ref this)]) hx hb dX4_meanTags_1 rfl hl (by decide) rfl (fun ls hl => ?_)
  refine lv_iconst (v := 0) hx hb dX4_meanTags_2 (by decide) ?_
  refine lv_istore_n (lv' := [(2, .int 0), (1, .int 0), (0, .ref this)]) hx hb dX4_meanTags_3 rfl hl (by decide) rfl (fun ls hl => ?_)
  refine W.widen (k := 0) (n := 0) (Nat.le_of_ble_eq_true rfl) (Nat.le_of_ble_eq_true rfl) ?_
  exact tj_X4_meanTags_4  hC hr hlocks hE  h hM hS (lv_sub hl [2, 1, 0] rfl)

theorem dd_X4_knowsEveryState : yX4_knowsEveryState.cls = RX4 ∧ yX4_knowsEveryState.cls ≠ "java/lang/invoke/MethodHandle" ∧ yX4_knowsEveryState.cls ≠ "java/lang/invoke/VarHandle" ∧ (parseMethodDescriptor yX4_knowsEveryState.desc).map (fun d => d.parameters.length) = some 1 := by decide +kernel
abbrev rm_X4_knowsEveryState : Room := ({ frames := 5, cells := 0, slots := 0, locals := 125 } : Room)
noncomputable def fj_X4_knowsEveryState_38  (M : Mem) : Option (Int32 × Mem) :=
  some (1, M)
set_option maxHeartbeats 4000000 in
set_option maxRecDepth 100000 in
theorem tj_X4_knowsEveryState_38 {p : Program} {l : Launch} {e : Env} {s : State} {m : MethodId} {args : Array Value} {below : List Frame} {meth : Method} {c : Code} {E : KEnv} {H : Heap} {locs : List Loc} {ls : Array Slot}  {M : Mem} {v : Int32} {M' : Mem} (hC : CallFix p m c cX4_knowsEveryState 3 s args lw_G RX4) (hr : meth.sig.returnType = (some .boolean)) (hlocks : meth.locks = false) (hE : EnvOK E s) (h : fj_X4_knowsEveryState_38  M = some (v, M')) (hM : MOK E M H) (hS : va_S (eA E) s.heap H locs) (hl : lv_has ls 3 []) : W p l e rm_X4_knowsEveryState s m args below meth c H locs 0 0 (MQ below (cQ E (some (.int v)) M') args s 0 0 (eA E)) (F0 m 38 ls []) := by
  obtain ⟨hx, hb, hml, hown, hts⟩ := id hC
  unfold fj_X4_knowsEveryState_38 at h
  refine lv_iconst (v := 1) hx hb dX4_knowsEveryState_38 (by decide) ?_
  cases h
  exact eZ hx hb hr hlocks hM hS dX4_knowsEveryState_39 (Nat.le_of_ble_eq_true rfl) (Nat.le_of_ble_eq_true rfl) (by decide)
noncomputable def fj_X4_knowsEveryState_30  (M : Mem) : Option (Int32 × Mem) :=
  some (0, M)
set_option maxHeartbeats 4000000 in
set_option maxRecDepth 100000 in
theorem tj_X4_knowsEveryState_30 {p : Program} {l : Launch} {e : Env} {s : State} {m : MethodId} {args : Array Value} {below : List Frame} {meth : Method} {c : Code} {E : KEnv} {H : Heap} {locs : List Loc} {ls : Array Slot}  {M : Mem} {v : Int32} {M' : Mem} (hC : CallFix p m c cX4_knowsEveryState 3 s args lw_G RX4) (hr : meth.sig.returnType = (some .boolean)) (hlocks : meth.locks = false) (hE : EnvOK E s) (h : fj_X4_knowsEveryState_30  M = some (v, M')) (hM : MOK E M H) (hS : va_S (eA E) s.heap H locs) (hl : lv_has ls 3 []) : W p l e rm_X4_knowsEveryState s m args below meth c H locs 0 0 (MQ below (cQ E (some (.int v)) M') args s 0 0 (eA E)) (F0 m 30 ls []) := by
  obtain ⟨hx, hb, hml, hown, hts⟩ := id hC
  unfold fj_X4_knowsEveryState_30 at h
  refine lv_iconst (v := 0) hx hb dX4_knowsEveryState_30 (by decide) ?_
  cases h
  exact eZ hx hb hr hlocks hM hS dX4_knowsEveryState_31 (Nat.le_of_ble_eq_true rfl) (Nat.le_of_ble_eq_true rfl) (by decide)
noncomputable def fc_X4_knowsEveryState_2 (x0 : Nat) (x1 : Nat) (x2 : Int32) (M : Mem) : Option ((Int32 × Mem) ⊕ (Int32 × Mem)) :=
  (gRn 5 134 x0 M).bind fun v1 =>
  (gI 4 96 v1 M).bind fun v2 =>
  (if v2 ≤ x2 then
  (fj_X4_knowsEveryState_38 M).map Sum.inr
  else
  (gRn 5 134 x0 M).bind fun v3 =>
  (gRn 4 100 v3 M).bind fun v4 =>
  (gBn 10 v4 x2 M).bind fun v5 =>
  bn (cK 5 x0 M (f_X4_knowsAllOf x0 x1 v5 M)) fun v6 M7 =>
  (if v6 = 0 then
  (fj_X4_knowsEveryState_30 M7).map Sum.inr
  else
  some (.inl (x2 + 1, M7))))
noncomputable def fj_X4_knowsEveryState_2 (x0 : Nat) (x1 : Nat) (x2 : Int32) (M : Mem) : Option (Int32 × Mem) := loopM (fun q : (Int32 × Mem) => fc_X4_knowsEveryState_2 x0 x1 q.1 q.2) FU (x2, M)
set_option maxHeartbeats 4000000 in
set_option maxRecDepth 100000 in
theorem tj_X4_knowsEveryState_2 {p : Program} {l : Launch} {e : Env} {s : State} {m : MethodId} {args : Array Value} {below : List Frame} {meth : Method} {c : Code} {E : KEnv} {H : Heap} {locs : List Loc} {ls : Array Slot} {x0 : Nat} {x1 : Nat} {x2 : Int32} {M : Mem} {v : Int32} {M' : Mem} (hC : CallFix p m c cX4_knowsEveryState 3 s args lw_G RX4) (hr : meth.sig.returnType = (some .boolean)) (hlocks : meth.locks = false) (hE : EnvOK E s) (h : fj_X4_knowsEveryState_2 x0 x1 x2 M = some (v, M')) (hM : MOK E M H) (hS : va_S (eA E) s.heap H locs) (hl : lv_has ls 3 [(0, .ref x0), (1, .ref x1), (2, .int x2)]) : W p l e rm_X4_knowsEveryState s m args below meth c H locs 0 0 (MQ below (cQ E (some (.int v)) M') args s 0 0 (eA E)) (F0 m 2 ls []) := by
  refine loopM_ind (body := fun q : (Int32 × Mem) => fc_X4_knowsEveryState_2 x0 x1 q.1 q.2) (x0 := (v, M')) (Wd := fun q : (Int32 × Mem) => ∀ (H : Heap) (locs : List Loc) (ls : Array Slot), MOK E (q.2) H → va_S (eA E) s.heap H locs → lv_has ls 3 [(0, .ref x0), (1, .ref x1), (2, .int q.1)] → W p l e rm_X4_knowsEveryState s m args below meth c H locs 0 0 (MQ below (cQ E (some (.int v)) M') args s 0 0 (eA E)) (F0 m 2 ls [])) ?_ FU (x2, M) h H locs ls hM hS hl
  clear h hM hS hl H locs ls M x2
  obtain ⟨hx, hb, hml, hown, hts⟩ := id hC
  intro q y1 h hy1 H locs ls hM hS hl
  obtain ⟨x2, M⟩ := q
  have h : fc_X4_knowsEveryState_2 x0 x1 x2 M = some y1 := h
  have hM : MOK E M H := hM
  have hl : lv_has ls 3 [(0, .ref x0), (1, .ref x1), (2, .int x2)] := hl
  unfold fc_X4_knowsEveryState_2 at h
  show W p l e rm_X4_knowsEveryState s m args below meth c H locs _ _ _ _
  refine lv_iload_n hx hb dX4_knowsEveryState_2 rfl (lv_at hl 2 rfl) ?_
  refine lv_aload_n hx hb dX4_knowsEveryState_3 rfl (lv_at hl 0 rfl) ?_
  obtain ⟨v1, h1, h⟩ := ob h
  refine rgn_4_6 hx hb hts hown hE hM qw_404 h1 dX4_knowsEveryState_4 ?_
  obtain ⟨v2, h1, h⟩ := ob h
  refine rg_3_0 hx hb hts hown hE hM qw_89 h1 dX4_knowsEveryState_7 ?_
  refine lv_icmp_ge (tgt := 38) hx hb dX4_knowsEveryState_10 (by decide) (fun c1 => ?_) (fun c1 => ?_)
  · have h := ifp c1 h
    obtain ⟨z0, h9, rfl⟩ := om h
    have e0 := hy1.2 _ rfl
    subst e0
    have h := h9
    refine W.widen (k := 0) (n := 0) (Nat.le_of_ble_eq_true rfl) (Nat.le_of_ble_eq_true rfl) ?_
    exact tj_X4_knowsEveryState_38  hC hr hlocks hE  h hM hS (lv_sub hl [] rfl)
  · have h := ifn c1 h
    refine lv_aload_n hx hb dX4_knowsEveryState_13 rfl (lv_at hl 0 rfl) ?_
    refine lv_aload_n hx hb dX4_knowsEveryState_14 rfl (lv_at hl 1 rfl) ?_
    refine lv_aload_n hx hb dX4_knowsEveryState_15 rfl (lv_at hl 0 rfl) ?_
    obtain ⟨v3, h1, h⟩ := ob h
    refine rgn_4_6 hx hb hts hown hE hM qw_404 h1 dX4_knowsEveryState_16 ?_
    obtain ⟨v4, h1, h⟩ := ob h
    refine rgn_3_4 hx hb hts hown hE hM qw_102 h1 dX4_knowsEveryState_19 ?_
    refine lv_iload_n hx hb dX4_knowsEveryState_22 rfl (lv_at hl 2 rfl) ?_
    obtain ⟨v5, h1, h⟩ := ob h
    refine r_aldnS hx hb hE hM h1 dX4_knowsEveryState_23 ?_
    obtain ⟨v6, M7, h1, h⟩ := ob2 h
    obtain ⟨hk1, h1⟩ := ifg h1
    refine kV1 (ci := 4) (As := [.ref x1, .ref v5]) (rest := []) hC hE hS hM (mt_X4_knowsAllOf _ E x0 x1 v5 _ _ _ h1) (gwV qw_1044 qw_1046 qw_33 qw_39 qw_1047) ⟨rfl, rfl, (Nat.le_of_ble_eq_true rfl), (Nat.le_of_ble_eq_true rfl)⟩ dd_X4_knowsAllOf rfl hk1 rfl rfl hl.1 (Nat.le_of_ble_eq_true rfl) dX4_knowsEveryState_24 ⟨(Nat.le_of_ble_eq_true rfl), (Nat.le_of_ble_eq_true rfl)⟩ (fun H locs hM hS => ?_)
    refine lv_if_ne (tgt := 32) hx hb dX4_knowsEveryState_27 (by decide) (fun c1 => ?_) (fun c1 => ?_)
    · have h := ifn c1 h
      refine lv_iinc (v := x2 + 1) (lv' := [(2, .int (x2 + 1)), (0, .ref x0), (1, .ref x1)]) hx hb dX4_knowsEveryState_32 hl (k := 2) rfl rfl (by decide) rfl (fun ls hl => ?_)
      refine lv_goto (tgt := 2) hx hb dX4_knowsEveryState_35 (by decide) ?_
      cases h
      exact hy1.1 _ rfl _ _ _ hM hS (lv_sub hl [1, 2, 0] rfl)
    · have h := ifp c1 h
      obtain ⟨z0, h9, rfl⟩ := om h
      have e0 := hy1.2 _ rfl
      subst e0
      have h := h9
      refine W.widen (k := 0) (n := 0) (Nat.le_of_ble_eq_true rfl) (Nat.le_of_ble_eq_true rfl) ?_
      exact tj_X4_knowsEveryState_30  hC hr hlocks hE  h hM hS (lv_sub hl [] rfl)
noncomputable def f_X4_knowsEveryState (this : Nat) (a1 : Nat) (M : Mem) : Option (Int32 × Mem) :=
  fj_X4_knowsEveryState_2 this a1 0 M
set_option maxHeartbeats 4000000 in
set_option maxRecDepth 100000 in
theorem mt_X4_knowsEveryState (l : Launch) (E : KEnv) (this : Nat) (a1 : Nat) (M M' : Mem) (v : Int32) (h : f_X4_knowsEveryState this a1 M = some (v, M')) : Met l yX4_knowsEveryState (Cond.code yX4_knowsEveryState cX4_knowsEveryState 3 (some .boolean) :: lw_G) rm_X4_knowsEveryState (cPc E [.ref this, .ref a1] M) (cQ E (some (.int v)) M') 0 0 (eA E) := by
  refine Met.ofW (cc := cX4_knowsEveryState) (maxL := 3) (ret := (some .boolean)) (by decide) rfl ?_
  intro p e s m args below meth c s₁ B hml hv
  obtain ⟨rfl, hE, hM⟩ := hv
  have hx := B.exec
  have hb := B.bytes
  have hr := B.returns
  have hts0 := atoms_spec (ws := Cond.code yX4_knowsEveryState cX4_knowsEveryState 3 (some .boolean) :: lw_G) B.pre
  have hts : ∀ w ∈ lw_G, w.before _ s = true := fun w hw => hts0 w (List.mem_cons_of_mem _ hw)
  have hown : s.vm.findClass RX4 = some m.cls := findClass_of_methodNamed B.named
  have hlocks := B.notSynchronized
  have hC : CallFix p m c cX4_knowsEveryState 3 s _ lw_G RX4 := ⟨hx, hb, hml, hown, hts⟩
  have hS : va_S (eA E) s.heap s.heap [] := va_S.rf
  have hl := lv_entry ([.ref this, .ref a1]) (n := 3) (Nat.le_of_ble_eq_true rfl)
  rw [lg_entry_eq]
  generalize (lg_sl ([.ref this, .ref a1]) ++ List.replicate (3 - (lg_sl ([.ref this, .ref a1])).length) Slot.unset).toArray = ls at hl ⊢
  have hl : lv_has ls 3 [(0, .ref this), (1, .ref a1)] := hl
  unfold f_X4_knowsEveryState at h
  show W p l e rm_X4_knowsEveryState s m _ below meth c s.heap [] 0 0 _ _
  refine lv_iconst (v := 0) hx hb dX4_knowsEveryState_0 (by decide) ?_
  refine lv_istore_n (lv' := [(2, .int 0), (0, .ref this), (1, .ref a1)]) hx hb dX4_knowsEveryState_1 rfl hl (by decide) rfl (fun ls hl => ?_)
  refine W.widen (k := 0) (n := 0) (Nat.le_of_ble_eq_true rfl) (Nat.le_of_ble_eq_true rfl) ?_
  exact tj_X4_knowsEveryState_2  hC hr hlocks hE  h hM hS (lv_sub hl [1, 2, 0] rfl)

theorem dd_X4_completeShare : yX4_completeShare.cls = RX4 ∧ yX4_completeShare.cls ≠ "java/lang/invoke/MethodHandle" ∧ yX4_completeShare.cls ≠ "java/lang/invoke/VarHandle" ∧ (parseMethodDescriptor yX4_completeShare.desc).map (fun d => d.parameters.length) = some 0 := by decide +kernel
abbrev rm_X4_completeShare : Room := ({ frames := 6, cells := 0, slots := 0, locals := 147 } : Room)
noncomputable def fj_X4_completeShare_40 (x0 : Nat) (x1 : Int32) (M : Mem) : Option (UInt32 × Mem) :=
  (gRn 5 134 x0 M).bind fun v3 =>
  (gI 4 96 v3 M).bind fun v4 =>
  (nf (FP.fdiv (FP.i2f x1) (FP.i2f v4))).bind fun v5 =>
  some (v5, M)
set_option maxHeartbeats 4000000 in
set_option maxRecDepth 100000 in
theorem tj_X4_completeShare_40 {p : Program} {l : Launch} {e : Env} {s : State} {m : MethodId} {args : Array Value} {below : List Frame} {meth : Method} {c : Code} {E : KEnv} {H : Heap} {locs : List Loc} {ls : Array Slot} {x0 : Nat} {x1 : Int32} {M : Mem} {v : UInt32} {M' : Mem} (hC : CallFix p m c cX4_completeShare 3 s args lw_G RX4) (hr : meth.sig.returnType = (some .float)) (hlocks : meth.locks = false) (hE : EnvOK E s) (h : fj_X4_completeShare_40 x0 x1 M = some (v, M')) (hM : MOK E M H) (hS : va_S (eA E) s.heap H locs) (hl : lv_has ls 3 [(0, .ref x0), (1, .int x1)]) : W p l e rm_X4_completeShare s m args below meth c H locs 0 0 (MQ below (cQ E (some (.float v)) M') args s 0 0 (eA E)) (F0 m 40 ls []) := by
  obtain ⟨hx, hb, hml, hown, hts⟩ := id hC
  unfold fj_X4_completeShare_40 at h
  refine lv_iload_n hx hb dX4_completeShare_40 rfl (lv_at hl 1 rfl) ?_
  refine lv_i2f hx hb dX4_completeShare_41 ?_
  refine lv_aload_n hx hb dX4_completeShare_42 rfl (lv_at hl 0 rfl) ?_
  obtain ⟨v3, h1, h⟩ := ob h
  refine rgn_4_6 hx hb hts hown hE hM qw_404 h1 dX4_completeShare_43 ?_
  obtain ⟨v4, h1, h⟩ := ob h
  refine rg_3_0 hx hb hts hown hE hM qw_89 h1 dX4_completeShare_46 ?_
  refine lv_i2f hx hb dX4_completeShare_49 ?_
  obtain ⟨v5, h1, h⟩ := ob h
  obtain ⟨hn, e1⟩ := ifs h1
  refine lv_fdiv hx hb dX4_completeShare_50 hn ?_
  rw [← e1]
  cases h
  exact eF hx hb hr hlocks hM hS dX4_completeShare_51 (Nat.le_of_ble_eq_true rfl) (Nat.le_of_ble_eq_true rfl)
noncomputable def fj_X4_completeShare_34 (x0 : Nat) (x1 : Int32) (x2 : Int32) (M : Mem) : Option ((Int32 × Int32 × Mem) ⊕ (UInt32 × Mem)) :=
  some (.inl (x1, x2 + 1, M))
set_option maxHeartbeats 4000000 in
set_option maxRecDepth 100000 in
theorem tj_X4_completeShare_34 {p : Program} {l : Launch} {e : Env} {s : State} {m : MethodId} {args : Array Value} {below : List Frame} {meth : Method} {c : Code} {E : KEnv} {H : Heap} {locs : List Loc} {ls : Array Slot} {x0 : Nat} {x1 : Int32} {x2 : Int32} {y1 : ((Int32 × Int32 × Mem) ⊕ (UInt32 × Mem))} {M : Mem} {v : UInt32} {M' : Mem} (hC : CallFix p m c cX4_completeShare 3 s args lw_G RX4) (hr : meth.sig.returnType = (some .float)) (hlocks : meth.locks = false) (hE : EnvOK E s) (hy1 : (∀ q : (Int32 × Int32 × Mem), y1 = .inl q → ∀ (H : Heap) (locs : List Loc) (ls : Array Slot), MOK E (q.2.2) H → va_S (eA E) s.heap H locs → lv_has ls 3 [(0, .ref x0), (1, .int q.1), (2, .int q.2.1)] → W p l e rm_X4_completeShare s m args below meth c H locs 0 0 (MQ below (cQ E (some (.float v)) M') args s 0 0 (eA E)) (F0 m 4 ls [])) ∧ ∀ z, y1 = .inr z → z = (v, M')) (h : fj_X4_completeShare_34 x0 x1 x2 M = some y1) (hM : MOK E M H) (hS : va_S (eA E) s.heap H locs) (hl : lv_has ls 3 [(0, .ref x0), (1, .int x1), (2, .int x2)]) : W p l e rm_X4_completeShare s m args below meth c H locs 0 0 (MQ below (cQ E (some (.float v)) M') args s 0 0 (eA E)) (F0 m 34 ls []) := by
  obtain ⟨hx, hb, hml, hown, hts⟩ := id hC
  unfold fj_X4_completeShare_34 at h
  refine lv_iinc (v := x2 + 1) (lv' := [(2, .int (x2 + 1)), (0, .ref x0), (1, .int x1)]) hx hb dX4_completeShare_34 hl (k := 2) rfl rfl (by decide) rfl (fun ls hl => ?_)
  refine lv_goto (tgt := 4) hx hb dX4_completeShare_37 (by decide) ?_
  cases h
  exact hy1.1 _ rfl _ _ _ hM hS (lv_sub hl [1, 2, 0] rfl)
noncomputable def fc_X4_completeShare_4 (x0 : Nat) (x1 : Int32) (x2 : Int32) (M : Mem) : Option ((Int32 × Int32 × Mem) ⊕ (UInt32 × Mem)) :=
  (gRn 5 134 x0 M).bind fun v1 =>
  (gI 4 96 v1 M).bind fun v2 =>
  (if v2 ≤ x2 then
  (fj_X4_completeShare_40 x0 x1 M).map Sum.inr
  else
  (gRn 5 134 x0 M).bind fun v6 =>
  (gRn 4 100 v6 M).bind fun v7 =>
  (gBn 10 v7 x2 M).bind fun v8 =>
  bn (cK 5 x0 M (f_X4_knowsEveryState x0 v8 M)) fun v9 M10 =>
  (if v9 = 0 then
  fj_X4_completeShare_34 x0 x1 x2 M10
  else
  fj_X4_completeShare_34 x0 (x1 + 1) x2 M10))
noncomputable def fj_X4_completeShare_4 (x0 : Nat) (x1 : Int32) (x2 : Int32) (M : Mem) : Option (UInt32 × Mem) := loopM (fun q : (Int32 × Int32 × Mem) => fc_X4_completeShare_4 x0 q.1 q.2.1 q.2.2) FU (x1, x2, M)
set_option maxHeartbeats 4000000 in
set_option maxRecDepth 100000 in
theorem tj_X4_completeShare_4 {p : Program} {l : Launch} {e : Env} {s : State} {m : MethodId} {args : Array Value} {below : List Frame} {meth : Method} {c : Code} {E : KEnv} {H : Heap} {locs : List Loc} {ls : Array Slot} {x0 : Nat} {x1 : Int32} {x2 : Int32} {M : Mem} {v : UInt32} {M' : Mem} (hC : CallFix p m c cX4_completeShare 3 s args lw_G RX4) (hr : meth.sig.returnType = (some .float)) (hlocks : meth.locks = false) (hE : EnvOK E s) (h : fj_X4_completeShare_4 x0 x1 x2 M = some (v, M')) (hM : MOK E M H) (hS : va_S (eA E) s.heap H locs) (hl : lv_has ls 3 [(0, .ref x0), (1, .int x1), (2, .int x2)]) : W p l e rm_X4_completeShare s m args below meth c H locs 0 0 (MQ below (cQ E (some (.float v)) M') args s 0 0 (eA E)) (F0 m 4 ls []) := by
  refine loopM_ind (body := fun q : (Int32 × Int32 × Mem) => fc_X4_completeShare_4 x0 q.1 q.2.1 q.2.2) (x0 := (v, M')) (Wd := fun q : (Int32 × Int32 × Mem) => ∀ (H : Heap) (locs : List Loc) (ls : Array Slot), MOK E (q.2.2) H → va_S (eA E) s.heap H locs → lv_has ls 3 [(0, .ref x0), (1, .int q.1), (2, .int q.2.1)] → W p l e rm_X4_completeShare s m args below meth c H locs 0 0 (MQ below (cQ E (some (.float v)) M') args s 0 0 (eA E)) (F0 m 4 ls [])) ?_ FU (x1, x2, M) h H locs ls hM hS hl
  clear h hM hS hl H locs ls M x1 x2
  obtain ⟨hx, hb, hml, hown, hts⟩ := id hC
  intro q y1 h hy1 H locs ls hM hS hl
  obtain ⟨x1, x2, M⟩ := q
  have h : fc_X4_completeShare_4 x0 x1 x2 M = some y1 := h
  have hM : MOK E M H := hM
  have hl : lv_has ls 3 [(0, .ref x0), (1, .int x1), (2, .int x2)] := hl
  unfold fc_X4_completeShare_4 at h
  show W p l e rm_X4_completeShare s m args below meth c H locs _ _ _ _
  refine lv_iload_n hx hb dX4_completeShare_4 rfl (lv_at hl 2 rfl) ?_
  refine lv_aload_n hx hb dX4_completeShare_5 rfl (lv_at hl 0 rfl) ?_
  obtain ⟨v1, h1, h⟩ := ob h
  refine rgn_4_6 hx hb hts hown hE hM qw_404 h1 dX4_completeShare_6 ?_
  obtain ⟨v2, h1, h⟩ := ob h
  refine rg_3_0 hx hb hts hown hE hM qw_89 h1 dX4_completeShare_9 ?_
  refine lv_icmp_ge (tgt := 40) hx hb dX4_completeShare_12 (by decide) (fun c1 => ?_) (fun c1 => ?_)
  · have h := ifp c1 h
    obtain ⟨z0, h9, rfl⟩ := om h
    have e0 := hy1.2 _ rfl
    subst e0
    have h := h9
    refine W.widen (k := 0) (n := 0) (Nat.le_of_ble_eq_true rfl) (Nat.le_of_ble_eq_true rfl) ?_
    exact tj_X4_completeShare_40  hC hr hlocks hE  h hM hS (lv_sub hl [0, 1] rfl)
  · have h := ifn c1 h
    refine lv_aload_n hx hb dX4_completeShare_15 rfl (lv_at hl 0 rfl) ?_
    refine lv_aload_n hx hb dX4_completeShare_16 rfl (lv_at hl 0 rfl) ?_
    obtain ⟨v6, h1, h⟩ := ob h
    refine rgn_4_6 hx hb hts hown hE hM qw_404 h1 dX4_completeShare_17 ?_
    obtain ⟨v7, h1, h⟩ := ob h
    refine rgn_3_4 hx hb hts hown hE hM qw_102 h1 dX4_completeShare_20 ?_
    refine lv_iload_n hx hb dX4_completeShare_23 rfl (lv_at hl 2 rfl) ?_
    obtain ⟨v8, h1, h⟩ := ob h
    refine r_aldnS hx hb hE hM h1 dX4_completeShare_24 ?_
    obtain ⟨v9, M10, h1, h⟩ := ob2 h
    obtain ⟨hk1, h1⟩ := ifg h1
    refine kV1 (ci := 4) (As := [.ref v8]) (rest := []) hC hE hS hM (mt_X4_knowsEveryState _ E x0 v8 _ _ _ h1) (gwV qw_1159 qw_1161 qw_36 qw_39 qw_1162) ⟨rfl, rfl, (Nat.le_of_ble_eq_true rfl), (Nat.le_of_ble_eq_true rfl)⟩ dd_X4_knowsEveryState rfl hk1 rfl rfl hl.1 (Nat.le_of_ble_eq_true rfl) dX4_completeShare_25 ⟨(Nat.le_of_ble_eq_true rfl), (Nat.le_of_ble_eq_true rfl)⟩ (fun H locs hM hS => ?_)
    refine lv_if_eq (tgt := 34) hx hb dX4_completeShare_28 (by decide) (fun c1 => ?_) (fun c1 => ?_)
    · have h := ifp c1 h
      refine W.widen (k := 0) (n := 0) (Nat.le_of_ble_eq_true rfl) (Nat.le_of_ble_eq_true rfl) ?_
      exact tj_X4_completeShare_34  hC hr hlocks hE hy1  h hM hS (lv_sub hl [0, 1, 2] rfl)
    · have h := ifn c1 h
      refine lv_iinc (v := x1 + 1) (lv' := [(1, .int (x1 + 1)), (0, .ref x0), (2, .int x2)]) hx hb dX4_completeShare_31 hl (k := 1) rfl rfl (by decide) rfl (fun ls hl => ?_)
      refine W.widen (k := 0) (n := 0) (Nat.le_of_ble_eq_true rfl) (Nat.le_of_ble_eq_true rfl) ?_
      exact tj_X4_completeShare_34  hC hr hlocks hE hy1  h hM hS (lv_sub hl [1, 0, 2] rfl)
noncomputable def f_X4_completeShare (this : Nat) (M : Mem) : Option (UInt32 × Mem) :=
  fj_X4_completeShare_4 this 0 0 M
set_option maxHeartbeats 4000000 in
set_option maxRecDepth 100000 in
theorem mt_X4_completeShare (l : Launch) (E : KEnv) (this : Nat) (M M' : Mem) (v : UInt32) (h : f_X4_completeShare this M = some (v, M')) : Met l yX4_completeShare (Cond.code yX4_completeShare cX4_completeShare 3 (some .float) :: lw_G) rm_X4_completeShare (cPc E [.ref this] M) (cQ E (some (.float v)) M') 0 0 (eA E) := by
  refine Met.ofW (cc := cX4_completeShare) (maxL := 3) (ret := (some .float)) (by decide) rfl ?_
  intro p e s m args below meth c s₁ B hml hv
  obtain ⟨rfl, hE, hM⟩ := hv
  have hx := B.exec
  have hb := B.bytes
  have hr := B.returns
  have hts0 := atoms_spec (ws := Cond.code yX4_completeShare cX4_completeShare 3 (some .float) :: lw_G) B.pre
  have hts : ∀ w ∈ lw_G, w.before _ s = true := fun w hw => hts0 w (List.mem_cons_of_mem _ hw)
  have hown : s.vm.findClass RX4 = some m.cls := findClass_of_methodNamed B.named
  have hlocks := B.notSynchronized
  have hC : CallFix p m c cX4_completeShare 3 s _ lw_G RX4 := ⟨hx, hb, hml, hown, hts⟩
  have hS : va_S (eA E) s.heap s.heap [] := va_S.rf
  have hl := lv_entry ([.ref this]) (n := 3) (Nat.le_of_ble_eq_true rfl)
  rw [lg_entry_eq]
  generalize (lg_sl ([.ref this]) ++ List.replicate (3 - (lg_sl ([.ref this])).length) Slot.unset).toArray = ls at hl ⊢
  have hl : lv_has ls 3 [(0, .ref this)] := hl
  unfold f_X4_completeShare at h
  show W p l e rm_X4_completeShare s m _ below meth c s.heap [] 0 0 _ _
  refine lv_iconst (v := 0) hx hb dX4_completeShare_0 (by decide) ?_
  refine lv_istore_n (lv' := [(1, .int 0), (0, .ref this)]) hx hb dX4_completeShare_1 rfl hl (by decide) rfl (fun ls hl => ?_)
  refine lv_iconst (v := 0) hx hb dX4_completeShare_2 (by decide) ?_
  refine lv_istore_n (lv' := [(2, .int 0), (1, .int 0), (0, .ref this)]) hx hb dX4_completeShare_3 rfl hl (by decide) rfl (fun ls hl => ?_)
  refine W.widen (k := 0) (n := 0) (Nat.le_of_ble_eq_true rfl) (Nat.le_of_ble_eq_true rfl) ?_
  exact tj_X4_completeShare_4  hC hr hlocks hE  h hM hS (lv_sub hl [2, 1, 0] rfl)

theorem dd_X4_messageCount : yX4_messageCount.cls = RX4 ∧ yX4_messageCount.cls ≠ "java/lang/invoke/MethodHandle" ∧ yX4_messageCount.cls ≠ "java/lang/invoke/VarHandle" ∧ (parseMethodDescriptor yX4_messageCount.desc).map (fun d => d.parameters.length) = some 0 := by decide +kernel
abbrev rm_X4_messageCount : Room := ({ frames := 0, cells := 0, slots := 0, locals := 0 } : Room)
noncomputable def f_X4_messageCount (this : Nat) (M : Mem) : Option (Int32 × Mem) :=
  (gRn 5 134 this M).bind fun v1 =>
  (gI 4 99 v1 M).bind fun v2 =>
  some (v2, M)
set_option maxHeartbeats 4000000 in
set_option maxRecDepth 100000 in
theorem mt_X4_messageCount (l : Launch) (E : KEnv) (this : Nat) (M M' : Mem) (v : Int32) (h : f_X4_messageCount this M = some (v, M')) : Met l yX4_messageCount (Cond.code yX4_messageCount cX4_messageCount 1 (some .int) :: lw_G) rm_X4_messageCount (cPc E [.ref this] M) (cQ E (some (.int v)) M') 0 0 (eA E) := by
  refine Met.ofW (cc := cX4_messageCount) (maxL := 1) (ret := (some .int)) (by decide) rfl ?_
  intro p e s m args below meth c s₁ B hml hv
  obtain ⟨rfl, hE, hM⟩ := hv
  have hx := B.exec
  have hb := B.bytes
  have hr := B.returns
  have hts0 := atoms_spec (ws := Cond.code yX4_messageCount cX4_messageCount 1 (some .int) :: lw_G) B.pre
  have hts : ∀ w ∈ lw_G, w.before _ s = true := fun w hw => hts0 w (List.mem_cons_of_mem _ hw)
  have hown : s.vm.findClass RX4 = some m.cls := findClass_of_methodNamed B.named
  have hlocks := B.notSynchronized
  have hC : CallFix p m c cX4_messageCount 1 s _ lw_G RX4 := ⟨hx, hb, hml, hown, hts⟩
  have hS : va_S (eA E) s.heap s.heap [] := va_S.rf
  have hl := lv_entry ([.ref this]) (n := 1) (Nat.le_of_ble_eq_true rfl)
  rw [lg_entry_eq]
  generalize (lg_sl ([.ref this]) ++ List.replicate (1 - (lg_sl ([.ref this])).length) Slot.unset).toArray = ls at hl ⊢
  have hl : lv_has ls 1 [(0, .ref this)] := hl
  unfold f_X4_messageCount at h
  show W p l e rm_X4_messageCount s m _ below meth c s.heap [] 0 0 _ _
  refine lv_aload_n hx hb dX4_messageCount_0 rfl (lv_at hl 0 rfl) ?_
  obtain ⟨v1, h1, h⟩ := ob h
  refine rgn_4_6 hx hb hts hown hE hM qw_404 h1 dX4_messageCount_1 ?_
  obtain ⟨v2, h1, h⟩ := ob h
  refine rg_3_3 hx hb hts hown hE hM qw_99 h1 dX4_messageCount_4 ?_
  cases h
  exact eI hx hb hr hlocks hM hS dX4_messageCount_7 (Nat.le_of_ble_eq_true rfl) (Nat.le_of_ble_eq_true rfl)

theorem dd_X4_requireMessage : yX4_requireMessage.cls = RX4 ∧ yX4_requireMessage.cls ≠ "java/lang/invoke/MethodHandle" ∧ yX4_requireMessage.cls ≠ "java/lang/invoke/VarHandle" ∧ (parseMethodDescriptor yX4_requireMessage.desc).map (fun d => d.parameters.length) = some 1 := by decide +kernel
abbrev rm_X4_requireMessage : Room := ({ frames := 6, cells := 1, slots := 6, locals := 90 } : Room)
noncomputable def fj_X4_requireMessage_15  (M : Mem) : Option ((Unit ⊕ Nat) × Mem) :=
  some (.inr 0, M)
set_option maxHeartbeats 4000000 in
set_option maxRecDepth 100000 in
theorem tj_X4_requireMessage_15 {p : Program} {l : Launch} {e : Env} {s : State} {m : MethodId} {args : Array Value} {below : List Frame} {meth : Method} {c : Code} {E : KEnv} {H : Heap} {locs : List Loc} {ls : Array Slot}  {M : Mem} {r : Unit ⊕ Nat} {M' : Mem} (hfl : l.stackTraces = false) (hout : ∀ x ∈ c.exceptionTable.toList, False) (hC : CallFix p m c cX4_requireMessage 2 s args lw_G RX4) (hr : meth.sig.returnType = none) (hlocks : meth.locks = false) (hE : EnvOK E s) (h : fj_X4_requireMessage_15  M = some (r, M')) (hM : MOK E M H) (hS : va_S (eA E) s.heap H locs) (hl : lv_has ls 2 []) : W p l e rm_X4_requireMessage s m args below meth c H locs 0 0 (vx_MQ below (cQx E (vU r) M') (cXx E (vU r) M') args s 1 6 (eA E)) (F0 m 15 ls []) := by
  obtain ⟨hx, hb, hml, hown, hts⟩ := id hC
  unfold fj_X4_requireMessage_15 at h
  cases h
  exact xThrW (i := 25) hfl hx hb hown hts hE hM hS (by decide) qw_443 qw_60 st_25 (ex_at hts hE ex_g0 ex_b0 (by decide)) (by decide +kernel) (hl.1.trans hml.symm) dX4_requireMessage_15 dX4_requireMessage_18 dX4_requireMessage_19 dX4_requireMessage_22 dX4_requireMessage_25 hout (Nat.le_of_ble_eq_true rfl) (Nat.le_of_ble_eq_true rfl) (Nat.le_of_ble_eq_true rfl) (Nat.le_of_ble_eq_true rfl) hlocks (Nat.le_of_ble_eq_true rfl) (Nat.le_of_ble_eq_true rfl)
noncomputable def f_X4_requireMessage (this : Nat) (a1 : Int32) (M : Mem) : Option ((Unit ⊕ Nat) × Mem) :=
  (if a1 < 0 then
  fj_X4_requireMessage_15 M
  else
  (gRn 5 134 this M).bind fun v1 =>
  (gI 4 99 v1 M).bind fun v2 =>
  (if a1 < v2 then
  some (.inl (), M)
  else
  fj_X4_requireMessage_15 M))
set_option maxHeartbeats 4000000 in
set_option maxRecDepth 100000 in
theorem mt_X4_requireMessage (l : Launch) (hfl : l.stackTraces = false) (E : KEnv) (this : Nat) (a1 : Int32) (M M' : Mem) (r : Unit ⊕ Nat) (h : f_X4_requireMessage this a1 M = some (r, M')) : vx_Met l yX4_requireMessage (Cond.code yX4_requireMessage cX4_requireMessage 2 none :: lw_G) rm_X4_requireMessage (cPc E [.ref this, .int a1] M) (cQx E (vU r) M') (cXx E (vU r) M') 1 6 (eA E) := by
  refine vx_ofW (cc := cX4_requireMessage) (maxL := 2) (ret := none) (by decide) rfl ?_
  intro p e s m args below meth c s₁ B hml hout hv
  obtain ⟨rfl, hE, hM⟩ := hv
  have hx := B.exec
  have hb := B.bytes
  have hr := B.returns
  have hts0 := atoms_spec (ws := Cond.code yX4_requireMessage cX4_requireMessage 2 none :: lw_G) B.pre
  have hts : ∀ w ∈ lw_G, w.before _ s = true := fun w hw => hts0 w (List.mem_cons_of_mem _ hw)
  have hown : s.vm.findClass RX4 = some m.cls := findClass_of_methodNamed B.named
  have hlocks := B.notSynchronized
  have hC : CallFix p m c cX4_requireMessage 2 s _ lw_G RX4 := ⟨hx, hb, hml, hown, hts⟩
  have hS : va_S (eA E) s.heap s.heap [] := va_S.rf
  have hl := lv_entry ([.ref this, .int a1]) (n := 2) (Nat.le_of_ble_eq_true rfl)
  rw [lg_entry_eq]
  generalize (lg_sl ([.ref this, .int a1]) ++ List.replicate (2 - (lg_sl ([.ref this, .int a1])).length) Slot.unset).toArray = ls at hl ⊢
  have hl : lv_has ls 2 [(0, .ref this), (1, .int a1)] := hl
  unfold f_X4_requireMessage at h
  show W p l e rm_X4_requireMessage s m _ below meth c s.heap [] 0 0 _ _
  refine lv_iload_n hx hb dX4_requireMessage_0 rfl (lv_at hl 1 rfl) ?_
  refine lv_if_lt (tgt := 15) hx hb dX4_requireMessage_1 (by decide) (fun c1 => ?_) (fun c1 => ?_)
  · have h := ifp c1 h
    refine W.widen (k := 0) (n := 0) (Nat.le_of_ble_eq_true rfl) (Nat.le_of_ble_eq_true rfl) ?_
    exact tj_X4_requireMessage_15 hfl hout  hC hr hlocks hE  h hM hS (lv_sub hl [] rfl)
  · have h := ifn c1 h
    refine lv_iload_n hx hb dX4_requireMessage_4 rfl (lv_at hl 1 rfl) ?_
    refine lv_aload_n hx hb dX4_requireMessage_5 rfl (lv_at hl 0 rfl) ?_
    obtain ⟨v1, h1, h⟩ := ob h
    refine rgn_4_6 hx hb hts hown hE hM qw_404 h1 dX4_requireMessage_6 ?_
    obtain ⟨v2, h1, h⟩ := ob h
    refine rg_3_3 hx hb hts hown hE hM qw_99 h1 dX4_requireMessage_9 ?_
    refine lv_icmp_lt (tgt := 26) hx hb dX4_requireMessage_12 (by decide) (fun c1 => ?_) (fun c1 => ?_)
    · have h := ifp c1 h
      cases h
      exact xRet (eV_ hx hb hr hlocks hM hS dX4_requireMessage_26 (Nat.le_of_ble_eq_true rfl) (Nat.le_of_ble_eq_true rfl))
    · have h := ifn c1 h
      refine W.widen (k := 0) (n := 0) (Nat.le_of_ble_eq_true rfl) (Nat.le_of_ble_eq_true rfl) ?_
      exact tj_X4_requireMessage_15 hfl hout  hC hr hlocks hE  h hM hS (lv_sub hl [] rfl)

theorem dd_X4_senderOf : yX4_senderOf.cls = RX4 ∧ yX4_senderOf.cls ≠ "java/lang/invoke/MethodHandle" ∧ yX4_senderOf.cls ≠ "java/lang/invoke/VarHandle" ∧ (parseMethodDescriptor yX4_senderOf.desc).map (fun d => d.parameters.length) = some 1 := by decide +kernel
abbrev rm_X4_senderOf : Room := ({ frames := 7, cells := 1, slots := 6, locals := 111 } : Room)
noncomputable def f_X4_senderOf (this : Nat) (a1 : Int32) (M : Mem) : Option ((Int32 ⊕ Nat) × Mem) :=
  bx (cK 5 this M (f_X4_requireMessage this a1 M)) (fun ex M => some ((.inr ex, M))) fun v1 M2 =>
  (gRn 5 134 this M2).bind fun v3 =>
  (gRn 4 102 v3 M2).bind fun v4 =>
  (gA 9 v4 a1 M2).bind fun v5 =>
  some (.inl v5, M2)
set_option maxHeartbeats 4000000 in
set_option maxRecDepth 100000 in
theorem mt_X4_senderOf (l : Launch) (hfl : l.stackTraces = false) (E : KEnv) (this : Nat) (a1 : Int32) (M M' : Mem) (r : Int32 ⊕ Nat) (h : f_X4_senderOf this a1 M = some (r, M')) : vx_Met l yX4_senderOf (Cond.code yX4_senderOf cX4_senderOf 2 (some .int) :: lw_G) rm_X4_senderOf (cPc E [.ref this, .int a1] M) (cQx E (vI r) M') (cXx E (vI r) M') 1 6 (eA E) := by
  refine vx_ofW (cc := cX4_senderOf) (maxL := 2) (ret := (some .int)) (by decide) rfl ?_
  intro p e s m args below meth c s₁ B hml hout hv
  obtain ⟨rfl, hE, hM⟩ := hv
  have hx := B.exec
  have hb := B.bytes
  have hr := B.returns
  have hts0 := atoms_spec (ws := Cond.code yX4_senderOf cX4_senderOf 2 (some .int) :: lw_G) B.pre
  have hts : ∀ w ∈ lw_G, w.before _ s = true := fun w hw => hts0 w (List.mem_cons_of_mem _ hw)
  have hown : s.vm.findClass RX4 = some m.cls := findClass_of_methodNamed B.named
  have hlocks := B.notSynchronized
  have hC : CallFix p m c cX4_senderOf 2 s _ lw_G RX4 := ⟨hx, hb, hml, hown, hts⟩
  have hS : va_S (eA E) s.heap s.heap [] := va_S.rf
  have hl := lv_entry ([.ref this, .int a1]) (n := 2) (Nat.le_of_ble_eq_true rfl)
  rw [lg_entry_eq]
  generalize (lg_sl ([.ref this, .int a1]) ++ List.replicate (2 - (lg_sl ([.ref this, .int a1])).length) Slot.unset).toArray = ls at hl ⊢
  have hl : lv_has ls 2 [(0, .ref this), (1, .int a1)] := hl
  unfold f_X4_senderOf at h
  show W p l e rm_X4_senderOf s m _ below meth c s.heap [] 0 0 _ _
  refine lv_aload_n hx hb dX4_senderOf_0 rfl (lv_at hl 0 rfl) ?_
  refine lv_iload_n hx hb dX4_senderOf_1 rfl (lv_at hl 1 rfl) ?_
  rcases obx h with ⟨v1, M2, h1, h⟩ | ⟨ex, M9, h1, h⟩
  rotate_left
  · obtain ⟨hk1, h1⟩ := ifg h1
    cases h
    exact kx_out (kx_V (ci := 4) (As := [.int a1]) (rest := []) hC hE hS hM (mt_X4_requireMessage _ hfl E this a1 _ _ _ h1) (gwV qw_723 qw_725 qw_31 qw_39 qw_726) ⟨rfl, rfl, (Nat.le_of_ble_eq_true rfl), (Nat.le_of_ble_eq_true rfl)⟩ dd_X4_requireMessage rfl hk1 rfl rfl hl.1 (Nat.le_of_ble_eq_true rfl) dX4_senderOf_2 ⟨(Nat.le_of_ble_eq_true rfl), (Nat.le_of_ble_eq_true rfl)⟩) hS hout hlocks (Nat.le_of_ble_eq_true rfl) (Nat.le_of_ble_eq_true rfl)
  obtain ⟨hk1, h1⟩ := ifg h1
  refine kx_ok0 (kx_V (ci := 4) (As := [.int a1]) (rest := []) hC hE hS hM (mt_X4_requireMessage _ hfl E this a1 _ _ _ h1) (gwV qw_723 qw_725 qw_31 qw_39 qw_726) ⟨rfl, rfl, (Nat.le_of_ble_eq_true rfl), (Nat.le_of_ble_eq_true rfl)⟩ dd_X4_requireMessage rfl hk1 rfl rfl hl.1 (Nat.le_of_ble_eq_true rfl) dX4_senderOf_2 ⟨(Nat.le_of_ble_eq_true rfl), (Nat.le_of_ble_eq_true rfl)⟩) hS (fun H locs hM hS => ?_)
  refine lv_aload_n hx hb dX4_senderOf_5 rfl (lv_at hl 0 rfl) ?_
  obtain ⟨v3, h1, h⟩ := ob h
  refine rgn_4_6 hx hb hts hown hE hM qw_404 h1 dX4_senderOf_6 ?_
  obtain ⟨v4, h1, h⟩ := ob h
  refine rgn_3_6 hx hb hts hown hE hM qw_107 h1 dX4_senderOf_9 ?_
  refine lv_iload_n hx hb dX4_senderOf_12 rfl (lv_at hl 1 rfl) ?_
  obtain ⟨v5, h1, h⟩ := ob h
  refine r_iald hx hb hE hM h1 dX4_senderOf_13 ?_
  cases h
  exact xRet (eI hx hb hr hlocks hM hS dX4_senderOf_14 (Nat.le_of_ble_eq_true rfl) (Nat.le_of_ble_eq_true rfl))

theorem dd_X4_isNews : yX4_isNews.cls = RX4 ∧ yX4_isNews.cls ≠ "java/lang/invoke/MethodHandle" ∧ yX4_isNews.cls ≠ "java/lang/invoke/VarHandle" ∧ (parseMethodDescriptor yX4_isNews.desc).map (fun d => d.parameters.length) = some 2 := by decide +kernel
abbrev rm_X4_isNews : Room := ({ frames := 8, cells := 2, slots := 12, locals := 132 } : Room)
noncomputable def fj_X4_isNews_31 (s0 : Int32) (M : Mem) : Option ((Int32 ⊕ Nat) × Mem) :=
  (if s0 = 0 ∨ s0 = 1 then some (.inl s0, M) else none)
set_option maxHeartbeats 4000000 in
set_option maxRecDepth 100000 in
theorem tj_X4_isNews_31 {p : Program} {l : Launch} {e : Env} {s : State} {m : MethodId} {args : Array Value} {below : List Frame} {meth : Method} {c : Code} {E : KEnv} {H : Heap} {locs : List Loc} {ls : Array Slot} {s0 : Int32} {M : Mem} {r : Int32 ⊕ Nat} {M' : Mem} (hfl : l.stackTraces = false) (hout : ∀ x ∈ c.exceptionTable.toList, False) (hC : CallFix p m c cX4_isNews 3 s args lw_G RX4) (hr : meth.sig.returnType = (some .boolean)) (hlocks : meth.locks = false) (hE : EnvOK E s) (h : fj_X4_isNews_31 s0 M = some (r, M')) (hM : MOK E M H) (hS : va_S (eA E) s.heap H locs) (hl : lv_has ls 3 []) : W p l e rm_X4_isNews s m args below meth c H locs 2 12 (vx_MQ below (cQx E (vI r) M') (cXx E (vI r) M') args s 2 12 (eA E)) (F0 m 31 ls [.int s0]) := by
  obtain ⟨hx, hb, hml, hown, hts⟩ := id hC
  unfold fj_X4_isNews_31 at h
  obtain ⟨h01, h⟩ := ifg h
  cases h
  exact xRet (eZ hx hb hr hlocks hM hS dX4_isNews_31 (Nat.le_of_ble_eq_true rfl) (Nat.le_of_ble_eq_true rfl) h01)
noncomputable def f_X4_isNews (this : Nat) (a1 : Int32) (a2 : Int32) (M : Mem) : Option ((Int32 ⊕ Nat) × Mem) :=
  bx (cK 5 this M (f_X4_requireMessage this a1 M)) (fun ex M => some ((.inr ex, M))) fun v1 M2 =>
  bx (cK 5 this M2 (f_X4_stateOf this a2 M2)) (fun ex M => some ((.inr ex, M))) fun v3 M4 =>
  (gRn 5 134 this M4).bind fun v5 =>
  (gRn 4 101 v5 M4).bind fun v6 =>
  (gBn 10 v6 a1 M4).bind fun v7 =>
  bn (cK 5 this M4 (f_X4_knowsAllOf this v3 v7 M4)) fun v8 M9 =>
  (if v8 = 0 then
  fj_X4_isNews_31 1 M9
  else
  fj_X4_isNews_31 0 M9)
set_option maxHeartbeats 4000000 in
set_option maxRecDepth 100000 in
theorem mt_X4_isNews (l : Launch) (hfl : l.stackTraces = false) (E : KEnv) (this : Nat) (a1 : Int32) (a2 : Int32) (M M' : Mem) (r : Int32 ⊕ Nat) (h : f_X4_isNews this a1 a2 M = some (r, M')) : vx_Met l yX4_isNews (Cond.code yX4_isNews cX4_isNews 3 (some .boolean) :: lw_G) rm_X4_isNews (cPc E [.ref this, .int a1, .int a2] M) (cQx E (vI r) M') (cXx E (vI r) M') 2 12 (eA E) := by
  refine vx_ofW (cc := cX4_isNews) (maxL := 3) (ret := (some .boolean)) (by decide) rfl ?_
  intro p e s m args below meth c s₁ B hml hout hv
  obtain ⟨rfl, hE, hM⟩ := hv
  have hx := B.exec
  have hb := B.bytes
  have hr := B.returns
  have hts0 := atoms_spec (ws := Cond.code yX4_isNews cX4_isNews 3 (some .boolean) :: lw_G) B.pre
  have hts : ∀ w ∈ lw_G, w.before _ s = true := fun w hw => hts0 w (List.mem_cons_of_mem _ hw)
  have hown : s.vm.findClass RX4 = some m.cls := findClass_of_methodNamed B.named
  have hlocks := B.notSynchronized
  have hC : CallFix p m c cX4_isNews 3 s _ lw_G RX4 := ⟨hx, hb, hml, hown, hts⟩
  have hS : va_S (eA E) s.heap s.heap [] := va_S.rf
  have hl := lv_entry ([.ref this, .int a1, .int a2]) (n := 3) (Nat.le_of_ble_eq_true rfl)
  rw [lg_entry_eq]
  generalize (lg_sl ([.ref this, .int a1, .int a2]) ++ List.replicate (3 - (lg_sl ([.ref this, .int a1, .int a2])).length) Slot.unset).toArray = ls at hl ⊢
  have hl : lv_has ls 3 [(0, .ref this), (1, .int a1), (2, .int a2)] := hl
  unfold f_X4_isNews at h
  show W p l e rm_X4_isNews s m _ below meth c s.heap [] 0 0 _ _
  refine lv_aload_n hx hb dX4_isNews_0 rfl (lv_at hl 0 rfl) ?_
  refine lv_iload_n hx hb dX4_isNews_1 rfl (lv_at hl 1 rfl) ?_
  rcases obx h with ⟨v1, M2, h1, h⟩ | ⟨ex, M9, h1, h⟩
  rotate_left
  · obtain ⟨hk1, h1⟩ := ifg h1
    cases h
    exact kx_out (kx_V (ci := 4) (As := [.int a1]) (rest := []) hC hE hS hM (mt_X4_requireMessage _ hfl E this a1 _ _ _ h1) (gwV qw_723 qw_725 qw_31 qw_39 qw_726) ⟨rfl, rfl, (Nat.le_of_ble_eq_true rfl), (Nat.le_of_ble_eq_true rfl)⟩ dd_X4_requireMessage rfl hk1 rfl rfl hl.1 (Nat.le_of_ble_eq_true rfl) dX4_isNews_2 ⟨(Nat.le_of_ble_eq_true rfl), (Nat.le_of_ble_eq_true rfl)⟩) hS hout hlocks (Nat.le_of_ble_eq_true rfl) (Nat.le_of_ble_eq_true rfl)
  obtain ⟨hk1, h1⟩ := ifg h1
  refine kx_ok0 (kx_V (ci := 4) (As := [.int a1]) (rest := []) hC hE hS hM (mt_X4_requireMessage _ hfl E this a1 _ _ _ h1) (gwV qw_723 qw_725 qw_31 qw_39 qw_726) ⟨rfl, rfl, (Nat.le_of_ble_eq_true rfl), (Nat.le_of_ble_eq_true rfl)⟩ dd_X4_requireMessage rfl hk1 rfl rfl hl.1 (Nat.le_of_ble_eq_true rfl) dX4_isNews_2 ⟨(Nat.le_of_ble_eq_true rfl), (Nat.le_of_ble_eq_true rfl)⟩) hS (fun H locs hM hS => ?_)
  refine lv_aload_n hx hb dX4_isNews_5 rfl (lv_at hl 0 rfl) ?_
  refine lv_aload_n hx hb dX4_isNews_6 rfl (lv_at hl 0 rfl) ?_
  refine lv_iload_n hx hb dX4_isNews_7 rfl (lv_at hl 2 rfl) ?_
  rcases obx h with ⟨v3, M4, h1, h⟩ | ⟨ex, M9, h1, h⟩
  rotate_left
  · obtain ⟨hk1, h1⟩ := ifg h1
    cases h
    exact kx_out (kx_V (ci := 4) (As := [.int a2]) (rest := [.ref this]) hC hE hS hM (mt_X4_stateOf _ hfl E this a2 _ _ _ h1) (gwV qw_619 qw_621 qw_25 qw_39 qw_622) ⟨rfl, rfl, (Nat.le_of_ble_eq_true rfl), (Nat.le_of_ble_eq_true rfl)⟩ dd_X4_stateOf rfl hk1 rfl rfl hl.1 (Nat.le_of_ble_eq_true rfl) dX4_isNews_8 ⟨(Nat.le_of_ble_eq_true rfl), (Nat.le_of_ble_eq_true rfl)⟩) hS hout hlocks (Nat.le_of_ble_eq_true rfl) (Nat.le_of_ble_eq_true rfl)
  obtain ⟨hk1, h1⟩ := ifg h1
  refine kx_ok1 (kx_V (ci := 4) (As := [.int a2]) (rest := [.ref this]) hC hE hS hM (mt_X4_stateOf _ hfl E this a2 _ _ _ h1) (gwV qw_619 qw_621 qw_25 qw_39 qw_622) ⟨rfl, rfl, (Nat.le_of_ble_eq_true rfl), (Nat.le_of_ble_eq_true rfl)⟩ dd_X4_stateOf rfl hk1 rfl rfl hl.1 (Nat.le_of_ble_eq_true rfl) dX4_isNews_8 ⟨(Nat.le_of_ble_eq_true rfl), (Nat.le_of_ble_eq_true rfl)⟩) hS (fun H locs hM hS => ?_)
  refine lv_aload_n hx hb dX4_isNews_11 rfl (lv_at hl 0 rfl) ?_
  obtain ⟨v5, h1, h⟩ := ob h
  refine rgn_4_6 hx hb hts hown hE hM qw_404 h1 dX4_isNews_12 ?_
  obtain ⟨v6, h1, h⟩ := ob h
  refine rgn_3_5 hx hb hts hown hE hM qw_105 h1 dX4_isNews_15 ?_
  refine lv_iload_n hx hb dX4_isNews_18 rfl (lv_at hl 1 rfl) ?_
  obtain ⟨v7, h1, h⟩ := ob h
  refine r_aldnS hx hb hE hM h1 dX4_isNews_19 ?_
  obtain ⟨v8, M9, h1, h⟩ := ob2 h
  obtain ⟨hk1, h1⟩ := ifg h1
  refine kV1 (ci := 4) (As := [.ref v3, .ref v7]) (rest := []) hC hE hS hM (mt_X4_knowsAllOf _ E this v3 v7 _ _ _ h1) (gwV qw_1044 qw_1046 qw_33 qw_39 qw_1047) ⟨rfl, rfl, (Nat.le_of_ble_eq_true rfl), (Nat.le_of_ble_eq_true rfl)⟩ dd_X4_knowsAllOf rfl hk1 rfl rfl hl.1 (Nat.le_of_ble_eq_true rfl) dX4_isNews_20 ⟨(Nat.le_of_ble_eq_true rfl), (Nat.le_of_ble_eq_true rfl)⟩ (fun H locs hM hS => ?_)
  refine lv_if_ne (tgt := 30) hx hb dX4_isNews_23 (by decide) (fun c1 => ?_) (fun c1 => ?_)
  · have h := ifn c1 h
    refine lv_iconst (v := 0) hx hb dX4_isNews_30 (by decide) ?_
    refine W.widen (k := 2) (n := 12) (Nat.le_of_ble_eq_true rfl) (Nat.le_of_ble_eq_true rfl) ?_
    exact tj_X4_isNews_31 hfl hout  hC hr hlocks hE  h hM hS (lv_sub hl [] rfl)
  · have h := ifp c1 h
    refine lv_iconst (v := 1) hx hb dX4_isNews_26 (by decide) ?_
    refine lv_goto (tgt := 31) hx hb dX4_isNews_27 (by decide) ?_
    refine W.widen (k := 2) (n := 12) (Nat.le_of_ble_eq_true rfl) (Nat.le_of_ble_eq_true rfl) ?_
    exact tj_X4_isNews_31 hfl hout  hC hr hlocks hE  h hM hS (lv_sub hl [] rfl)

theorem dd_X4_changeCounter : yX4_changeCounter.cls = RX4 ∧ yX4_changeCounter.cls ≠ "java/lang/invoke/MethodHandle" ∧ yX4_changeCounter.cls ≠ "java/lang/invoke/VarHandle" ∧ (parseMethodDescriptor yX4_changeCounter.desc).map (fun d => d.parameters.length) = some 4 := by decide +kernel
abbrev rm_X4_changeCounter : Room := ({ frames := 8, cells := 26, slots := 1365, locals := 132 } : Room)
noncomputable def fj_X4_changeCounter_25  (M : Mem) : Option ((Int32 ⊕ Nat) × Mem) :=
  some (.inr 1, M)
set_option maxHeartbeats 4000000 in
set_option maxRecDepth 100000 in
theorem tj_X4_changeCounter_25 {p : Program} {l : Launch} {e : Env} {s : State} {m : MethodId} {args : Array Value} {below : List Frame} {meth : Method} {c : Code} {E : KEnv} {H : Heap} {locs : List Loc} {ls : Array Slot}  {M : Mem} {r : Int32 ⊕ Nat} {M' : Mem} (hfl : l.stackTraces = false) (hout : ∀ x ∈ c.exceptionTable.toList, False) (hC : CallFix p m c cX4_changeCounter 6 s args lw_G RX4) (hr : meth.sig.returnType = (some .int)) (hlocks : meth.locks = false) (hE : EnvOK E s) (h : fj_X4_changeCounter_25  M = some (r, M')) (hM : MOK E M H) (hS : va_S (eA E) s.heap H locs) (hl : lv_has ls 6 []) : W p l e rm_X4_changeCounter s m args below meth c H locs 2 12 (vx_MQ below (cQx E (vI r) M') (cXx E (vI r) M') args s 26 1365 (eA E)) (F0 m 25 ls []) := by
  obtain ⟨hx, hb, hml, hown, hts⟩ := id hC
  unfold fj_X4_changeCounter_25 at h
  cases h
  exact xThr (i := 26) hfl hx hb hown hts hE hM hS (by decide) qw_575 qw_58 st_26 (ex_at hts hE ex_g1 ex_b1 (by decide)) (by decide +kernel) (hl.1.trans hml.symm) dX4_changeCounter_25 dX4_changeCounter_28 dX4_changeCounter_29 dX4_changeCounter_31 dX4_changeCounter_34 hout (Nat.le_of_ble_eq_true rfl) (Nat.le_of_ble_eq_true rfl) (Nat.le_of_ble_eq_true rfl) (Nat.le_of_ble_eq_true rfl) hlocks (Nat.le_of_ble_eq_true rfl) (Nat.le_of_ble_eq_true rfl)
noncomputable def f_X4_changeCounter (this : Nat) (a1 : Int32) (a2 : Int32) (a3 : Int32) (a4 : Int32) (M : Mem) : Option ((Int32 ⊕ Nat) × Mem) :=
  bx (cK 5 this M (f_X4_stateOf this a2 M)) (fun ex M => some ((.inr ex, M))) fun v1 M2 =>
  bx (cK 5 this M2 (f_X4_requireCounter this a3 M2)) (fun ex M => some ((.inr ex, M))) fun v3 M4 =>
  (if a4 < 1 then
  fj_X4_changeCounter_25 M4
  else
  (if a4 ≤ 99 then
  (gRn 5 136 this M4).bind fun v5 =>
  (gRn 5 134 this M4).bind fun v6 =>
  (cK 1 v5 M4 (f_X0_record v5 v6 M4)).bind fun M8 =>
  (cK 3 v1 M8 (f_X2_addToSum v1 a1 a3 a2 a4 M8)).bind fun M10 =>
  bn (cK 3 v1 M10 (f_X2_total v1 a3 M10)) fun v11 M12 =>
  some (.inl v11, M12)
  else
  fj_X4_changeCounter_25 M4))
set_option maxHeartbeats 4000000 in
set_option maxRecDepth 100000 in
theorem mt_X4_changeCounter (l : Launch) (hfl : l.stackTraces = false) (E : KEnv) (this : Nat) (a1 : Int32) (a2 : Int32) (a3 : Int32) (a4 : Int32) (M M' : Mem) (r : Int32 ⊕ Nat) (h : f_X4_changeCounter this a1 a2 a3 a4 M = some (r, M')) : vx_Met l yX4_changeCounter (Cond.code yX4_changeCounter cX4_changeCounter 6 (some .int) :: lw_G) rm_X4_changeCounter (cPc E [.ref this, .int a1, .int a2, .int a3, .int a4] M) (cQx E (vI r) M') (cXx E (vI r) M') 26 1365 (eA E) := by
  refine vx_ofW (cc := cX4_changeCounter) (maxL := 6) (ret := (some .int)) (by decide) rfl ?_
  intro p e s m args below meth c s₁ B hml hout hv
  obtain ⟨rfl, hE, hM⟩ := hv
  have hx := B.exec
  have hb := B.bytes
  have hr := B.returns
  have hts0 := atoms_spec (ws := Cond.code yX4_changeCounter cX4_changeCounter 6 (some .int) :: lw_G) B.pre
  have hts : ∀ w ∈ lw_G, w.before _ s = true := fun w hw => hts0 w (List.mem_cons_of_mem _ hw)
  have hown : s.vm.findClass RX4 = some m.cls := findClass_of_methodNamed B.named
  have hlocks := B.notSynchronized
  have hC : CallFix p m c cX4_changeCounter 6 s _ lw_G RX4 := ⟨hx, hb, hml, hown, hts⟩
  have hS : va_S (eA E) s.heap s.heap [] := va_S.rf
  have hl := lv_entry ([.ref this, .int a1, .int a2, .int a3, .int a4]) (n := 6) (Nat.le_of_ble_eq_true rfl)
  rw [lg_entry_eq]
  generalize (lg_sl ([.ref this, .int a1, .int a2, .int a3, .int a4]) ++ List.replicate (6 - (lg_sl ([.ref this, .int a1, .int a2, .int a3, .int a4])).length) Slot.unset).toArray = ls at hl ⊢
  have hl : lv_has ls 6 [(0, .ref this), (1, .int a1), (2, .int a2), (3, .int a3), (4, .int a4)] := hl
  unfold f_X4_changeCounter at h
  show W p l e rm_X4_changeCounter s m _ below meth c s.heap [] 0 0 _ _
  refine lv_aload_n hx hb dX4_changeCounter_0 rfl (lv_at hl 0 rfl) ?_
  refine lv_iload_n hx hb dX4_changeCounter_1 rfl (lv_at hl 2 rfl) ?_
  rcases obx h with ⟨v1, M2, h1, h⟩ | ⟨ex, M9, h1, h⟩
  rotate_left
  · obtain ⟨hk1, h1⟩ := ifg h1
    cases h
    exact kx_out (kx_V (ci := 4) (As := [.int a2]) (rest := []) hC hE hS hM (mt_X4_stateOf _ hfl E this a2 _ _ _ h1) (gwV qw_619 qw_621 qw_25 qw_39 qw_622) ⟨rfl, rfl, (Nat.le_of_ble_eq_true rfl), (Nat.le_of_ble_eq_true rfl)⟩ dd_X4_stateOf rfl hk1 rfl rfl hl.1 (Nat.le_of_ble_eq_true rfl) dX4_changeCounter_2 ⟨(Nat.le_of_ble_eq_true rfl), (Nat.le_of_ble_eq_true rfl)⟩) hS hout hlocks (Nat.le_of_ble_eq_true rfl) (Nat.le_of_ble_eq_true rfl)
  obtain ⟨hk1, h1⟩ := ifg h1
  refine kx_ok1 (kx_V (ci := 4) (As := [.int a2]) (rest := []) hC hE hS hM (mt_X4_stateOf _ hfl E this a2 _ _ _ h1) (gwV qw_619 qw_621 qw_25 qw_39 qw_622) ⟨rfl, rfl, (Nat.le_of_ble_eq_true rfl), (Nat.le_of_ble_eq_true rfl)⟩ dd_X4_stateOf rfl hk1 rfl rfl hl.1 (Nat.le_of_ble_eq_true rfl) dX4_changeCounter_2 ⟨(Nat.le_of_ble_eq_true rfl), (Nat.le_of_ble_eq_true rfl)⟩) hS (fun H locs hM hS => ?_)
  refine lv_astore (lv' := [(5, .ref v1), (0, .ref this), (1, .int a1), (2, .int a2), (3, .int a3), (4, .int a4)]) hx hb dX4_changeCounter_5 hl (by decide) rfl (fun ls hl => ?_)
  refine lv_aload_n hx hb dX4_changeCounter_7 rfl (lv_at hl 1 rfl) ?_
  refine lv_iload_n hx hb dX4_changeCounter_8 rfl (lv_at hl 4 rfl) ?_
  rcases obx h with ⟨v3, M4, h1, h⟩ | ⟨ex, M9, h1, h⟩
  rotate_left
  · obtain ⟨hk1, h1⟩ := ifg h1
    cases h
    exact kx_out (kx_V (ci := 4) (As := [.int a3]) (rest := []) hC hE hS hM (mt_X4_requireCounter _ hfl E this a3 _ _ _ h1) (gwV qw_628 qw_630 qw_27 qw_39 qw_631) ⟨rfl, rfl, (Nat.le_of_ble_eq_true rfl), (Nat.le_of_ble_eq_true rfl)⟩ dd_X4_requireCounter rfl hk1 rfl rfl hl.1 (Nat.le_of_ble_eq_true rfl) dX4_changeCounter_9 ⟨(Nat.le_of_ble_eq_true rfl), (Nat.le_of_ble_eq_true rfl)⟩) hS hout hlocks (Nat.le_of_ble_eq_true rfl) (Nat.le_of_ble_eq_true rfl)
  obtain ⟨hk1, h1⟩ := ifg h1
  refine kx_ok0 (kx_V (ci := 4) (As := [.int a3]) (rest := []) hC hE hS hM (mt_X4_requireCounter _ hfl E this a3 _ _ _ h1) (gwV qw_628 qw_630 qw_27 qw_39 qw_631) ⟨rfl, rfl, (Nat.le_of_ble_eq_true rfl), (Nat.le_of_ble_eq_true rfl)⟩ dd_X4_requireCounter rfl hk1 rfl rfl hl.1 (Nat.le_of_ble_eq_true rfl) dX4_changeCounter_9 ⟨(Nat.le_of_ble_eq_true rfl), (Nat.le_of_ble_eq_true rfl)⟩) hS (fun H locs hM hS => ?_)
  refine lv_iload hx hb dX4_changeCounter_12 (lv_at hl 5 rfl) ?_
  refine lv_iconst (v := 1) hx hb dX4_changeCounter_14 (by decide) ?_
  refine lv_icmp_lt (tgt := 25) hx hb dX4_changeCounter_15 (by decide) (fun c1 => ?_) (fun c1 => ?_)
  · have h := ifp c1 h
    refine W.widen (k := 2) (n := 12) (Nat.le_of_ble_eq_true rfl) (Nat.le_of_ble_eq_true rfl) ?_
    exact tj_X4_changeCounter_25 hfl hout  hC hr hlocks hE  h hM hS (lv_sub hl [] rfl)
  · have h := ifn c1 h
    refine lv_iload hx hb dX4_changeCounter_18 (lv_at hl 5 rfl) ?_
    refine lv_bipush (v := 99) hx hb dX4_changeCounter_20 (by decide) ?_
    refine lv_icmp_le (tgt := 35) hx hb dX4_changeCounter_22 (by decide) (fun c1 => ?_) (fun c1 => ?_)
    · have h := ifp c1 h
      refine lv_aload_n hx hb dX4_changeCounter_35 rfl (lv_at hl 1 rfl) ?_
      obtain ⟨v5, h1, h⟩ := ob h
      refine rgn_4_8 hx hb hts hown hE hM qw_406 h1 dX4_changeCounter_36 ?_
      refine lv_aload_n hx hb dX4_changeCounter_39 rfl (lv_at hl 1 rfl) ?_
      obtain ⟨v6, h1, h⟩ := ob h
      refine rgn_4_6 hx hb hts hown hE hM qw_404 h1 dX4_changeCounter_40 ?_
      obtain ⟨M8, h1, h⟩ := ob h
      obtain ⟨hk1, h1⟩ := ifg h1
      refine kV0 (ci := 0) (As := [.ref v6]) (rest := []) hC hE hS hM (mt_X0_record _ E v5 v6 _ _ h1) (gwV qw_526 qw_527 qw_528 qw_42 qw_529) ⟨rfl, rfl, (Nat.le_of_ble_eq_true rfl), (Nat.le_of_ble_eq_true rfl)⟩ dd_X0_record rfl hk1 rfl rfl hl.1 (Nat.le_of_ble_eq_true rfl) dX4_changeCounter_43 ⟨(Nat.le_of_ble_eq_true rfl), (Nat.le_of_ble_eq_true rfl)⟩ (fun H locs hM hS => ?_)
      refine lv_aload hx hb dX4_changeCounter_46 (lv_at hl 0 rfl) ?_
      refine lv_iload_n hx hb dX4_changeCounter_48 rfl (lv_at hl 2 rfl) ?_
      refine lv_iload_n hx hb dX4_changeCounter_49 rfl (lv_at hl 4 rfl) ?_
      refine lv_iload_n hx hb dX4_changeCounter_50 rfl (lv_at hl 3 rfl) ?_
      refine lv_iload hx hb dX4_changeCounter_51 (lv_at hl 5 rfl) ?_
      obtain ⟨M10, h1, h⟩ := ob h
      obtain ⟨hk1, h1⟩ := ifg h1
      refine kV0 (ci := 2) (As := [.int a1, .int a3, .int a2, .int a4]) (rest := []) hC hE hS hM (mt_X2_addToSum _ E v1 a1 a3 a2 a4 _ _ h1) (gwV qw_634 qw_310 qw_311 qw_41 qw_312) ⟨rfl, rfl, (Nat.le_of_ble_eq_true rfl), (Nat.le_of_ble_eq_true rfl)⟩ dd_X2_addToSum rfl hk1 rfl rfl hl.1 (Nat.le_of_ble_eq_true rfl) dX4_changeCounter_53 ⟨(Nat.le_of_ble_eq_true rfl), (Nat.le_of_ble_eq_true rfl)⟩ (fun H locs hM hS => ?_)
      refine lv_aload hx hb dX4_changeCounter_56 (lv_at hl 0 rfl) ?_
      refine lv_iload_n hx hb dX4_changeCounter_58 rfl (lv_at hl 4 rfl) ?_
      obtain ⟨v11, M12, h1, h⟩ := ob2 h
      obtain ⟨hk1, h1⟩ := ifg h1
      refine kV1 (ci := 2) (As := [.int a3]) (rest := []) hC hE hS hM (mt_X2_total _ E v1 a3 _ _ _ h1) (gwV qw_635 qw_636 qw_637 qw_41 qw_638) ⟨rfl, rfl, (Nat.le_of_ble_eq_true rfl), (Nat.le_of_ble_eq_true rfl)⟩ dd_X2_total rfl hk1 rfl rfl hl.1 (Nat.le_of_ble_eq_true rfl) dX4_changeCounter_59 ⟨(Nat.le_of_ble_eq_true rfl), (Nat.le_of_ble_eq_true rfl)⟩ (fun H locs hM hS => ?_)
      cases h
      exact xRet (eI hx hb hr hlocks hM hS dX4_changeCounter_62 (Nat.le_of_ble_eq_true rfl) (Nat.le_of_ble_eq_true rfl))
    · have h := ifn c1 h
      refine W.widen (k := 2) (n := 12) (Nat.le_of_ble_eq_true rfl) (Nat.le_of_ble_eq_true rfl) ?_
      exact tj_X4_changeCounter_25 hfl hout  hC hr hlocks hE  h hM hS (lv_sub hl [] rfl)

theorem dd_X4_increment : yX4_increment.cls = RX4 ∧ yX4_increment.cls ≠ "java/lang/invoke/MethodHandle" ∧ yX4_increment.cls ≠ "java/lang/invoke/VarHandle" ∧ (parseMethodDescriptor yX4_increment.desc).map (fun d => d.parameters.length) = some 3 := by decide +kernel
abbrev rm_X4_increment : Room := ({ frames := 9, cells := 26, slots := 1365, locals := 157 } : Room)
noncomputable def f_X4_increment (this : Nat) (a1 : Int32) (a2 : Int32) (a3 : Int32) (M : Mem) : Option ((Int32 ⊕ Nat) × Mem) :=
  bx (cK 5 this M (f_X4_changeCounter this 4 a1 a2 a3 M)) (fun ex M => some ((.inr ex, M))) fun v1 M2 =>
  some (.inl v1, M2)
set_option maxHeartbeats 4000000 in
set_option maxRecDepth 100000 in
theorem mt_X4_increment (l : Launch) (hfl : l.stackTraces = false) (E : KEnv) (this : Nat) (a1 : Int32) (a2 : Int32) (a3 : Int32) (M M' : Mem) (r : Int32 ⊕ Nat) (h : f_X4_increment this a1 a2 a3 M = some (r, M')) : vx_Met l yX4_increment (Cond.code yX4_increment cX4_increment 4 (some .int) :: lw_G) rm_X4_increment (cPc E [.ref this, .int a1, .int a2, .int a3] M) (cQx E (vI r) M') (cXx E (vI r) M') 26 1365 (eA E) := by
  refine vx_ofW (cc := cX4_increment) (maxL := 4) (ret := (some .int)) (by decide) rfl ?_
  intro p e s m args below meth c s₁ B hml hout hv
  obtain ⟨rfl, hE, hM⟩ := hv
  have hx := B.exec
  have hb := B.bytes
  have hr := B.returns
  have hts0 := atoms_spec (ws := Cond.code yX4_increment cX4_increment 4 (some .int) :: lw_G) B.pre
  have hts : ∀ w ∈ lw_G, w.before _ s = true := fun w hw => hts0 w (List.mem_cons_of_mem _ hw)
  have hown : s.vm.findClass RX4 = some m.cls := findClass_of_methodNamed B.named
  have hlocks := B.notSynchronized
  have hC : CallFix p m c cX4_increment 4 s _ lw_G RX4 := ⟨hx, hb, hml, hown, hts⟩
  have hS : va_S (eA E) s.heap s.heap [] := va_S.rf
  have hl := lv_entry ([.ref this, .int a1, .int a2, .int a3]) (n := 4) (Nat.le_of_ble_eq_true rfl)
  rw [lg_entry_eq]
  generalize (lg_sl ([.ref this, .int a1, .int a2, .int a3]) ++ List.replicate (4 - (lg_sl ([.ref this, .int a1, .int a2, .int a3])).length) Slot.unset).toArray = ls at hl ⊢
  have hl : lv_has ls 4 [(0, .ref this), (1, .int a1), (2, .int a2), (3, .int a3)] := hl
  unfold f_X4_increment at h
  show W p l e rm_X4_increment s m _ below meth c s.heap [] 0 0 _ _
  refine lv_aload_n hx hb dX4_increment_0 rfl (lv_at hl 0 rfl) ?_
  refine lv_iconst (v := 4) hx hb dX4_increment_1 (by decide) ?_
  refine lv_iload_n hx hb dX4_increment_2 rfl (lv_at hl 1 rfl) ?_
  refine lv_iload_n hx hb dX4_increment_3 rfl (lv_at hl 2 rfl) ?_
  refine lv_iload_n hx hb dX4_increment_4 rfl (lv_at hl 3 rfl) ?_
  rcases obx h with ⟨v1, M2, h1, h⟩ | ⟨ex, M9, h1, h⟩
  rotate_left
  · obtain ⟨hk1, h1⟩ := ifg h1
    cases h
    exact kx_out (kx_V (ci := 4) (As := [.int 4, .int a1, .int a2, .int a3]) (rest := []) hC hE hS hM (mt_X4_changeCounter _ hfl E this 4 a1 a2 a3 _ _ _ h1) (gwV qw_615 qw_617 qw_24 qw_39 qw_618) ⟨rfl, rfl, (Nat.le_of_ble_eq_true rfl), (Nat.le_of_ble_eq_true rfl)⟩ dd_X4_changeCounter rfl hk1 rfl rfl hl.1 (Nat.le_of_ble_eq_true rfl) dX4_increment_5 ⟨(Nat.le_of_ble_eq_true rfl), (Nat.le_of_ble_eq_true rfl)⟩) hS hout hlocks (Nat.le_of_ble_eq_true rfl) (Nat.le_of_ble_eq_true rfl)
  obtain ⟨hk1, h1⟩ := ifg h1
  refine kx_ok1 (kx_V (ci := 4) (As := [.int 4, .int a1, .int a2, .int a3]) (rest := []) hC hE hS hM (mt_X4_changeCounter _ hfl E this 4 a1 a2 a3 _ _ _ h1) (gwV qw_615 qw_617 qw_24 qw_39 qw_618) ⟨rfl, rfl, (Nat.le_of_ble_eq_true rfl), (Nat.le_of_ble_eq_true rfl)⟩ dd_X4_changeCounter rfl hk1 rfl rfl hl.1 (Nat.le_of_ble_eq_true rfl) dX4_increment_5 ⟨(Nat.le_of_ble_eq_true rfl), (Nat.le_of_ble_eq_true rfl)⟩) hS (fun H locs hM hS => ?_)
  cases h
  exact xRet (eI hx hb hr hlocks hM hS dX4_increment_8 (Nat.le_of_ble_eq_true rfl) (Nat.le_of_ble_eq_true rfl))

theorem dd_X4_decrement : yX4_decrement.cls = RX4 ∧ yX4_decrement.cls ≠ "java/lang/invoke/MethodHandle" ∧ yX4_decrement.cls ≠ "java/lang/invoke/VarHandle" ∧ (parseMethodDescriptor yX4_decrement.desc).map (fun d => d.parameters.length) = some 3 := by decide +kernel
abbrev rm_X4_decrement : Room := ({ frames := 9, cells := 26, slots := 1365, locals := 157 } : Room)
noncomputable def f_X4_decrement (this : Nat) (a1 : Int32) (a2 : Int32) (a3 : Int32) (M : Mem) : Option ((Int32 ⊕ Nat) × Mem) :=
  bx (cK 5 this M (f_X4_changeCounter this 20 a1 a2 a3 M)) (fun ex M => some ((.inr ex, M))) fun v1 M2 =>
  some (.inl v1, M2)
set_option maxHeartbeats 4000000 in
set_option maxRecDepth 100000 in
theorem mt_X4_decrement (l : Launch) (hfl : l.stackTraces = false) (E : KEnv) (this : Nat) (a1 : Int32) (a2 : Int32) (a3 : Int32) (M M' : Mem) (r : Int32 ⊕ Nat) (h : f_X4_decrement this a1 a2 a3 M = some (r, M')) : vx_Met l yX4_decrement (Cond.code yX4_decrement cX4_decrement 4 (some .int) :: lw_G) rm_X4_decrement (cPc E [.ref this, .int a1, .int a2, .int a3] M) (cQx E (vI r) M') (cXx E (vI r) M') 26 1365 (eA E) := by
  refine vx_ofW (cc := cX4_decrement) (maxL := 4) (ret := (some .int)) (by decide) rfl ?_
  intro p e s m args below meth c s₁ B hml hout hv
  obtain ⟨rfl, hE, hM⟩ := hv
  have hx := B.exec
  have hb := B.bytes
  have hr := B.returns
  have hts0 := atoms_spec (ws := Cond.code yX4_decrement cX4_decrement 4 (some .int) :: lw_G) B.pre
  have hts : ∀ w ∈ lw_G, w.before _ s = true := fun w hw => hts0 w (List.mem_cons_of_mem _ hw)
  have hown : s.vm.findClass RX4 = some m.cls := findClass_of_methodNamed B.named
  have hlocks := B.notSynchronized
  have hC : CallFix p m c cX4_decrement 4 s _ lw_G RX4 := ⟨hx, hb, hml, hown, hts⟩
  have hS : va_S (eA E) s.heap s.heap [] := va_S.rf
  have hl := lv_entry ([.ref this, .int a1, .int a2, .int a3]) (n := 4) (Nat.le_of_ble_eq_true rfl)
  rw [lg_entry_eq]
  generalize (lg_sl ([.ref this, .int a1, .int a2, .int a3]) ++ List.replicate (4 - (lg_sl ([.ref this, .int a1, .int a2, .int a3])).length) Slot.unset).toArray = ls at hl ⊢
  have hl : lv_has ls 4 [(0, .ref this), (1, .int a1), (2, .int a2), (3, .int a3)] := hl
  unfold f_X4_decrement at h
  show W p l e rm_X4_decrement s m _ below meth c s.heap [] 0 0 _ _
  refine lv_aload_n hx hb dX4_decrement_0 rfl (lv_at hl 0 rfl) ?_
  refine lv_bipush (v := 20) hx hb dX4_decrement_1 (by decide) ?_
  refine lv_iload_n hx hb dX4_decrement_3 rfl (lv_at hl 1 rfl) ?_
  refine lv_iload_n hx hb dX4_decrement_4 rfl (lv_at hl 2 rfl) ?_
  refine lv_iload_n hx hb dX4_decrement_5 rfl (lv_at hl 3 rfl) ?_
  rcases obx h with ⟨v1, M2, h1, h⟩ | ⟨ex, M9, h1, h⟩
  rotate_left
  · obtain ⟨hk1, h1⟩ := ifg h1
    cases h
    exact kx_out (kx_V (ci := 4) (As := [.int 20, .int a1, .int a2, .int a3]) (rest := []) hC hE hS hM (mt_X4_changeCounter _ hfl E this 20 a1 a2 a3 _ _ _ h1) (gwV qw_615 qw_617 qw_24 qw_39 qw_618) ⟨rfl, rfl, (Nat.le_of_ble_eq_true rfl), (Nat.le_of_ble_eq_true rfl)⟩ dd_X4_changeCounter rfl hk1 rfl rfl hl.1 (Nat.le_of_ble_eq_true rfl) dX4_decrement_6 ⟨(Nat.le_of_ble_eq_true rfl), (Nat.le_of_ble_eq_true rfl)⟩) hS hout hlocks (Nat.le_of_ble_eq_true rfl) (Nat.le_of_ble_eq_true rfl)
  obtain ⟨hk1, h1⟩ := ifg h1
  refine kx_ok1 (kx_V (ci := 4) (As := [.int 20, .int a1, .int a2, .int a3]) (rest := []) hC hE hS hM (mt_X4_changeCounter _ hfl E this 20 a1 a2 a3 _ _ _ h1) (gwV qw_615 qw_617 qw_24 qw_39 qw_618) ⟨rfl, rfl, (Nat.le_of_ble_eq_true rfl), (Nat.le_of_ble_eq_true rfl)⟩ dd_X4_changeCounter rfl hk1 rfl rfl hl.1 (Nat.le_of_ble_eq_true rfl) dX4_decrement_6 ⟨(Nat.le_of_ble_eq_true rfl), (Nat.le_of_ble_eq_true rfl)⟩) hS (fun H locs hM hS => ?_)
  cases h
  exact xRet (eI hx hb hr hlocks hM hS dX4_decrement_9 (Nat.le_of_ble_eq_true rfl) (Nat.le_of_ble_eq_true rfl))

theorem dd_X4_addTag : yX4_addTag.cls = RX4 ∧ yX4_addTag.cls ≠ "java/lang/invoke/MethodHandle" ∧ yX4_addTag.cls ≠ "java/lang/invoke/VarHandle" ∧ (parseMethodDescriptor yX4_addTag.desc).map (fun d => d.parameters.length) = some 2 := by decide +kernel
abbrev rm_X4_addTag : Room := ({ frames := 8, cells := 26, slots := 1365, locals := 132 } : Room)
noncomputable def f_X4_addTag (this : Nat) (a1 : Int32) (a2 : Int32) (M : Mem) : Option ((Int32 ⊕ Nat) × Mem) :=
  bx (cK 5 this M (f_X4_stateOf this a1 M)) (fun ex M => some ((.inr ex, M))) fun v1 M2 =>
  bx (cK 5 this M2 (f_X4_requireTag this a2 M2)) (fun ex M => some ((.inr ex, M))) fun v3 M4 =>
  (gRn 5 136 this M4).bind fun v5 =>
  (gRn 5 134 this M4).bind fun v6 =>
  (cK 1 v5 M4 (f_X0_record v5 v6 M4)).bind fun M8 =>
  (cK 3 v1 M8 (f_X2_putTag v1 a1 a2 M8)).bind fun M10 =>
  bn (cK 3 v1 M10 (f_X2_version v1 a1 M10)) fun v11 M12 =>
  some (.inl v11, M12)
set_option maxHeartbeats 4000000 in
set_option maxRecDepth 100000 in
theorem mt_X4_addTag (l : Launch) (hfl : l.stackTraces = false) (E : KEnv) (this : Nat) (a1 : Int32) (a2 : Int32) (M M' : Mem) (r : Int32 ⊕ Nat) (h : f_X4_addTag this a1 a2 M = some (r, M')) : vx_Met l yX4_addTag (Cond.code yX4_addTag cX4_addTag 4 (some .int) :: lw_G) rm_X4_addTag (cPc E [.ref this, .int a1, .int a2] M) (cQx E (vI r) M') (cXx E (vI r) M') 26 1365 (eA E) := by
  refine vx_ofW (cc := cX4_addTag) (maxL := 4) (ret := (some .int)) (by decide) rfl ?_
  intro p e s m args below meth c s₁ B hml hout hv
  obtain ⟨rfl, hE, hM⟩ := hv
  have hx := B.exec
  have hb := B.bytes
  have hr := B.returns
  have hts0 := atoms_spec (ws := Cond.code yX4_addTag cX4_addTag 4 (some .int) :: lw_G) B.pre
  have hts : ∀ w ∈ lw_G, w.before _ s = true := fun w hw => hts0 w (List.mem_cons_of_mem _ hw)
  have hown : s.vm.findClass RX4 = some m.cls := findClass_of_methodNamed B.named
  have hlocks := B.notSynchronized
  have hC : CallFix p m c cX4_addTag 4 s _ lw_G RX4 := ⟨hx, hb, hml, hown, hts⟩
  have hS : va_S (eA E) s.heap s.heap [] := va_S.rf
  have hl := lv_entry ([.ref this, .int a1, .int a2]) (n := 4) (Nat.le_of_ble_eq_true rfl)
  rw [lg_entry_eq]
  generalize (lg_sl ([.ref this, .int a1, .int a2]) ++ List.replicate (4 - (lg_sl ([.ref this, .int a1, .int a2])).length) Slot.unset).toArray = ls at hl ⊢
  have hl : lv_has ls 4 [(0, .ref this), (1, .int a1), (2, .int a2)] := hl
  unfold f_X4_addTag at h
  show W p l e rm_X4_addTag s m _ below meth c s.heap [] 0 0 _ _
  refine lv_aload_n hx hb dX4_addTag_0 rfl (lv_at hl 0 rfl) ?_
  refine lv_iload_n hx hb dX4_addTag_1 rfl (lv_at hl 1 rfl) ?_
  rcases obx h with ⟨v1, M2, h1, h⟩ | ⟨ex, M9, h1, h⟩
  rotate_left
  · obtain ⟨hk1, h1⟩ := ifg h1
    cases h
    exact kx_out (kx_V (ci := 4) (As := [.int a1]) (rest := []) hC hE hS hM (mt_X4_stateOf _ hfl E this a1 _ _ _ h1) (gwV qw_619 qw_621 qw_25 qw_39 qw_622) ⟨rfl, rfl, (Nat.le_of_ble_eq_true rfl), (Nat.le_of_ble_eq_true rfl)⟩ dd_X4_stateOf rfl hk1 rfl rfl hl.1 (Nat.le_of_ble_eq_true rfl) dX4_addTag_2 ⟨(Nat.le_of_ble_eq_true rfl), (Nat.le_of_ble_eq_true rfl)⟩) hS hout hlocks (Nat.le_of_ble_eq_true rfl) (Nat.le_of_ble_eq_true rfl)
  obtain ⟨hk1, h1⟩ := ifg h1
  refine kx_ok1 (kx_V (ci := 4) (As := [.int a1]) (rest := []) hC hE hS hM (mt_X4_stateOf _ hfl E this a1 _ _ _ h1) (gwV qw_619 qw_621 qw_25 qw_39 qw_622) ⟨rfl, rfl, (Nat.le_of_ble_eq_true rfl), (Nat.le_of_ble_eq_true rfl)⟩ dd_X4_stateOf rfl hk1 rfl rfl hl.1 (Nat.le_of_ble_eq_true rfl) dX4_addTag_2 ⟨(Nat.le_of_ble_eq_true rfl), (Nat.le_of_ble_eq_true rfl)⟩) hS (fun H locs hM hS => ?_)
  refine lv_astore_n (lv' := [(3, .ref v1), (0, .ref this), (1, .int a1), (2, .int a2)]) hx hb dX4_addTag_5 rfl hl (by decide) rfl (fun ls hl => ?_)
  refine lv_aload_n hx hb dX4_addTag_6 rfl (lv_at hl 1 rfl) ?_
  refine lv_iload_n hx hb dX4_addTag_7 rfl (lv_at hl 3 rfl) ?_
  rcases obx h with ⟨v3, M4, h1, h⟩ | ⟨ex, M9, h1, h⟩
  rotate_left
  · obtain ⟨hk1, h1⟩ := ifg h1
    cases h
    exact kx_out (kx_V (ci := 4) (As := [.int a2]) (rest := []) hC hE hS hM (mt_X4_requireTag _ hfl E this a2 _ _ _ h1) (gwV qw_652 qw_654 qw_28 qw_39 qw_655) ⟨rfl, rfl, (Nat.le_of_ble_eq_true rfl), (Nat.le_of_ble_eq_true rfl)⟩ dd_X4_requireTag rfl hk1 rfl rfl hl.1 (Nat.le_of_ble_eq_true rfl) dX4_addTag_8 ⟨(Nat.le_of_ble_eq_true rfl), (Nat.le_of_ble_eq_true rfl)⟩) hS hout hlocks (Nat.le_of_ble_eq_true rfl) (Nat.le_of_ble_eq_true rfl)
  obtain ⟨hk1, h1⟩ := ifg h1
  refine kx_ok0 (kx_V (ci := 4) (As := [.int a2]) (rest := []) hC hE hS hM (mt_X4_requireTag _ hfl E this a2 _ _ _ h1) (gwV qw_652 qw_654 qw_28 qw_39 qw_655) ⟨rfl, rfl, (Nat.le_of_ble_eq_true rfl), (Nat.le_of_ble_eq_true rfl)⟩ dd_X4_requireTag rfl hk1 rfl rfl hl.1 (Nat.le_of_ble_eq_true rfl) dX4_addTag_8 ⟨(Nat.le_of_ble_eq_true rfl), (Nat.le_of_ble_eq_true rfl)⟩) hS (fun H locs hM hS => ?_)
  refine lv_aload_n hx hb dX4_addTag_11 rfl (lv_at hl 1 rfl) ?_
  obtain ⟨v5, h1, h⟩ := ob h
  refine rgn_4_8 hx hb hts hown hE hM qw_406 h1 dX4_addTag_12 ?_
  refine lv_aload_n hx hb dX4_addTag_15 rfl (lv_at hl 1 rfl) ?_
  obtain ⟨v6, h1, h⟩ := ob h
  refine rgn_4_6 hx hb hts hown hE hM qw_404 h1 dX4_addTag_16 ?_
  obtain ⟨M8, h1, h⟩ := ob h
  obtain ⟨hk1, h1⟩ := ifg h1
  refine kV0 (ci := 0) (As := [.ref v6]) (rest := []) hC hE hS hM (mt_X0_record _ E v5 v6 _ _ h1) (gwV qw_526 qw_527 qw_528 qw_42 qw_529) ⟨rfl, rfl, (Nat.le_of_ble_eq_true rfl), (Nat.le_of_ble_eq_true rfl)⟩ dd_X0_record rfl hk1 rfl rfl hl.1 (Nat.le_of_ble_eq_true rfl) dX4_addTag_19 ⟨(Nat.le_of_ble_eq_true rfl), (Nat.le_of_ble_eq_true rfl)⟩ (fun H locs hM hS => ?_)
  refine lv_aload_n hx hb dX4_addTag_22 rfl (lv_at hl 0 rfl) ?_
  refine lv_iload_n hx hb dX4_addTag_23 rfl (lv_at hl 2 rfl) ?_
  refine lv_iload_n hx hb dX4_addTag_24 rfl (lv_at hl 3 rfl) ?_
  obtain ⟨M10, h1, h⟩ := ob h
  obtain ⟨hk1, h1⟩ := ifg h1
  refine kV0 (ci := 2) (As := [.int a1, .int a2]) (rest := []) hC hE hS hM (mt_X2_putTag _ E v1 a1 a2 _ _ h1) (gwV qw_657 qw_324 qw_325 qw_41 qw_326) ⟨rfl, rfl, (Nat.le_of_ble_eq_true rfl), (Nat.le_of_ble_eq_true rfl)⟩ dd_X2_putTag rfl hk1 rfl rfl hl.1 (Nat.le_of_ble_eq_true rfl) dX4_addTag_25 ⟨(Nat.le_of_ble_eq_true rfl), (Nat.le_of_ble_eq_true rfl)⟩ (fun H locs hM hS => ?_)
  refine lv_aload_n hx hb dX4_addTag_28 rfl (lv_at hl 0 rfl) ?_
  refine lv_iload_n hx hb dX4_addTag_29 rfl (lv_at hl 2 rfl) ?_
  obtain ⟨v11, M12, h1, h⟩ := ob2 h
  obtain ⟨hk1, h1⟩ := ifg h1
  refine kV1 (ci := 2) (As := [.int a1]) (rest := []) hC hE hS hM (mt_X2_version _ E v1 a1 _ _ _ h1) (gwV qw_658 qw_659 qw_660 qw_41 qw_661) ⟨rfl, rfl, (Nat.le_of_ble_eq_true rfl), (Nat.le_of_ble_eq_true rfl)⟩ dd_X2_version rfl hk1 rfl rfl hl.1 (Nat.le_of_ble_eq_true rfl) dX4_addTag_30 ⟨(Nat.le_of_ble_eq_true rfl), (Nat.le_of_ble_eq_true rfl)⟩ (fun H locs hM hS => ?_)
  cases h
  exact xRet (eI hx hb hr hlocks hM hS dX4_addTag_33 (Nat.le_of_ble_eq_true rfl) (Nat.le_of_ble_eq_true rfl))

theorem dd_X4_removeTag : yX4_removeTag.cls = RX4 ∧ yX4_removeTag.cls ≠ "java/lang/invoke/MethodHandle" ∧ yX4_removeTag.cls ≠ "java/lang/invoke/VarHandle" ∧ (parseMethodDescriptor yX4_removeTag.desc).map (fun d => d.parameters.length) = some 2 := by decide +kernel
abbrev rm_X4_removeTag : Room := ({ frames := 8, cells := 26, slots := 1365, locals := 132 } : Room)
noncomputable def f_X4_removeTag (this : Nat) (a1 : Int32) (a2 : Int32) (M : Mem) : Option ((Int32 ⊕ Nat) × Mem) :=
  bx (cK 5 this M (f_X4_stateOf this a1 M)) (fun ex M => some ((.inr ex, M))) fun v1 M2 =>
  bx (cK 5 this M2 (f_X4_requireTag this a2 M2)) (fun ex M => some ((.inr ex, M))) fun v3 M4 =>
  bn (cK 3 v1 M4 (f_X2_dotsOfTag v1 a2 M4)) fun v5 M6 =>
  (if v5 = 0 then
  some (.inr 2, M6)
  else
  (gRn 5 136 this M6).bind fun v7 =>
  (gRn 5 134 this M6).bind fun v8 =>
  (cK 1 v7 M6 (f_X0_record v7 v8 M6)).bind fun M10 =>
  (cK 3 v1 M10 (f_X2_clearTag v1 a2 M10)).bind fun M12 =>
  some (.inl v5, M12))
set_option maxHeartbeats 4000000 in
set_option maxRecDepth 100000 in
theorem mt_X4_removeTag (l : Launch) (hfl : l.stackTraces = false) (E : KEnv) (this : Nat) (a1 : Int32) (a2 : Int32) (M M' : Mem) (r : Int32 ⊕ Nat) (h : f_X4_removeTag this a1 a2 M = some (r, M')) : vx_Met l yX4_removeTag (Cond.code yX4_removeTag cX4_removeTag 5 (some .int) :: lw_G) rm_X4_removeTag (cPc E [.ref this, .int a1, .int a2] M) (cQx E (vI r) M') (cXx E (vI r) M') 26 1365 (eA E) := by
  refine vx_ofW (cc := cX4_removeTag) (maxL := 5) (ret := (some .int)) (by decide) rfl ?_
  intro p e s m args below meth c s₁ B hml hout hv
  obtain ⟨rfl, hE, hM⟩ := hv
  have hx := B.exec
  have hb := B.bytes
  have hr := B.returns
  have hts0 := atoms_spec (ws := Cond.code yX4_removeTag cX4_removeTag 5 (some .int) :: lw_G) B.pre
  have hts : ∀ w ∈ lw_G, w.before _ s = true := fun w hw => hts0 w (List.mem_cons_of_mem _ hw)
  have hown : s.vm.findClass RX4 = some m.cls := findClass_of_methodNamed B.named
  have hlocks := B.notSynchronized
  have hC : CallFix p m c cX4_removeTag 5 s _ lw_G RX4 := ⟨hx, hb, hml, hown, hts⟩
  have hS : va_S (eA E) s.heap s.heap [] := va_S.rf
  have hl := lv_entry ([.ref this, .int a1, .int a2]) (n := 5) (Nat.le_of_ble_eq_true rfl)
  rw [lg_entry_eq]
  generalize (lg_sl ([.ref this, .int a1, .int a2]) ++ List.replicate (5 - (lg_sl ([.ref this, .int a1, .int a2])).length) Slot.unset).toArray = ls at hl ⊢
  have hl : lv_has ls 5 [(0, .ref this), (1, .int a1), (2, .int a2)] := hl
  unfold f_X4_removeTag at h
  show W p l e rm_X4_removeTag s m _ below meth c s.heap [] 0 0 _ _
  refine lv_aload_n hx hb dX4_removeTag_0 rfl (lv_at hl 0 rfl) ?_
  refine lv_iload_n hx hb dX4_removeTag_1 rfl (lv_at hl 1 rfl) ?_
  rcases obx h with ⟨v1, M2, h1, h⟩ | ⟨ex, M9, h1, h⟩
  rotate_left
  · obtain ⟨hk1, h1⟩ := ifg h1
    cases h
    exact kx_out (kx_V (ci := 4) (As := [.int a1]) (rest := []) hC hE hS hM (mt_X4_stateOf _ hfl E this a1 _ _ _ h1) (gwV qw_619 qw_621 qw_25 qw_39 qw_622) ⟨rfl, rfl, (Nat.le_of_ble_eq_true rfl), (Nat.le_of_ble_eq_true rfl)⟩ dd_X4_stateOf rfl hk1 rfl rfl hl.1 (Nat.le_of_ble_eq_true rfl) dX4_removeTag_2 ⟨(Nat.le_of_ble_eq_true rfl), (Nat.le_of_ble_eq_true rfl)⟩) hS hout hlocks (Nat.le_of_ble_eq_true rfl) (Nat.le_of_ble_eq_true rfl)
  obtain ⟨hk1, h1⟩ := ifg h1
  refine kx_ok1 (kx_V (ci := 4) (As := [.int a1]) (rest := []) hC hE hS hM (mt_X4_stateOf _ hfl E this a1 _ _ _ h1) (gwV qw_619 qw_621 qw_25 qw_39 qw_622) ⟨rfl, rfl, (Nat.le_of_ble_eq_true rfl), (Nat.le_of_ble_eq_true rfl)⟩ dd_X4_stateOf rfl hk1 rfl rfl hl.1 (Nat.le_of_ble_eq_true rfl) dX4_removeTag_2 ⟨(Nat.le_of_ble_eq_true rfl), (Nat.le_of_ble_eq_true rfl)⟩) hS (fun H locs hM hS => ?_)
  refine lv_astore_n (lv' := [(3, .ref v1), (0, .ref this), (1, .int a1), (2, .int a2)]) hx hb dX4_removeTag_5 rfl hl (by decide) rfl (fun ls hl => ?_)
  refine lv_aload_n hx hb dX4_removeTag_6 rfl (lv_at hl 1 rfl) ?_
  refine lv_iload_n hx hb dX4_removeTag_7 rfl (lv_at hl 3 rfl) ?_
  rcases obx h with ⟨v3, M4, h1, h⟩ | ⟨ex, M9, h1, h⟩
  rotate_left
  · obtain ⟨hk1, h1⟩ := ifg h1
    cases h
    exact kx_out (kx_V (ci := 4) (As := [.int a2]) (rest := []) hC hE hS hM (mt_X4_requireTag _ hfl E this a2 _ _ _ h1) (gwV qw_652 qw_654 qw_28 qw_39 qw_655) ⟨rfl, rfl, (Nat.le_of_ble_eq_true rfl), (Nat.le_of_ble_eq_true rfl)⟩ dd_X4_requireTag rfl hk1 rfl rfl hl.1 (Nat.le_of_ble_eq_true rfl) dX4_removeTag_8 ⟨(Nat.le_of_ble_eq_true rfl), (Nat.le_of_ble_eq_true rfl)⟩) hS hout hlocks (Nat.le_of_ble_eq_true rfl) (Nat.le_of_ble_eq_true rfl)
  obtain ⟨hk1, h1⟩ := ifg h1
  refine kx_ok0 (kx_V (ci := 4) (As := [.int a2]) (rest := []) hC hE hS hM (mt_X4_requireTag _ hfl E this a2 _ _ _ h1) (gwV qw_652 qw_654 qw_28 qw_39 qw_655) ⟨rfl, rfl, (Nat.le_of_ble_eq_true rfl), (Nat.le_of_ble_eq_true rfl)⟩ dd_X4_requireTag rfl hk1 rfl rfl hl.1 (Nat.le_of_ble_eq_true rfl) dX4_removeTag_8 ⟨(Nat.le_of_ble_eq_true rfl), (Nat.le_of_ble_eq_true rfl)⟩) hS (fun H locs hM hS => ?_)
  refine lv_aload_n hx hb dX4_removeTag_11 rfl (lv_at hl 0 rfl) ?_
  refine lv_iload_n hx hb dX4_removeTag_12 rfl (lv_at hl 3 rfl) ?_
  obtain ⟨v5, M6, h1, h⟩ := ob2 h
  obtain ⟨hk1, h1⟩ := ifg h1
  refine kV1 (ci := 2) (As := [.int a2]) (rest := []) hC hE hS hM (mt_X2_dotsOfTag _ E v1 a2 _ _ _ h1) (gwV qw_669 qw_341 qw_342 qw_41 qw_343) ⟨rfl, rfl, (Nat.le_of_ble_eq_true rfl), (Nat.le_of_ble_eq_true rfl)⟩ dd_X2_dotsOfTag rfl hk1 rfl rfl hl.1 (Nat.le_of_ble_eq_true rfl) dX4_removeTag_13 ⟨(Nat.le_of_ble_eq_true rfl), (Nat.le_of_ble_eq_true rfl)⟩ (fun H locs hM hS => ?_)
  refine lv_istore (lv' := [(4, .int v5), (3, .ref v1), (0, .ref this), (1, .int a1), (2, .int a2)]) hx hb dX4_removeTag_16 hl (by decide) rfl (fun ls hl => ?_)
  refine lv_iload hx hb dX4_removeTag_18 (lv_at hl 0 rfl) ?_
  refine lv_if_ne (tgt := 33) hx hb dX4_removeTag_20 (by decide) (fun c1 => ?_) (fun c1 => ?_)
  · have h := ifn c1 h
    refine lv_aload_n hx hb dX4_removeTag_33 rfl (lv_at hl 2 rfl) ?_
    obtain ⟨v7, h1, h⟩ := ob h
    refine rgn_4_8 hx hb hts hown hE hM qw_406 h1 dX4_removeTag_34 ?_
    refine lv_aload_n hx hb dX4_removeTag_37 rfl (lv_at hl 2 rfl) ?_
    obtain ⟨v8, h1, h⟩ := ob h
    refine rgn_4_6 hx hb hts hown hE hM qw_404 h1 dX4_removeTag_38 ?_
    obtain ⟨M10, h1, h⟩ := ob h
    obtain ⟨hk1, h1⟩ := ifg h1
    refine kV0 (ci := 0) (As := [.ref v8]) (rest := []) hC hE hS hM (mt_X0_record _ E v7 v8 _ _ h1) (gwV qw_526 qw_527 qw_528 qw_42 qw_529) ⟨rfl, rfl, (Nat.le_of_ble_eq_true rfl), (Nat.le_of_ble_eq_true rfl)⟩ dd_X0_record rfl hk1 rfl rfl hl.1 (Nat.le_of_ble_eq_true rfl) dX4_removeTag_41 ⟨(Nat.le_of_ble_eq_true rfl), (Nat.le_of_ble_eq_true rfl)⟩ (fun H locs hM hS => ?_)
    refine lv_aload_n hx hb dX4_removeTag_44 rfl (lv_at hl 1 rfl) ?_
    refine lv_iload_n hx hb dX4_removeTag_45 rfl (lv_at hl 4 rfl) ?_
    obtain ⟨M12, h1, h⟩ := ob h
    obtain ⟨hk1, h1⟩ := ifg h1
    refine kV0 (ci := 2) (As := [.int a2]) (rest := []) hC hE hS hM (mt_X2_clearTag _ E v1 a2 _ _ h1) (gwV qw_671 qw_349 qw_350 qw_41 qw_351) ⟨rfl, rfl, (Nat.le_of_ble_eq_true rfl), (Nat.le_of_ble_eq_true rfl)⟩ dd_X2_clearTag rfl hk1 rfl rfl hl.1 (Nat.le_of_ble_eq_true rfl) dX4_removeTag_46 ⟨(Nat.le_of_ble_eq_true rfl), (Nat.le_of_ble_eq_true rfl)⟩ (fun H locs hM hS => ?_)
    refine lv_iload hx hb dX4_removeTag_49 (lv_at hl 0 rfl) ?_
    cases h
    exact xRet (eI hx hb hr hlocks hM hS dX4_removeTag_51 (Nat.le_of_ble_eq_true rfl) (Nat.le_of_ble_eq_true rfl))
  · have h := ifp c1 h
    cases h
    exact xThr (i := 27) hfl hx hb hown hts hE hM hS (by decide) qw_510 qw_59 st_27 (ex_at hts hE ex_g2 ex_b2 (by decide)) (by decide +kernel) (hl.1.trans hml.symm) dX4_removeTag_23 dX4_removeTag_26 dX4_removeTag_27 dX4_removeTag_29 dX4_removeTag_32 hout (Nat.le_of_ble_eq_true rfl) (Nat.le_of_ble_eq_true rfl) (Nat.le_of_ble_eq_true rfl) (Nat.le_of_ble_eq_true rfl) hlocks (Nat.le_of_ble_eq_true rfl) (Nat.le_of_ble_eq_true rfl)

theorem dd_X4_write : yX4_write.cls = RX4 ∧ yX4_write.cls ≠ "java/lang/invoke/MethodHandle" ∧ yX4_write.cls ≠ "java/lang/invoke/VarHandle" ∧ (parseMethodDescriptor yX4_write.desc).map (fun d => d.parameters.length) = some 3 := by decide +kernel
abbrev rm_X4_write : Room := ({ frames := 8, cells := 26, slots := 1365, locals := 132 } : Room)
noncomputable def fj_X4_write_22  (M : Mem) : Option ((Int32 ⊕ Nat) × Mem) :=
  some (.inr 1, M)
set_option maxHeartbeats 4000000 in
set_option maxRecDepth 100000 in
theorem tj_X4_write_22 {p : Program} {l : Launch} {e : Env} {s : State} {m : MethodId} {args : Array Value} {below : List Frame} {meth : Method} {c : Code} {E : KEnv} {H : Heap} {locs : List Loc} {ls : Array Slot}  {M : Mem} {r : Int32 ⊕ Nat} {M' : Mem} (hfl : l.stackTraces = false) (hout : ∀ x ∈ c.exceptionTable.toList, False) (hC : CallFix p m c cX4_write 6 s args lw_G RX4) (hr : meth.sig.returnType = (some .int)) (hlocks : meth.locks = false) (hE : EnvOK E s) (h : fj_X4_write_22  M = some (r, M')) (hM : MOK E M H) (hS : va_S (eA E) s.heap H locs) (hl : lv_has ls 6 []) : W p l e rm_X4_write s m args below meth c H locs 2 12 (vx_MQ below (cQx E (vI r) M') (cXx E (vI r) M') args s 26 1365 (eA E)) (F0 m 22 ls []) := by
  obtain ⟨hx, hb, hml, hown, hts⟩ := id hC
  unfold fj_X4_write_22 at h
  cases h
  exact xThr (i := 28) hfl hx hb hown hts hE hM hS (by decide) qw_575 qw_58 st_28 (ex_at hts hE ex_g1 ex_b1 (by decide)) (by decide +kernel) (hl.1.trans hml.symm) dX4_write_22 dX4_write_25 dX4_write_26 dX4_write_28 dX4_write_31 hout (Nat.le_of_ble_eq_true rfl) (Nat.le_of_ble_eq_true rfl) (Nat.le_of_ble_eq_true rfl) (Nat.le_of_ble_eq_true rfl) hlocks (Nat.le_of_ble_eq_true rfl) (Nat.le_of_ble_eq_true rfl)
noncomputable def f_X4_write (this : Nat) (a1 : Int32) (a2 : Int32) (a3 : Int32) (M : Mem) : Option ((Int32 ⊕ Nat) × Mem) :=
  bx (cK 5 this M (f_X4_stateOf this a1 M)) (fun ex M => some ((.inr ex, M))) fun v1 M2 =>
  bx (cK 5 this M2 (f_X4_requireRegister this a2 M2)) (fun ex M => some ((.inr ex, M))) fun v3 M4 =>
  (if a3 < 0 then
  fj_X4_write_22 M4
  else
  (if a3 ≤ 99 then
  (gRn 5 136 this M4).bind fun v5 =>
  (gRn 5 134 this M4).bind fun v6 =>
  (cK 1 v5 M4 (f_X0_record v5 v6 M4)).bind fun M8 =>
  bn (cK 3 v1 M8 (f_X2_entries v1 a2 M8)) fun v9 M10 =>
  (cK 3 v1 M10 (f_X2_putEntry v1 a1 a2 a3 M10)).bind fun M12 =>
  some (.inl v9, M12)
  else
  fj_X4_write_22 M4))
set_option maxHeartbeats 4000000 in
set_option maxRecDepth 100000 in
theorem mt_X4_write (l : Launch) (hfl : l.stackTraces = false) (E : KEnv) (this : Nat) (a1 : Int32) (a2 : Int32) (a3 : Int32) (M M' : Mem) (r : Int32 ⊕ Nat) (h : f_X4_write this a1 a2 a3 M = some (r, M')) : vx_Met l yX4_write (Cond.code yX4_write cX4_write 6 (some .int) :: lw_G) rm_X4_write (cPc E [.ref this, .int a1, .int a2, .int a3] M) (cQx E (vI r) M') (cXx E (vI r) M') 26 1365 (eA E) := by
  refine vx_ofW (cc := cX4_write) (maxL := 6) (ret := (some .int)) (by decide) rfl ?_
  intro p e s m args below meth c s₁ B hml hout hv
  obtain ⟨rfl, hE, hM⟩ := hv
  have hx := B.exec
  have hb := B.bytes
  have hr := B.returns
  have hts0 := atoms_spec (ws := Cond.code yX4_write cX4_write 6 (some .int) :: lw_G) B.pre
  have hts : ∀ w ∈ lw_G, w.before _ s = true := fun w hw => hts0 w (List.mem_cons_of_mem _ hw)
  have hown : s.vm.findClass RX4 = some m.cls := findClass_of_methodNamed B.named
  have hlocks := B.notSynchronized
  have hC : CallFix p m c cX4_write 6 s _ lw_G RX4 := ⟨hx, hb, hml, hown, hts⟩
  have hS : va_S (eA E) s.heap s.heap [] := va_S.rf
  have hl := lv_entry ([.ref this, .int a1, .int a2, .int a3]) (n := 6) (Nat.le_of_ble_eq_true rfl)
  rw [lg_entry_eq]
  generalize (lg_sl ([.ref this, .int a1, .int a2, .int a3]) ++ List.replicate (6 - (lg_sl ([.ref this, .int a1, .int a2, .int a3])).length) Slot.unset).toArray = ls at hl ⊢
  have hl : lv_has ls 6 [(0, .ref this), (1, .int a1), (2, .int a2), (3, .int a3)] := hl
  unfold f_X4_write at h
  show W p l e rm_X4_write s m _ below meth c s.heap [] 0 0 _ _
  refine lv_aload_n hx hb dX4_write_0 rfl (lv_at hl 0 rfl) ?_
  refine lv_iload_n hx hb dX4_write_1 rfl (lv_at hl 1 rfl) ?_
  rcases obx h with ⟨v1, M2, h1, h⟩ | ⟨ex, M9, h1, h⟩
  rotate_left
  · obtain ⟨hk1, h1⟩ := ifg h1
    cases h
    exact kx_out (kx_V (ci := 4) (As := [.int a1]) (rest := []) hC hE hS hM (mt_X4_stateOf _ hfl E this a1 _ _ _ h1) (gwV qw_619 qw_621 qw_25 qw_39 qw_622) ⟨rfl, rfl, (Nat.le_of_ble_eq_true rfl), (Nat.le_of_ble_eq_true rfl)⟩ dd_X4_stateOf rfl hk1 rfl rfl hl.1 (Nat.le_of_ble_eq_true rfl) dX4_write_2 ⟨(Nat.le_of_ble_eq_true rfl), (Nat.le_of_ble_eq_true rfl)⟩) hS hout hlocks (Nat.le_of_ble_eq_true rfl) (Nat.le_of_ble_eq_true rfl)
  obtain ⟨hk1, h1⟩ := ifg h1
  refine kx_ok1 (kx_V (ci := 4) (As := [.int a1]) (rest := []) hC hE hS hM (mt_X4_stateOf _ hfl E this a1 _ _ _ h1) (gwV qw_619 qw_621 qw_25 qw_39 qw_622) ⟨rfl, rfl, (Nat.le_of_ble_eq_true rfl), (Nat.le_of_ble_eq_true rfl)⟩ dd_X4_stateOf rfl hk1 rfl rfl hl.1 (Nat.le_of_ble_eq_true rfl) dX4_write_2 ⟨(Nat.le_of_ble_eq_true rfl), (Nat.le_of_ble_eq_true rfl)⟩) hS (fun H locs hM hS => ?_)
  refine lv_astore (lv' := [(4, .ref v1), (0, .ref this), (1, .int a1), (2, .int a2), (3, .int a3)]) hx hb dX4_write_5 hl (by decide) rfl (fun ls hl => ?_)
  refine lv_aload_n hx hb dX4_write_7 rfl (lv_at hl 1 rfl) ?_
  refine lv_iload_n hx hb dX4_write_8 rfl (lv_at hl 3 rfl) ?_
  rcases obx h with ⟨v3, M4, h1, h⟩ | ⟨ex, M9, h1, h⟩
  rotate_left
  · obtain ⟨hk1, h1⟩ := ifg h1
    cases h
    exact kx_out (kx_V (ci := 4) (As := [.int a2]) (rest := []) hC hE hS hM (mt_X4_requireRegister _ hfl E this a2 _ _ _ h1) (gwV qw_679 qw_681 qw_29 qw_39 qw_682) ⟨rfl, rfl, (Nat.le_of_ble_eq_true rfl), (Nat.le_of_ble_eq_true rfl)⟩ dd_X4_requireRegister rfl hk1 rfl rfl hl.1 (Nat.le_of_ble_eq_true rfl) dX4_write_9 ⟨(Nat.le_of_ble_eq_true rfl), (Nat.le_of_ble_eq_true rfl)⟩) hS hout hlocks (Nat.le_of_ble_eq_true rfl) (Nat.le_of_ble_eq_true rfl)
  obtain ⟨hk1, h1⟩ := ifg h1
  refine kx_ok0 (kx_V (ci := 4) (As := [.int a2]) (rest := []) hC hE hS hM (mt_X4_requireRegister _ hfl E this a2 _ _ _ h1) (gwV qw_679 qw_681 qw_29 qw_39 qw_682) ⟨rfl, rfl, (Nat.le_of_ble_eq_true rfl), (Nat.le_of_ble_eq_true rfl)⟩ dd_X4_requireRegister rfl hk1 rfl rfl hl.1 (Nat.le_of_ble_eq_true rfl) dX4_write_9 ⟨(Nat.le_of_ble_eq_true rfl), (Nat.le_of_ble_eq_true rfl)⟩) hS (fun H locs hM hS => ?_)
  refine lv_iload_n hx hb dX4_write_12 rfl (lv_at hl 4 rfl) ?_
  refine lv_if_lt (tgt := 22) hx hb dX4_write_13 (by decide) (fun c1 => ?_) (fun c1 => ?_)
  · have h := ifp c1 h
    refine W.widen (k := 2) (n := 12) (Nat.le_of_ble_eq_true rfl) (Nat.le_of_ble_eq_true rfl) ?_
    exact tj_X4_write_22 hfl hout  hC hr hlocks hE  h hM hS (lv_sub hl [] rfl)
  · have h := ifn c1 h
    refine lv_iload_n hx hb dX4_write_16 rfl (lv_at hl 4 rfl) ?_
    refine lv_bipush (v := 99) hx hb dX4_write_17 (by decide) ?_
    refine lv_icmp_le (tgt := 32) hx hb dX4_write_19 (by decide) (fun c1 => ?_) (fun c1 => ?_)
    · have h := ifp c1 h
      refine lv_aload_n hx hb dX4_write_32 rfl (lv_at hl 1 rfl) ?_
      obtain ⟨v5, h1, h⟩ := ob h
      refine rgn_4_8 hx hb hts hown hE hM qw_406 h1 dX4_write_33 ?_
      refine lv_aload_n hx hb dX4_write_36 rfl (lv_at hl 1 rfl) ?_
      obtain ⟨v6, h1, h⟩ := ob h
      refine rgn_4_6 hx hb hts hown hE hM qw_404 h1 dX4_write_37 ?_
      obtain ⟨M8, h1, h⟩ := ob h
      obtain ⟨hk1, h1⟩ := ifg h1
      refine kV0 (ci := 0) (As := [.ref v6]) (rest := []) hC hE hS hM (mt_X0_record _ E v5 v6 _ _ h1) (gwV qw_526 qw_527 qw_528 qw_42 qw_529) ⟨rfl, rfl, (Nat.le_of_ble_eq_true rfl), (Nat.le_of_ble_eq_true rfl)⟩ dd_X0_record rfl hk1 rfl rfl hl.1 (Nat.le_of_ble_eq_true rfl) dX4_write_40 ⟨(Nat.le_of_ble_eq_true rfl), (Nat.le_of_ble_eq_true rfl)⟩ (fun H locs hM hS => ?_)
      refine lv_aload hx hb dX4_write_43 (lv_at hl 0 rfl) ?_
      refine lv_iload_n hx hb dX4_write_45 rfl (lv_at hl 3 rfl) ?_
      obtain ⟨v9, M10, h1, h⟩ := ob2 h
      obtain ⟨hk1, h1⟩ := ifg h1
      refine kV1 (ci := 2) (As := [.int a2]) (rest := []) hC hE hS hM (mt_X2_entries _ E v1 a2 _ _ _ h1) (gwV qw_685 qw_686 qw_687 qw_41 qw_688) ⟨rfl, rfl, (Nat.le_of_ble_eq_true rfl), (Nat.le_of_ble_eq_true rfl)⟩ dd_X2_entries rfl hk1 rfl rfl hl.1 (Nat.le_of_ble_eq_true rfl) dX4_write_46 ⟨(Nat.le_of_ble_eq_true rfl), (Nat.le_of_ble_eq_true rfl)⟩ (fun H locs hM hS => ?_)
      refine lv_istore (lv' := [(5, .int v9), (4, .ref v1), (0, .ref this), (1, .int a1), (2, .int a2), (3, .int a3)]) hx hb dX4_write_49 hl (by decide) rfl (fun ls hl => ?_)
      refine lv_aload hx hb dX4_write_51 (lv_at hl 1 rfl) ?_
      refine lv_iload_n hx hb dX4_write_53 rfl (lv_at hl 3 rfl) ?_
      refine lv_iload_n hx hb dX4_write_54 rfl (lv_at hl 4 rfl) ?_
      refine lv_iload_n hx hb dX4_write_55 rfl (lv_at hl 5 rfl) ?_
      obtain ⟨M12, h1, h⟩ := ob h
      obtain ⟨hk1, h1⟩ := ifg h1
      refine kV0 (ci := 2) (As := [.int a1, .int a2, .int a3]) (rest := []) hC hE hS hM (mt_X2_putEntry _ E v1 a1 a2 a3 _ _ h1) (gwV qw_689 qw_358 qw_359 qw_41 qw_360) ⟨rfl, rfl, (Nat.le_of_ble_eq_true rfl), (Nat.le_of_ble_eq_true rfl)⟩ dd_X2_putEntry rfl hk1 rfl rfl hl.1 (Nat.le_of_ble_eq_true rfl) dX4_write_56 ⟨(Nat.le_of_ble_eq_true rfl), (Nat.le_of_ble_eq_true rfl)⟩ (fun H locs hM hS => ?_)
      refine lv_iload hx hb dX4_write_59 (lv_at hl 0 rfl) ?_
      cases h
      exact xRet (eI hx hb hr hlocks hM hS dX4_write_61 (Nat.le_of_ble_eq_true rfl) (Nat.le_of_ble_eq_true rfl))
    · have h := ifn c1 h
      refine W.widen (k := 2) (n := 12) (Nat.le_of_ble_eq_true rfl) (Nat.le_of_ble_eq_true rfl) ?_
      exact tj_X4_write_22 hfl hout  hC hr hlocks hE  h hM hS (lv_sub hl [] rfl)

theorem dd_X4_mergeAndRecord : yX4_mergeAndRecord.cls = RX4 ∧ yX4_mergeAndRecord.cls ≠ "java/lang/invoke/MethodHandle" ∧ yX4_mergeAndRecord.cls ≠ "java/lang/invoke/VarHandle" ∧ (parseMethodDescriptor yX4_mergeAndRecord.desc).map (fun d => d.parameters.length) = some 2 := by decide +kernel
abbrev rm_X4_mergeAndRecord : Room := ({ frames := 5, cells := 24, slots := 1353, locals := 124 } : Room)
noncomputable def fj_X4_mergeAndRecord_40 (s0 : Int32) (M : Mem) : Option (Int32 × Mem) :=
  (if s0 = 0 ∨ s0 = 1 then some (s0, M) else none)
set_option maxHeartbeats 4000000 in
set_option maxRecDepth 100000 in
theorem tj_X4_mergeAndRecord_40 {p : Program} {l : Launch} {e : Env} {s : State} {m : MethodId} {args : Array Value} {below : List Frame} {meth : Method} {c : Code} {E : KEnv} {H : Heap} {locs : List Loc} {ls : Array Slot} {s0 : Int32} {M : Mem} {v : Int32} {M' : Mem} (hC : CallFix p m c cX4_mergeAndRecord 3 s args lw_G RX4) (hr : meth.sig.returnType = (some .boolean)) (hlocks : meth.locks = false) (hE : EnvOK E s) (h : fj_X4_mergeAndRecord_40 s0 M = some (v, M')) (hM : MOK E M H) (hS : va_S (eA E) s.heap H locs) (hl : lv_has ls 3 []) : W p l e rm_X4_mergeAndRecord s m args below meth c H locs 24 1353 (MQ below (cQ E (some (.int v)) M') args s 24 1353 (eA E)) (F0 m 40 ls [.int s0]) := by
  obtain ⟨hx, hb, hml, hown, hts⟩ := id hC
  unfold fj_X4_mergeAndRecord_40 at h
  obtain ⟨h01, h⟩ := ifg h
  cases h
  exact eZ hx hb hr hlocks hM hS dX4_mergeAndRecord_40 (Nat.le_of_ble_eq_true rfl) (Nat.le_of_ble_eq_true rfl) h01
noncomputable def f_X4_mergeAndRecord (this : Nat) (a1 : Nat) (a2 : Nat) (M : Mem) : Option (Int32 × Mem) :=
  (gRn 5 136 this M).bind fun v1 =>
  (gRn 5 134 this M).bind fun v2 =>
  (cK 1 v1 M (f_X0_record v1 v2 M)).bind fun M4 =>
  (gRn 5 138 this M4).bind fun v5 =>
  (cK 3 v5 M4 (f_X2_copyFrom v5 a1 M4)).bind fun M7 =>
  (cK 3 a1 M7 (f_X2_absorb a1 a2 M7)).bind fun M9 =>
  (gRn 5 138 this M9).bind fun v10 =>
  bn (cK 3 a1 M9 (f_X2_sameAs a1 v10 M9)) fun v11 M12 =>
  (if v11 = 0 then
  fj_X4_mergeAndRecord_40 1 M12
  else
  fj_X4_mergeAndRecord_40 0 M12)
set_option maxHeartbeats 4000000 in
set_option maxRecDepth 100000 in
theorem mt_X4_mergeAndRecord (l : Launch) (E : KEnv) (this : Nat) (a1 : Nat) (a2 : Nat) (M M' : Mem) (v : Int32) (h : f_X4_mergeAndRecord this a1 a2 M = some (v, M')) : Met l yX4_mergeAndRecord (Cond.code yX4_mergeAndRecord cX4_mergeAndRecord 3 (some .boolean) :: lw_G) rm_X4_mergeAndRecord (cPc E [.ref this, .ref a1, .ref a2] M) (cQ E (some (.int v)) M') 24 1353 (eA E) := by
  refine Met.ofW (cc := cX4_mergeAndRecord) (maxL := 3) (ret := (some .boolean)) (by decide) rfl ?_
  intro p e s m args below meth c s₁ B hml hv
  obtain ⟨rfl, hE, hM⟩ := hv
  have hx := B.exec
  have hb := B.bytes
  have hr := B.returns
  have hts0 := atoms_spec (ws := Cond.code yX4_mergeAndRecord cX4_mergeAndRecord 3 (some .boolean) :: lw_G) B.pre
  have hts : ∀ w ∈ lw_G, w.before _ s = true := fun w hw => hts0 w (List.mem_cons_of_mem _ hw)
  have hown : s.vm.findClass RX4 = some m.cls := findClass_of_methodNamed B.named
  have hlocks := B.notSynchronized
  have hC : CallFix p m c cX4_mergeAndRecord 3 s _ lw_G RX4 := ⟨hx, hb, hml, hown, hts⟩
  have hS : va_S (eA E) s.heap s.heap [] := va_S.rf
  have hl := lv_entry ([.ref this, .ref a1, .ref a2]) (n := 3) (Nat.le_of_ble_eq_true rfl)
  rw [lg_entry_eq]
  generalize (lg_sl ([.ref this, .ref a1, .ref a2]) ++ List.replicate (3 - (lg_sl ([.ref this, .ref a1, .ref a2])).length) Slot.unset).toArray = ls at hl ⊢
  have hl : lv_has ls 3 [(0, .ref this), (1, .ref a1), (2, .ref a2)] := hl
  unfold f_X4_mergeAndRecord at h
  show W p l e rm_X4_mergeAndRecord s m _ below meth c s.heap [] 0 0 _ _
  refine lv_aload_n hx hb dX4_mergeAndRecord_0 rfl (lv_at hl 0 rfl) ?_
  obtain ⟨v1, h1, h⟩ := ob h
  refine rgn_4_8 hx hb hts hown hE hM qw_406 h1 dX4_mergeAndRecord_1 ?_
  refine lv_aload_n hx hb dX4_mergeAndRecord_4 rfl (lv_at hl 0 rfl) ?_
  obtain ⟨v2, h1, h⟩ := ob h
  refine rgn_4_6 hx hb hts hown hE hM qw_404 h1 dX4_mergeAndRecord_5 ?_
  obtain ⟨M4, h1, h⟩ := ob h
  obtain ⟨hk1, h1⟩ := ifg h1
  refine kV0 (ci := 0) (As := [.ref v2]) (rest := []) hC hE hS hM (mt_X0_record _ E v1 v2 _ _ h1) (gwV qw_526 qw_527 qw_528 qw_42 qw_529) ⟨rfl, rfl, (Nat.le_of_ble_eq_true rfl), (Nat.le_of_ble_eq_true rfl)⟩ dd_X0_record rfl hk1 rfl rfl hl.1 (Nat.le_of_ble_eq_true rfl) dX4_mergeAndRecord_8 ⟨(Nat.le_of_ble_eq_true rfl), (Nat.le_of_ble_eq_true rfl)⟩ (fun H locs hM hS => ?_)
  refine lv_aload_n hx hb dX4_mergeAndRecord_11 rfl (lv_at hl 0 rfl) ?_
  obtain ⟨v5, h1, h⟩ := ob h
  refine rgn_4_10 hx hb hts hown hE hM qw_408 h1 dX4_mergeAndRecord_12 ?_
  refine lv_aload_n hx hb dX4_mergeAndRecord_15 rfl (lv_at hl 1 rfl) ?_
  obtain ⟨M7, h1, h⟩ := ob h
  obtain ⟨hk1, h1⟩ := ifg h1
  refine kV0 (ci := 2) (As := [.ref a1]) (rest := []) hC hE hS hM (mt_X2_copyFrom _ E v5 a1 _ _ h1) (gwV qw_701 qw_387 qw_388 qw_41 qw_389) ⟨rfl, rfl, (Nat.le_of_ble_eq_true rfl), (Nat.le_of_ble_eq_true rfl)⟩ dd_X2_copyFrom rfl hk1 rfl rfl hl.1 (Nat.le_of_ble_eq_true rfl) dX4_mergeAndRecord_16 ⟨(Nat.le_of_ble_eq_true rfl), (Nat.le_of_ble_eq_true rfl)⟩ (fun H locs hM hS => ?_)
  refine lv_aload_n hx hb dX4_mergeAndRecord_19 rfl (lv_at hl 1 rfl) ?_
  refine lv_aload_n hx hb dX4_mergeAndRecord_20 rfl (lv_at hl 2 rfl) ?_
  obtain ⟨M9, h1, h⟩ := ob h
  obtain ⟨hk1, h1⟩ := ifg h1
  refine kV0 (ci := 2) (As := [.ref a2]) (rest := []) hC hE hS hM (mt_X2_absorb _ E a1 a2 _ _ h1) (gwV qw_702 qw_367 qw_368 qw_41 qw_369) ⟨rfl, rfl, (Nat.le_of_ble_eq_true rfl), (Nat.le_of_ble_eq_true rfl)⟩ dd_X2_absorb rfl hk1 rfl rfl hl.1 (Nat.le_of_ble_eq_true rfl) dX4_mergeAndRecord_21 ⟨(Nat.le_of_ble_eq_true rfl), (Nat.le_of_ble_eq_true rfl)⟩ (fun H locs hM hS => ?_)
  refine lv_aload_n hx hb dX4_mergeAndRecord_24 rfl (lv_at hl 1 rfl) ?_
  refine lv_aload_n hx hb dX4_mergeAndRecord_25 rfl (lv_at hl 0 rfl) ?_
  obtain ⟨v10, h1, h⟩ := ob h
  refine rgn_4_10 hx hb hts hown hE hM qw_408 h1 dX4_mergeAndRecord_26 ?_
  obtain ⟨v11, M12, h1, h⟩ := ob2 h
  obtain ⟨hk1, h1⟩ := ifg h1
  refine kV1 (ci := 2) (As := [.ref v10]) (rest := []) hC hE hS hM (mt_X2_sameAs _ E a1 v10 _ _ _ h1) (gwV qw_703 qw_704 qw_705 qw_41 qw_706) ⟨rfl, rfl, (Nat.le_of_ble_eq_true rfl), (Nat.le_of_ble_eq_true rfl)⟩ dd_X2_sameAs rfl hk1 rfl rfl hl.1 (Nat.le_of_ble_eq_true rfl) dX4_mergeAndRecord_29 ⟨(Nat.le_of_ble_eq_true rfl), (Nat.le_of_ble_eq_true rfl)⟩ (fun H locs hM hS => ?_)
  refine lv_if_ne (tgt := 39) hx hb dX4_mergeAndRecord_32 (by decide) (fun c1 => ?_) (fun c1 => ?_)
  · have h := ifn c1 h
    refine lv_iconst (v := 0) hx hb dX4_mergeAndRecord_39 (by decide) ?_
    refine W.widen (k := 24) (n := 1353) (Nat.le_of_ble_eq_true rfl) (Nat.le_of_ble_eq_true rfl) ?_
    exact tj_X4_mergeAndRecord_40  hC hr hlocks hE  h hM hS (lv_sub hl [] rfl)
  · have h := ifp c1 h
    refine lv_iconst (v := 1) hx hb dX4_mergeAndRecord_35 (by decide) ?_
    refine lv_goto (tgt := 40) hx hb dX4_mergeAndRecord_36 (by decide) ?_
    refine W.widen (k := 24) (n := 1353) (Nat.le_of_ble_eq_true rfl) (Nat.le_of_ble_eq_true rfl) ?_
    exact tj_X4_mergeAndRecord_40  hC hr hlocks hE  h hM hS (lv_sub hl [] rfl)

theorem dd_X4_merge : yX4_merge.cls = RX4 ∧ yX4_merge.cls ≠ "java/lang/invoke/MethodHandle" ∧ yX4_merge.cls ≠ "java/lang/invoke/VarHandle" ∧ (parseMethodDescriptor yX4_merge.desc).map (fun d => d.parameters.length) = some 2 := by decide +kernel
abbrev rm_X4_merge : Room := ({ frames := 8, cells := 26, slots := 1365, locals := 146 } : Room)
noncomputable def f_X4_merge (this : Nat) (a1 : Int32) (a2 : Int32) (M : Mem) : Option ((Int32 ⊕ Nat) × Mem) :=
  bx (cK 5 this M (f_X4_stateOf this a1 M)) (fun ex M => some ((.inr ex, M))) fun v1 M2 =>
  bx (cK 5 this M2 (f_X4_stateOf this a2 M2)) (fun ex M => some ((.inr ex, M))) fun v3 M4 =>
  bn (cK 5 this M4 (f_X4_mergeAndRecord this v1 v3 M4)) fun v5 M6 =>
  (if v5 = 0 ∨ v5 = 1 then some (.inl v5, M6) else none)
set_option maxHeartbeats 4000000 in
set_option maxRecDepth 100000 in
theorem mt_X4_merge (l : Launch) (hfl : l.stackTraces = false) (E : KEnv) (this : Nat) (a1 : Int32) (a2 : Int32) (M M' : Mem) (r : Int32 ⊕ Nat) (h : f_X4_merge this a1 a2 M = some (r, M')) : vx_Met l yX4_merge (Cond.code yX4_merge cX4_merge 3 (some .boolean) :: lw_G) rm_X4_merge (cPc E [.ref this, .int a1, .int a2] M) (cQx E (vI r) M') (cXx E (vI r) M') 26 1365 (eA E) := by
  refine vx_ofW (cc := cX4_merge) (maxL := 3) (ret := (some .boolean)) (by decide) rfl ?_
  intro p e s m args below meth c s₁ B hml hout hv
  obtain ⟨rfl, hE, hM⟩ := hv
  have hx := B.exec
  have hb := B.bytes
  have hr := B.returns
  have hts0 := atoms_spec (ws := Cond.code yX4_merge cX4_merge 3 (some .boolean) :: lw_G) B.pre
  have hts : ∀ w ∈ lw_G, w.before _ s = true := fun w hw => hts0 w (List.mem_cons_of_mem _ hw)
  have hown : s.vm.findClass RX4 = some m.cls := findClass_of_methodNamed B.named
  have hlocks := B.notSynchronized
  have hC : CallFix p m c cX4_merge 3 s _ lw_G RX4 := ⟨hx, hb, hml, hown, hts⟩
  have hS : va_S (eA E) s.heap s.heap [] := va_S.rf
  have hl := lv_entry ([.ref this, .int a1, .int a2]) (n := 3) (Nat.le_of_ble_eq_true rfl)
  rw [lg_entry_eq]
  generalize (lg_sl ([.ref this, .int a1, .int a2]) ++ List.replicate (3 - (lg_sl ([.ref this, .int a1, .int a2])).length) Slot.unset).toArray = ls at hl ⊢
  have hl : lv_has ls 3 [(0, .ref this), (1, .int a1), (2, .int a2)] := hl
  unfold f_X4_merge at h
  show W p l e rm_X4_merge s m _ below meth c s.heap [] 0 0 _ _
  refine lv_aload_n hx hb dX4_merge_0 rfl (lv_at hl 0 rfl) ?_
  refine lv_aload_n hx hb dX4_merge_1 rfl (lv_at hl 0 rfl) ?_
  refine lv_iload_n hx hb dX4_merge_2 rfl (lv_at hl 1 rfl) ?_
  rcases obx h with ⟨v1, M2, h1, h⟩ | ⟨ex, M9, h1, h⟩
  rotate_left
  · obtain ⟨hk1, h1⟩ := ifg h1
    cases h
    exact kx_out (kx_V (ci := 4) (As := [.int a1]) (rest := [.ref this]) hC hE hS hM (mt_X4_stateOf _ hfl E this a1 _ _ _ h1) (gwV qw_619 qw_621 qw_25 qw_39 qw_622) ⟨rfl, rfl, (Nat.le_of_ble_eq_true rfl), (Nat.le_of_ble_eq_true rfl)⟩ dd_X4_stateOf rfl hk1 rfl rfl hl.1 (Nat.le_of_ble_eq_true rfl) dX4_merge_3 ⟨(Nat.le_of_ble_eq_true rfl), (Nat.le_of_ble_eq_true rfl)⟩) hS hout hlocks (Nat.le_of_ble_eq_true rfl) (Nat.le_of_ble_eq_true rfl)
  obtain ⟨hk1, h1⟩ := ifg h1
  refine kx_ok1 (kx_V (ci := 4) (As := [.int a1]) (rest := [.ref this]) hC hE hS hM (mt_X4_stateOf _ hfl E this a1 _ _ _ h1) (gwV qw_619 qw_621 qw_25 qw_39 qw_622) ⟨rfl, rfl, (Nat.le_of_ble_eq_true rfl), (Nat.le_of_ble_eq_true rfl)⟩ dd_X4_stateOf rfl hk1 rfl rfl hl.1 (Nat.le_of_ble_eq_true rfl) dX4_merge_3 ⟨(Nat.le_of_ble_eq_true rfl), (Nat.le_of_ble_eq_true rfl)⟩) hS (fun H locs hM hS => ?_)
  refine lv_aload_n hx hb dX4_merge_6 rfl (lv_at hl 0 rfl) ?_
  refine lv_iload_n hx hb dX4_merge_7 rfl (lv_at hl 2 rfl) ?_
  rcases obx h with ⟨v3, M4, h1, h⟩ | ⟨ex, M9, h1, h⟩
  rotate_left
  · obtain ⟨hk1, h1⟩ := ifg h1
    cases h
    exact kx_out (kx_V (ci := 4) (As := [.int a2]) (rest := [.ref v1, .ref this]) hC hE hS hM (mt_X4_stateOf _ hfl E this a2 _ _ _ h1) (gwV qw_619 qw_621 qw_25 qw_39 qw_622) ⟨rfl, rfl, (Nat.le_of_ble_eq_true rfl), (Nat.le_of_ble_eq_true rfl)⟩ dd_X4_stateOf rfl hk1 rfl rfl hl.1 (Nat.le_of_ble_eq_true rfl) dX4_merge_8 ⟨(Nat.le_of_ble_eq_true rfl), (Nat.le_of_ble_eq_true rfl)⟩) hS hout hlocks (Nat.le_of_ble_eq_true rfl) (Nat.le_of_ble_eq_true rfl)
  obtain ⟨hk1, h1⟩ := ifg h1
  refine kx_ok1 (kx_V (ci := 4) (As := [.int a2]) (rest := [.ref v1, .ref this]) hC hE hS hM (mt_X4_stateOf _ hfl E this a2 _ _ _ h1) (gwV qw_619 qw_621 qw_25 qw_39 qw_622) ⟨rfl, rfl, (Nat.le_of_ble_eq_true rfl), (Nat.le_of_ble_eq_true rfl)⟩ dd_X4_stateOf rfl hk1 rfl rfl hl.1 (Nat.le_of_ble_eq_true rfl) dX4_merge_8 ⟨(Nat.le_of_ble_eq_true rfl), (Nat.le_of_ble_eq_true rfl)⟩) hS (fun H locs hM hS => ?_)
  obtain ⟨v5, M6, h1, h⟩ := ob2 h
  obtain ⟨hk1, h1⟩ := ifg h1
  refine kV1 (ci := 4) (As := [.ref v1, .ref v3]) (rest := []) hC hE hS hM (mt_X4_mergeAndRecord _ E this v1 v3 _ _ _ h1) (gwV qw_697 qw_699 qw_30 qw_39 qw_700) ⟨rfl, rfl, (Nat.le_of_ble_eq_true rfl), (Nat.le_of_ble_eq_true rfl)⟩ dd_X4_mergeAndRecord rfl hk1 rfl rfl hl.1 (Nat.le_of_ble_eq_true rfl) dX4_merge_11 ⟨(Nat.le_of_ble_eq_true rfl), (Nat.le_of_ble_eq_true rfl)⟩ (fun H locs hM hS => ?_)
  obtain ⟨h01, h⟩ := ifg h
  cases h
  exact xRet (eZ hx hb hr hlocks hM hS dX4_merge_14 (Nat.le_of_ble_eq_true rfl) (Nat.le_of_ble_eq_true rfl) h01)

theorem dd_X4_mergeAll : yX4_mergeAll.cls = RX4 ∧ yX4_mergeAll.cls ≠ "java/lang/invoke/MethodHandle" ∧ yX4_mergeAll.cls ≠ "java/lang/invoke/VarHandle" ∧ (parseMethodDescriptor yX4_mergeAll.desc).map (fun d => d.parameters.length) = some 0 := by decide +kernel
abbrev rm_X4_mergeAll : Room := ({ frames := 5, cells := 24, slots := 1353, locals := 124 } : Room)
noncomputable def fj_X4_mergeAll_66 (x2 : Int32) (M : Mem) : Option (Int32 × Mem) :=
  some (x2, M)
set_option maxHeartbeats 4000000 in
set_option maxRecDepth 100000 in
theorem tj_X4_mergeAll_66 {p : Program} {l : Launch} {e : Env} {s : State} {m : MethodId} {args : Array Value} {below : List Frame} {meth : Method} {c : Code} {E : KEnv} {H : Heap} {locs : List Loc} {ls : Array Slot} {x2 : Int32} {M : Mem} {v : Int32} {M' : Mem} (hC : CallFix p m c cX4_mergeAll 5 s args lw_G RX4) (hr : meth.sig.returnType = (some .int)) (hlocks : meth.locks = false) (hE : EnvOK E s) (h : fj_X4_mergeAll_66 x2 M = some (v, M')) (hM : MOK E M H) (hS : va_S (eA E) s.heap H locs) (hl : lv_has ls 5 [(2, .int x2)]) : W p l e rm_X4_mergeAll s m args below meth c H locs 24 1353 (MQ below (cQ E (some (.int v)) M') args s 24 1353 (eA E)) (F0 m 66 ls []) := by
  obtain ⟨hx, hb, hml, hown, hts⟩ := id hC
  unfold fj_X4_mergeAll_66 at h
  refine lv_iload_n hx hb dX4_mergeAll_66 rfl (lv_at hl 0 rfl) ?_
  cases h
  exact eI hx hb hr hlocks hM hS dX4_mergeAll_67 (Nat.le_of_ble_eq_true rfl) (Nat.le_of_ble_eq_true rfl)
noncomputable def fj_X4_mergeAll_60 (x0 : Nat) (x1 : Nat) (x2 : Int32) (x3 : Int32) (M : Mem) : Option ((Int32 × Int32 × Mem) ⊕ (Int32 × Mem)) :=
  some (.inl (x2, x3 + 1, M))
set_option maxHeartbeats 4000000 in
set_option maxRecDepth 100000 in
theorem tj_X4_mergeAll_60 {p : Program} {l : Launch} {e : Env} {s : State} {m : MethodId} {args : Array Value} {below : List Frame} {meth : Method} {c : Code} {E : KEnv} {H : Heap} {locs : List Loc} {ls : Array Slot} {x0 : Nat} {x1 : Nat} {x2 : Int32} {x3 : Int32} {y1 : ((Int32 × Int32 × Mem) ⊕ (Int32 × Mem))} {M : Mem} {v : Int32} {M' : Mem} (hC : CallFix p m c cX4_mergeAll 5 s args lw_G RX4) (hr : meth.sig.returnType = (some .int)) (hlocks : meth.locks = false) (hE : EnvOK E s) (hy1 : (∀ q : (Int32 × Int32 × Mem), y1 = .inl q → ∀ (H : Heap) (locs : List Loc) (ls : Array Slot), MOK E (q.2.2) H → va_S (eA E) s.heap H locs → lv_has ls 5 [(0, .ref x0), (1, .ref x1), (2, .int q.1), (3, .int q.2.1)] → W p l e rm_X4_mergeAll s m args below meth c H locs 24 1353 (MQ below (cQ E (some (.int v)) M') args s 24 1353 (eA E)) (F0 m 20 ls [])) ∧ ∀ z, y1 = .inr z → z = (v, M')) (h : fj_X4_mergeAll_60 x0 x1 x2 x3 M = some y1) (hM : MOK E M H) (hS : va_S (eA E) s.heap H locs) (hl : lv_has ls 5 [(0, .ref x0), (1, .ref x1), (2, .int x2), (3, .int x3)]) : W p l e rm_X4_mergeAll s m args below meth c H locs 24 1353 (MQ below (cQ E (some (.int v)) M') args s 24 1353 (eA E)) (F0 m 60 ls []) := by
  obtain ⟨hx, hb, hml, hown, hts⟩ := id hC
  unfold fj_X4_mergeAll_60 at h
  refine lv_iinc (v := x3 + 1) (lv' := [(3, .int (x3 + 1)), (0, .ref x0), (1, .ref x1), (2, .int x2)]) hx hb dX4_mergeAll_60 hl (k := 3) rfl rfl (by decide) rfl (fun ls hl => ?_)
  refine lv_goto (tgt := 20) hx hb dX4_mergeAll_63 (by decide) ?_
  cases h
  exact hy1.1 _ rfl _ _ _ hM hS (lv_sub hl [1, 2, 3, 0] rfl)
noncomputable def fc_X4_mergeAll_20 (x0 : Nat) (x1 : Nat) (x2 : Int32) (x3 : Int32) (M : Mem) : Option ((Int32 × Int32 × Mem) ⊕ (Int32 × Mem)) :=
  (gRn 5 134 x0 M).bind fun v7 =>
  (gI 4 96 v7 M).bind fun v8 =>
  (if v8 ≤ x3 then
  (fj_X4_mergeAll_66 x2 M).map Sum.inr
  else
  (gRn 5 134 x0 M).bind fun v9 =>
  (gRn 4 100 v9 M).bind fun v10 =>
  (gBn 10 v10 x3 M).bind fun v11 =>
  bn (cK 3 v11 M (f_X2_sameAs v11 x1 M)) fun v12 M13 =>
  (if v12 = 0 then
  (cK 3 v11 M13 (f_X2_copyFrom v11 x1 M13)).bind fun M15 =>
  fj_X4_mergeAll_60 x0 x1 (x2 + 1) x3 M15
  else
  fj_X4_mergeAll_60 x0 x1 x2 x3 M13))
noncomputable def fj_X4_mergeAll_20 (x0 : Nat) (x1 : Nat) (x2 : Int32) (x3 : Int32) (M : Mem) : Option (Int32 × Mem) := loopM (fun q : (Int32 × Int32 × Mem) => fc_X4_mergeAll_20 x0 x1 q.1 q.2.1 q.2.2) FU (x2, x3, M)
set_option maxHeartbeats 4000000 in
set_option maxRecDepth 100000 in
theorem tj_X4_mergeAll_20 {p : Program} {l : Launch} {e : Env} {s : State} {m : MethodId} {args : Array Value} {below : List Frame} {meth : Method} {c : Code} {E : KEnv} {H : Heap} {locs : List Loc} {ls : Array Slot} {x0 : Nat} {x1 : Nat} {x2 : Int32} {x3 : Int32} {M : Mem} {v : Int32} {M' : Mem} (hC : CallFix p m c cX4_mergeAll 5 s args lw_G RX4) (hr : meth.sig.returnType = (some .int)) (hlocks : meth.locks = false) (hE : EnvOK E s) (h : fj_X4_mergeAll_20 x0 x1 x2 x3 M = some (v, M')) (hM : MOK E M H) (hS : va_S (eA E) s.heap H locs) (hl : lv_has ls 5 [(0, .ref x0), (1, .ref x1), (2, .int x2), (3, .int x3)]) : W p l e rm_X4_mergeAll s m args below meth c H locs 24 1353 (MQ below (cQ E (some (.int v)) M') args s 24 1353 (eA E)) (F0 m 20 ls []) := by
  refine loopM_ind (body := fun q : (Int32 × Int32 × Mem) => fc_X4_mergeAll_20 x0 x1 q.1 q.2.1 q.2.2) (x0 := (v, M')) (Wd := fun q : (Int32 × Int32 × Mem) => ∀ (H : Heap) (locs : List Loc) (ls : Array Slot), MOK E (q.2.2) H → va_S (eA E) s.heap H locs → lv_has ls 5 [(0, .ref x0), (1, .ref x1), (2, .int q.1), (3, .int q.2.1)] → W p l e rm_X4_mergeAll s m args below meth c H locs 24 1353 (MQ below (cQ E (some (.int v)) M') args s 24 1353 (eA E)) (F0 m 20 ls [])) ?_ FU (x2, x3, M) h H locs ls hM hS hl
  clear h hM hS hl H locs ls M x2 x3
  obtain ⟨hx, hb, hml, hown, hts⟩ := id hC
  intro q y1 h hy1 H locs ls hM hS hl
  obtain ⟨x2, x3, M⟩ := q
  have h : fc_X4_mergeAll_20 x0 x1 x2 x3 M = some y1 := h
  have hM : MOK E M H := hM
  have hl : lv_has ls 5 [(0, .ref x0), (1, .ref x1), (2, .int x2), (3, .int x3)] := hl
  unfold fc_X4_mergeAll_20 at h
  show W p l e rm_X4_mergeAll s m args below meth c H locs _ _ _ _
  refine lv_iload_n hx hb dX4_mergeAll_20 rfl (lv_at hl 3 rfl) ?_
  refine lv_aload_n hx hb dX4_mergeAll_21 rfl (lv_at hl 0 rfl) ?_
  obtain ⟨v7, h1, h⟩ := ob h
  refine rgn_4_6 hx hb hts hown hE hM qw_404 h1 dX4_mergeAll_22 ?_
  obtain ⟨v8, h1, h⟩ := ob h
  refine rg_3_0 hx hb hts hown hE hM qw_89 h1 dX4_mergeAll_25 ?_
  refine lv_icmp_ge (tgt := 66) hx hb dX4_mergeAll_28 (by decide) (fun c1 => ?_) (fun c1 => ?_)
  · have h := ifp c1 h
    obtain ⟨z0, h9, rfl⟩ := om h
    have e0 := hy1.2 _ rfl
    subst e0
    have h := h9
    refine W.widen (k := 24) (n := 1353) (Nat.le_of_ble_eq_true rfl) (Nat.le_of_ble_eq_true rfl) ?_
    exact tj_X4_mergeAll_66  hC hr hlocks hE  h hM hS (lv_sub hl [2] rfl)
  · have h := ifn c1 h
    refine lv_aload_n hx hb dX4_mergeAll_31 rfl (lv_at hl 0 rfl) ?_
    obtain ⟨v9, h1, h⟩ := ob h
    refine rgn_4_6 hx hb hts hown hE hM qw_404 h1 dX4_mergeAll_32 ?_
    obtain ⟨v10, h1, h⟩ := ob h
    refine rgn_3_4 hx hb hts hown hE hM qw_102 h1 dX4_mergeAll_35 ?_
    refine lv_iload_n hx hb dX4_mergeAll_38 rfl (lv_at hl 3 rfl) ?_
    obtain ⟨v11, h1, h⟩ := ob h
    refine r_aldnS hx hb hE hM h1 dX4_mergeAll_39 ?_
    refine lv_astore (lv' := [(4, .ref v11), (0, .ref x0), (1, .ref x1), (2, .int x2), (3, .int x3)]) hx hb dX4_mergeAll_40 hl (by decide) rfl (fun ls hl => ?_)
    refine lv_aload hx hb dX4_mergeAll_42 (lv_at hl 0 rfl) ?_
    refine lv_aload_n hx hb dX4_mergeAll_44 rfl (lv_at hl 2 rfl) ?_
    obtain ⟨v12, M13, h1, h⟩ := ob2 h
    obtain ⟨hk1, h1⟩ := ifg h1
    refine kV1 (ci := 2) (As := [.ref x1]) (rest := []) hC hE hS hM (mt_X2_sameAs _ E v11 x1 _ _ _ h1) (gwV qw_703 qw_704 qw_705 qw_41 qw_706) ⟨rfl, rfl, (Nat.le_of_ble_eq_true rfl), (Nat.le_of_ble_eq_true rfl)⟩ dd_X2_sameAs rfl hk1 rfl rfl hl.1 (Nat.le_of_ble_eq_true rfl) dX4_mergeAll_45 ⟨(Nat.le_of_ble_eq_true rfl), (Nat.le_of_ble_eq_true rfl)⟩ (fun H locs hM hS => ?_)
    refine lv_if_ne (tgt := 60) hx hb dX4_mergeAll_48 (by decide) (fun c1 => ?_) (fun c1 => ?_)
    · have h := ifn c1 h
      refine W.widen (k := 24) (n := 1353) (Nat.le_of_ble_eq_true rfl) (Nat.le_of_ble_eq_true rfl) ?_
      exact tj_X4_mergeAll_60  hC hr hlocks hE hy1  h hM hS (lv_sub hl [1, 2, 3, 4] rfl)
    · have h := ifp c1 h
      refine lv_aload hx hb dX4_mergeAll_51 (lv_at hl 0 rfl) ?_
      refine lv_aload_n hx hb dX4_mergeAll_53 rfl (lv_at hl 2 rfl) ?_
      obtain ⟨M15, h1, h⟩ := ob h
      obtain ⟨hk1, h1⟩ := ifg h1
      refine kV0 (ci := 2) (As := [.ref x1]) (rest := []) hC hE hS hM (mt_X2_copyFrom _ E v11 x1 _ _ h1) (gwV qw_701 qw_387 qw_388 qw_41 qw_389) ⟨rfl, rfl, (Nat.le_of_ble_eq_true rfl), (Nat.le_of_ble_eq_true rfl)⟩ dd_X2_copyFrom rfl hk1 rfl rfl hl.1 (Nat.le_of_ble_eq_true rfl) dX4_mergeAll_54 ⟨(Nat.le_of_ble_eq_true rfl), (Nat.le_of_ble_eq_true rfl)⟩ (fun H locs hM hS => ?_)
      refine lv_iinc (v := x2 + 1) (lv' := [(2, .int (x2 + 1)), (4, .ref v11), (0, .ref x0), (1, .ref x1), (3, .int x3)]) hx hb dX4_mergeAll_57 hl (k := 3) rfl rfl (by decide) rfl (fun ls hl => ?_)
      refine W.widen (k := 24) (n := 1353) (Nat.le_of_ble_eq_true rfl) (Nat.le_of_ble_eq_true rfl) ?_
      exact tj_X4_mergeAll_60  hC hr hlocks hE hy1  h hM hS (lv_sub hl [2, 3, 0, 4] rfl)
noncomputable def f_X4_mergeAll (this : Nat) (M : Mem) : Option (Int32 × Mem) :=
  (gRn 5 136 this M).bind fun v1 =>
  (gRn 5 134 this M).bind fun v2 =>
  (cK 1 v1 M (f_X0_record v1 v2 M)).bind fun M4 =>
  bn (cK 5 this M4 (f_X4_allMergedOnTrial this M4)) fun v5 M6 =>
  fj_X4_mergeAll_20 this v5 0 0 M6
set_option maxHeartbeats 4000000 in
set_option maxRecDepth 100000 in
theorem mt_X4_mergeAll (l : Launch) (E : KEnv) (this : Nat) (M M' : Mem) (v : Int32) (h : f_X4_mergeAll this M = some (v, M')) : Met l yX4_mergeAll (Cond.code yX4_mergeAll cX4_mergeAll 5 (some .int) :: lw_G) rm_X4_mergeAll (cPc E [.ref this] M) (cQ E (some (.int v)) M') 24 1353 (eA E) := by
  refine Met.ofW (cc := cX4_mergeAll) (maxL := 5) (ret := (some .int)) (by decide) rfl ?_
  intro p e s m args below meth c s₁ B hml hv
  obtain ⟨rfl, hE, hM⟩ := hv
  have hx := B.exec
  have hb := B.bytes
  have hr := B.returns
  have hts0 := atoms_spec (ws := Cond.code yX4_mergeAll cX4_mergeAll 5 (some .int) :: lw_G) B.pre
  have hts : ∀ w ∈ lw_G, w.before _ s = true := fun w hw => hts0 w (List.mem_cons_of_mem _ hw)
  have hown : s.vm.findClass RX4 = some m.cls := findClass_of_methodNamed B.named
  have hlocks := B.notSynchronized
  have hC : CallFix p m c cX4_mergeAll 5 s _ lw_G RX4 := ⟨hx, hb, hml, hown, hts⟩
  have hS : va_S (eA E) s.heap s.heap [] := va_S.rf
  have hl := lv_entry ([.ref this]) (n := 5) (Nat.le_of_ble_eq_true rfl)
  rw [lg_entry_eq]
  generalize (lg_sl ([.ref this]) ++ List.replicate (5 - (lg_sl ([.ref this])).length) Slot.unset).toArray = ls at hl ⊢
  have hl : lv_has ls 5 [(0, .ref this)] := hl
  unfold f_X4_mergeAll at h
  show W p l e rm_X4_mergeAll s m _ below meth c s.heap [] 0 0 _ _
  refine lv_aload_n hx hb dX4_mergeAll_0 rfl (lv_at hl 0 rfl) ?_
  obtain ⟨v1, h1, h⟩ := ob h
  refine rgn_4_8 hx hb hts hown hE hM qw_406 h1 dX4_mergeAll_1 ?_
  refine lv_aload_n hx hb dX4_mergeAll_4 rfl (lv_at hl 0 rfl) ?_
  obtain ⟨v2, h1, h⟩ := ob h
  refine rgn_4_6 hx hb hts hown hE hM qw_404 h1 dX4_mergeAll_5 ?_
  obtain ⟨M4, h1, h⟩ := ob h
  obtain ⟨hk1, h1⟩ := ifg h1
  refine kV0 (ci := 0) (As := [.ref v2]) (rest := []) hC hE hS hM (mt_X0_record _ E v1 v2 _ _ h1) (gwV qw_526 qw_527 qw_528 qw_42 qw_529) ⟨rfl, rfl, (Nat.le_of_ble_eq_true rfl), (Nat.le_of_ble_eq_true rfl)⟩ dd_X0_record rfl hk1 rfl rfl hl.1 (Nat.le_of_ble_eq_true rfl) dX4_mergeAll_8 ⟨(Nat.le_of_ble_eq_true rfl), (Nat.le_of_ble_eq_true rfl)⟩ (fun H locs hM hS => ?_)
  refine lv_aload_n hx hb dX4_mergeAll_11 rfl (lv_at hl 0 rfl) ?_
  obtain ⟨v5, M6, h1, h⟩ := ob2 h
  obtain ⟨hk1, h1⟩ := ifg h1
  refine kV1 (ci := 4) (As := []) (rest := []) hC hE hS hM (mt_X4_allMergedOnTrial _ E this _ _ _ h1) (gwV qw_1114 qw_1116 qw_35 qw_39 qw_1117) ⟨rfl, rfl, (Nat.le_of_ble_eq_true rfl), (Nat.le_of_ble_eq_true rfl)⟩ dd_X4_allMergedOnTrial rfl hk1 rfl rfl hl.1 (Nat.le_of_ble_eq_true rfl) dX4_mergeAll_12 ⟨(Nat.le_of_ble_eq_true rfl), (Nat.le_of_ble_eq_true rfl)⟩ (fun H locs hM hS => ?_)
  refine lv_astore_n (lv' := [(1, .ref v5), (0, .ref this)]) hx hb dX4_mergeAll_15 rfl hl (by decide) rfl (fun ls hl => ?_)
  refine lv_iconst (v := 0) hx hb dX4_mergeAll_16 (by decide) ?_
  refine lv_istore_n (lv' := [(2, .int 0), (1, .ref v5), (0, .ref this)]) hx hb dX4_mergeAll_17 rfl hl (by decide) rfl (fun ls hl => ?_)
  refine lv_iconst (v := 0) hx hb dX4_mergeAll_18 (by decide) ?_
  refine lv_istore_n (lv' := [(3, .int 0), (2, .int 0), (1, .ref v5), (0, .ref this)]) hx hb dX4_mergeAll_19 rfl hl (by decide) rfl (fun ls hl => ?_)
  refine W.widen (k := 24) (n := 1353) (Nat.le_of_ble_eq_true rfl) (Nat.le_of_ble_eq_true rfl) ?_
  exact tj_X4_mergeAll_20  hC hr hlocks hE  h hM hS (lv_sub hl [3, 2, 1, 0] rfl)

theorem dd_X4_send : yX4_send.cls = RX4 ∧ yX4_send.cls ≠ "java/lang/invoke/MethodHandle" ∧ yX4_send.cls ≠ "java/lang/invoke/VarHandle" ∧ (parseMethodDescriptor yX4_send.desc).map (fun d => d.parameters.length) = some 1 := by decide +kernel
abbrev rm_X4_send : Room := ({ frames := 7, cells := 25, slots := 1359, locals := 124 } : Room)
noncomputable def f_X4_send (this : Nat) (a1 : Int32) (M : Mem) : Option ((Int32 ⊕ Nat) × Mem) :=
  bx (cK 5 this M (f_X4_requireReplica this a1 M)) (fun ex M => some ((.inr ex, M))) fun v1 M2 =>
  (gRn 5 134 this M2).bind fun v3 =>
  (gI 4 99 v3 M2).bind fun v4 =>
  (if v4 < 6 then
  (gRn 5 136 this M2).bind fun v5 =>
  (gRn 5 134 this M2).bind fun v6 =>
  (cK 1 v5 M2 (f_X0_record v5 v6 M2)).bind fun M8 =>
  (gRn 5 134 this M8).bind fun v9 =>
  (cK 4 v9 M8 (f_X3_addMessage v9 a1 M8)).bind fun M11 =>
  (gRn 5 134 this M11).bind fun v12 =>
  (gI 4 99 v12 M11).bind fun v13 =>
  some (.inl (v13 - 1), M11)
  else
  some (.inr 2, M2))
set_option maxHeartbeats 4000000 in
set_option maxRecDepth 100000 in
theorem mt_X4_send (l : Launch) (hfl : l.stackTraces = false) (E : KEnv) (this : Nat) (a1 : Int32) (M M' : Mem) (r : Int32 ⊕ Nat) (h : f_X4_send this a1 M = some (r, M')) : vx_Met l yX4_send (Cond.code yX4_send cX4_send 2 (some .int) :: lw_G) rm_X4_send (cPc E [.ref this, .int a1] M) (cQx E (vI r) M') (cXx E (vI r) M') 25 1359 (eA E) := by
  refine vx_ofW (cc := cX4_send) (maxL := 2) (ret := (some .int)) (by decide) rfl ?_
  intro p e s m args below meth c s₁ B hml hout hv
  obtain ⟨rfl, hE, hM⟩ := hv
  have hx := B.exec
  have hb := B.bytes
  have hr := B.returns
  have hts0 := atoms_spec (ws := Cond.code yX4_send cX4_send 2 (some .int) :: lw_G) B.pre
  have hts : ∀ w ∈ lw_G, w.before _ s = true := fun w hw => hts0 w (List.mem_cons_of_mem _ hw)
  have hown : s.vm.findClass RX4 = some m.cls := findClass_of_methodNamed B.named
  have hlocks := B.notSynchronized
  have hC : CallFix p m c cX4_send 2 s _ lw_G RX4 := ⟨hx, hb, hml, hown, hts⟩
  have hS : va_S (eA E) s.heap s.heap [] := va_S.rf
  have hl := lv_entry ([.ref this, .int a1]) (n := 2) (Nat.le_of_ble_eq_true rfl)
  rw [lg_entry_eq]
  generalize (lg_sl ([.ref this, .int a1]) ++ List.replicate (2 - (lg_sl ([.ref this, .int a1])).length) Slot.unset).toArray = ls at hl ⊢
  have hl : lv_has ls 2 [(0, .ref this), (1, .int a1)] := hl
  unfold f_X4_send at h
  show W p l e rm_X4_send s m _ below meth c s.heap [] 0 0 _ _
  refine lv_aload_n hx hb dX4_send_0 rfl (lv_at hl 0 rfl) ?_
  refine lv_iload_n hx hb dX4_send_1 rfl (lv_at hl 1 rfl) ?_
  rcases obx h with ⟨v1, M2, h1, h⟩ | ⟨ex, M9, h1, h⟩
  rotate_left
  · obtain ⟨hk1, h1⟩ := ifg h1
    cases h
    exact kx_out (kx_V (ci := 4) (As := [.int a1]) (rest := []) hC hE hS hM (mt_X4_requireReplica _ hfl E this a1 _ _ _ h1) (gwV qw_623 qw_625 qw_26 qw_39 qw_626) ⟨rfl, rfl, (Nat.le_of_ble_eq_true rfl), (Nat.le_of_ble_eq_true rfl)⟩ dd_X4_requireReplica rfl hk1 rfl rfl hl.1 (Nat.le_of_ble_eq_true rfl) dX4_send_2 ⟨(Nat.le_of_ble_eq_true rfl), (Nat.le_of_ble_eq_true rfl)⟩) hS hout hlocks (Nat.le_of_ble_eq_true rfl) (Nat.le_of_ble_eq_true rfl)
  obtain ⟨hk1, h1⟩ := ifg h1
  refine kx_ok0 (kx_V (ci := 4) (As := [.int a1]) (rest := []) hC hE hS hM (mt_X4_requireReplica _ hfl E this a1 _ _ _ h1) (gwV qw_623 qw_625 qw_26 qw_39 qw_626) ⟨rfl, rfl, (Nat.le_of_ble_eq_true rfl), (Nat.le_of_ble_eq_true rfl)⟩ dd_X4_requireReplica rfl hk1 rfl rfl hl.1 (Nat.le_of_ble_eq_true rfl) dX4_send_2 ⟨(Nat.le_of_ble_eq_true rfl), (Nat.le_of_ble_eq_true rfl)⟩) hS (fun H locs hM hS => ?_)
  refine lv_aload_n hx hb dX4_send_5 rfl (lv_at hl 0 rfl) ?_
  obtain ⟨v3, h1, h⟩ := ob h
  refine rgn_4_6 hx hb hts hown hE hM qw_404 h1 dX4_send_6 ?_
  obtain ⟨v4, h1, h⟩ := ob h
  refine rg_3_3 hx hb hts hown hE hM qw_99 h1 dX4_send_9 ?_
  refine lv_bipush (v := 6) hx hb dX4_send_12 (by decide) ?_
  refine lv_icmp_lt (tgt := 28) hx hb dX4_send_14 (by decide) (fun c1 => ?_) (fun c1 => ?_)
  · have h := ifp c1 h
    refine lv_aload_n hx hb dX4_send_28 rfl (lv_at hl 0 rfl) ?_
    obtain ⟨v5, h1, h⟩ := ob h
    refine rgn_4_8 hx hb hts hown hE hM qw_406 h1 dX4_send_29 ?_
    refine lv_aload_n hx hb dX4_send_32 rfl (lv_at hl 0 rfl) ?_
    obtain ⟨v6, h1, h⟩ := ob h
    refine rgn_4_6 hx hb hts hown hE hM qw_404 h1 dX4_send_33 ?_
    obtain ⟨M8, h1, h⟩ := ob h
    obtain ⟨hk1, h1⟩ := ifg h1
    refine kV0 (ci := 0) (As := [.ref v6]) (rest := []) hC hE hS hM (mt_X0_record _ E v5 v6 _ _ h1) (gwV qw_526 qw_527 qw_528 qw_42 qw_529) ⟨rfl, rfl, (Nat.le_of_ble_eq_true rfl), (Nat.le_of_ble_eq_true rfl)⟩ dd_X0_record rfl hk1 rfl rfl hl.1 (Nat.le_of_ble_eq_true rfl) dX4_send_36 ⟨(Nat.le_of_ble_eq_true rfl), (Nat.le_of_ble_eq_true rfl)⟩ (fun H locs hM hS => ?_)
    refine lv_aload_n hx hb dX4_send_39 rfl (lv_at hl 0 rfl) ?_
    obtain ⟨v9, h1, h⟩ := ob h
    refine rgn_4_6 hx hb hts hown hE hM qw_404 h1 dX4_send_40 ?_
    refine lv_iload_n hx hb dX4_send_43 rfl (lv_at hl 1 rfl) ?_
    obtain ⟨M11, h1, h⟩ := ob h
    obtain ⟨hk1, h1⟩ := ifg h1
    refine kV0 (ci := 3) (As := [.int a1]) (rest := []) hC hE hS hM (mt_X3_addMessage _ E v9 a1 _ _ h1) (gwV qw_715 qw_383 qw_384 qw_40 qw_385) ⟨rfl, rfl, (Nat.le_of_ble_eq_true rfl), (Nat.le_of_ble_eq_true rfl)⟩ dd_X3_addMessage rfl hk1 rfl rfl hl.1 (Nat.le_of_ble_eq_true rfl) dX4_send_44 ⟨(Nat.le_of_ble_eq_true rfl), (Nat.le_of_ble_eq_true rfl)⟩ (fun H locs hM hS => ?_)
    refine lv_aload_n hx hb dX4_send_47 rfl (lv_at hl 0 rfl) ?_
    obtain ⟨v12, h1, h⟩ := ob h
    refine rgn_4_6 hx hb hts hown hE hM qw_404 h1 dX4_send_48 ?_
    obtain ⟨v13, h1, h⟩ := ob h
    refine rg_3_3 hx hb hts hown hE hM qw_99 h1 dX4_send_51 ?_
    refine lv_iconst (v := 1) hx hb dX4_send_54 (by decide) ?_
    refine lv_isub hx hb dX4_send_55 ?_
    cases h
    exact xRet (eI hx hb hr hlocks hM hS dX4_send_56 (Nat.le_of_ble_eq_true rfl) (Nat.le_of_ble_eq_true rfl))
  · have h := ifn c1 h
    cases h
    exact xThrW (i := 29) hfl hx hb hown hts hE hM hS (by decide) qw_510 qw_59 st_29 (ex_at hts hE ex_g2 ex_b2 (by decide)) (by decide +kernel) (hl.1.trans hml.symm) dX4_send_17 dX4_send_20 dX4_send_21 dX4_send_24 dX4_send_27 hout (Nat.le_of_ble_eq_true rfl) (Nat.le_of_ble_eq_true rfl) (Nat.le_of_ble_eq_true rfl) (Nat.le_of_ble_eq_true rfl) hlocks (Nat.le_of_ble_eq_true rfl) (Nat.le_of_ble_eq_true rfl)

theorem dd_X4_deliver : yX4_deliver.cls = RX4 ∧ yX4_deliver.cls ≠ "java/lang/invoke/MethodHandle" ∧ yX4_deliver.cls ≠ "java/lang/invoke/VarHandle" ∧ (parseMethodDescriptor yX4_deliver.desc).map (fun d => d.parameters.length) = some 2 := by decide +kernel
abbrev rm_X4_deliver : Room := ({ frames := 8, cells := 26, slots := 1365, locals := 146 } : Room)
noncomputable def f_X4_deliver (this : Nat) (a1 : Int32) (a2 : Int32) (M : Mem) : Option ((Int32 ⊕ Nat) × Mem) :=
  bx (cK 5 this M (f_X4_requireMessage this a1 M)) (fun ex M => some ((.inr ex, M))) fun v1 M2 =>
  bx (cK 5 this M2 (f_X4_stateOf this a2 M2)) (fun ex M => some ((.inr ex, M))) fun v3 M4 =>
  (gRn 5 134 this M4).bind fun v5 =>
  (gRn 4 101 v5 M4).bind fun v6 =>
  (gBn 10 v6 a1 M4).bind fun v7 =>
  bn (cK 5 this M4 (f_X4_mergeAndRecord this v3 v7 M4)) fun v8 M9 =>
  (if v8 = 0 ∨ v8 = 1 then some (.inl v8, M9) else none)
set_option maxHeartbeats 4000000 in
set_option maxRecDepth 100000 in
theorem mt_X4_deliver (l : Launch) (hfl : l.stackTraces = false) (E : KEnv) (this : Nat) (a1 : Int32) (a2 : Int32) (M M' : Mem) (r : Int32 ⊕ Nat) (h : f_X4_deliver this a1 a2 M = some (r, M')) : vx_Met l yX4_deliver (Cond.code yX4_deliver cX4_deliver 3 (some .boolean) :: lw_G) rm_X4_deliver (cPc E [.ref this, .int a1, .int a2] M) (cQx E (vI r) M') (cXx E (vI r) M') 26 1365 (eA E) := by
  refine vx_ofW (cc := cX4_deliver) (maxL := 3) (ret := (some .boolean)) (by decide) rfl ?_
  intro p e s m args below meth c s₁ B hml hout hv
  obtain ⟨rfl, hE, hM⟩ := hv
  have hx := B.exec
  have hb := B.bytes
  have hr := B.returns
  have hts0 := atoms_spec (ws := Cond.code yX4_deliver cX4_deliver 3 (some .boolean) :: lw_G) B.pre
  have hts : ∀ w ∈ lw_G, w.before _ s = true := fun w hw => hts0 w (List.mem_cons_of_mem _ hw)
  have hown : s.vm.findClass RX4 = some m.cls := findClass_of_methodNamed B.named
  have hlocks := B.notSynchronized
  have hC : CallFix p m c cX4_deliver 3 s _ lw_G RX4 := ⟨hx, hb, hml, hown, hts⟩
  have hS : va_S (eA E) s.heap s.heap [] := va_S.rf
  have hl := lv_entry ([.ref this, .int a1, .int a2]) (n := 3) (Nat.le_of_ble_eq_true rfl)
  rw [lg_entry_eq]
  generalize (lg_sl ([.ref this, .int a1, .int a2]) ++ List.replicate (3 - (lg_sl ([.ref this, .int a1, .int a2])).length) Slot.unset).toArray = ls at hl ⊢
  have hl : lv_has ls 3 [(0, .ref this), (1, .int a1), (2, .int a2)] := hl
  unfold f_X4_deliver at h
  show W p l e rm_X4_deliver s m _ below meth c s.heap [] 0 0 _ _
  refine lv_aload_n hx hb dX4_deliver_0 rfl (lv_at hl 0 rfl) ?_
  refine lv_iload_n hx hb dX4_deliver_1 rfl (lv_at hl 1 rfl) ?_
  rcases obx h with ⟨v1, M2, h1, h⟩ | ⟨ex, M9, h1, h⟩
  rotate_left
  · obtain ⟨hk1, h1⟩ := ifg h1
    cases h
    exact kx_out (kx_V (ci := 4) (As := [.int a1]) (rest := []) hC hE hS hM (mt_X4_requireMessage _ hfl E this a1 _ _ _ h1) (gwV qw_723 qw_725 qw_31 qw_39 qw_726) ⟨rfl, rfl, (Nat.le_of_ble_eq_true rfl), (Nat.le_of_ble_eq_true rfl)⟩ dd_X4_requireMessage rfl hk1 rfl rfl hl.1 (Nat.le_of_ble_eq_true rfl) dX4_deliver_2 ⟨(Nat.le_of_ble_eq_true rfl), (Nat.le_of_ble_eq_true rfl)⟩) hS hout hlocks (Nat.le_of_ble_eq_true rfl) (Nat.le_of_ble_eq_true rfl)
  obtain ⟨hk1, h1⟩ := ifg h1
  refine kx_ok0 (kx_V (ci := 4) (As := [.int a1]) (rest := []) hC hE hS hM (mt_X4_requireMessage _ hfl E this a1 _ _ _ h1) (gwV qw_723 qw_725 qw_31 qw_39 qw_726) ⟨rfl, rfl, (Nat.le_of_ble_eq_true rfl), (Nat.le_of_ble_eq_true rfl)⟩ dd_X4_requireMessage rfl hk1 rfl rfl hl.1 (Nat.le_of_ble_eq_true rfl) dX4_deliver_2 ⟨(Nat.le_of_ble_eq_true rfl), (Nat.le_of_ble_eq_true rfl)⟩) hS (fun H locs hM hS => ?_)
  refine lv_aload_n hx hb dX4_deliver_5 rfl (lv_at hl 0 rfl) ?_
  refine lv_aload_n hx hb dX4_deliver_6 rfl (lv_at hl 0 rfl) ?_
  refine lv_iload_n hx hb dX4_deliver_7 rfl (lv_at hl 2 rfl) ?_
  rcases obx h with ⟨v3, M4, h1, h⟩ | ⟨ex, M9, h1, h⟩
  rotate_left
  · obtain ⟨hk1, h1⟩ := ifg h1
    cases h
    exact kx_out (kx_V (ci := 4) (As := [.int a2]) (rest := [.ref this]) hC hE hS hM (mt_X4_stateOf _ hfl E this a2 _ _ _ h1) (gwV qw_619 qw_621 qw_25 qw_39 qw_622) ⟨rfl, rfl, (Nat.le_of_ble_eq_true rfl), (Nat.le_of_ble_eq_true rfl)⟩ dd_X4_stateOf rfl hk1 rfl rfl hl.1 (Nat.le_of_ble_eq_true rfl) dX4_deliver_8 ⟨(Nat.le_of_ble_eq_true rfl), (Nat.le_of_ble_eq_true rfl)⟩) hS hout hlocks (Nat.le_of_ble_eq_true rfl) (Nat.le_of_ble_eq_true rfl)
  obtain ⟨hk1, h1⟩ := ifg h1
  refine kx_ok1 (kx_V (ci := 4) (As := [.int a2]) (rest := [.ref this]) hC hE hS hM (mt_X4_stateOf _ hfl E this a2 _ _ _ h1) (gwV qw_619 qw_621 qw_25 qw_39 qw_622) ⟨rfl, rfl, (Nat.le_of_ble_eq_true rfl), (Nat.le_of_ble_eq_true rfl)⟩ dd_X4_stateOf rfl hk1 rfl rfl hl.1 (Nat.le_of_ble_eq_true rfl) dX4_deliver_8 ⟨(Nat.le_of_ble_eq_true rfl), (Nat.le_of_ble_eq_true rfl)⟩) hS (fun H locs hM hS => ?_)
  refine lv_aload_n hx hb dX4_deliver_11 rfl (lv_at hl 0 rfl) ?_
  obtain ⟨v5, h1, h⟩ := ob h
  refine rgn_4_6 hx hb hts hown hE hM qw_404 h1 dX4_deliver_12 ?_
  obtain ⟨v6, h1, h⟩ := ob h
  refine rgn_3_5 hx hb hts hown hE hM qw_105 h1 dX4_deliver_15 ?_
  refine lv_iload_n hx hb dX4_deliver_18 rfl (lv_at hl 1 rfl) ?_
  obtain ⟨v7, h1, h⟩ := ob h
  refine r_aldnS hx hb hE hM h1 dX4_deliver_19 ?_
  obtain ⟨v8, M9, h1, h⟩ := ob2 h
  obtain ⟨hk1, h1⟩ := ifg h1
  refine kV1 (ci := 4) (As := [.ref v3, .ref v7]) (rest := []) hC hE hS hM (mt_X4_mergeAndRecord _ E this v3 v7 _ _ _ h1) (gwV qw_697 qw_699 qw_30 qw_39 qw_700) ⟨rfl, rfl, (Nat.le_of_ble_eq_true rfl), (Nat.le_of_ble_eq_true rfl)⟩ dd_X4_mergeAndRecord rfl hk1 rfl rfl hl.1 (Nat.le_of_ble_eq_true rfl) dX4_deliver_20 ⟨(Nat.le_of_ble_eq_true rfl), (Nat.le_of_ble_eq_true rfl)⟩ (fun H locs hM hS => ?_)
  obtain ⟨h01, h⟩ := ifg h
  cases h
  exact xRet (eZ hx hb hr hlocks hM hS dX4_deliver_23 (Nat.le_of_ble_eq_true rfl) (Nat.le_of_ble_eq_true rfl) h01)

theorem dd_X4_drop : yX4_drop.cls = RX4 ∧ yX4_drop.cls ≠ "java/lang/invoke/MethodHandle" ∧ yX4_drop.cls ≠ "java/lang/invoke/VarHandle" ∧ (parseMethodDescriptor yX4_drop.desc).map (fun d => d.parameters.length) = some 1 := by decide +kernel
abbrev rm_X4_drop : Room := ({ frames := 7, cells := 25, slots := 1359, locals := 124 } : Room)
noncomputable def f_X4_drop (this : Nat) (a1 : Int32) (M : Mem) : Option ((Int32 ⊕ Nat) × Mem) :=
  bx (cK 5 this M (f_X4_requireMessage this a1 M)) (fun ex M => some ((.inr ex, M))) fun v1 M2 =>
  (gRn 5 136 this M2).bind fun v3 =>
  (gRn 5 134 this M2).bind fun v4 =>
  (cK 1 v3 M2 (f_X0_record v3 v4 M2)).bind fun M6 =>
  (gRn 5 134 this M6).bind fun v7 =>
  (cK 4 v7 M6 (f_X3_removeMessage v7 a1 M6)).bind fun M9 =>
  (gRn 5 134 this M9).bind fun v10 =>
  (gI 4 99 v10 M9).bind fun v11 =>
  some (.inl v11, M9)
set_option maxHeartbeats 4000000 in
set_option maxRecDepth 100000 in
theorem mt_X4_drop (l : Launch) (hfl : l.stackTraces = false) (E : KEnv) (this : Nat) (a1 : Int32) (M M' : Mem) (r : Int32 ⊕ Nat) (h : f_X4_drop this a1 M = some (r, M')) : vx_Met l yX4_drop (Cond.code yX4_drop cX4_drop 2 (some .int) :: lw_G) rm_X4_drop (cPc E [.ref this, .int a1] M) (cQx E (vI r) M') (cXx E (vI r) M') 25 1359 (eA E) := by
  refine vx_ofW (cc := cX4_drop) (maxL := 2) (ret := (some .int)) (by decide) rfl ?_
  intro p e s m args below meth c s₁ B hml hout hv
  obtain ⟨rfl, hE, hM⟩ := hv
  have hx := B.exec
  have hb := B.bytes
  have hr := B.returns
  have hts0 := atoms_spec (ws := Cond.code yX4_drop cX4_drop 2 (some .int) :: lw_G) B.pre
  have hts : ∀ w ∈ lw_G, w.before _ s = true := fun w hw => hts0 w (List.mem_cons_of_mem _ hw)
  have hown : s.vm.findClass RX4 = some m.cls := findClass_of_methodNamed B.named
  have hlocks := B.notSynchronized
  have hC : CallFix p m c cX4_drop 2 s _ lw_G RX4 := ⟨hx, hb, hml, hown, hts⟩
  have hS : va_S (eA E) s.heap s.heap [] := va_S.rf
  have hl := lv_entry ([.ref this, .int a1]) (n := 2) (Nat.le_of_ble_eq_true rfl)
  rw [lg_entry_eq]
  generalize (lg_sl ([.ref this, .int a1]) ++ List.replicate (2 - (lg_sl ([.ref this, .int a1])).length) Slot.unset).toArray = ls at hl ⊢
  have hl : lv_has ls 2 [(0, .ref this), (1, .int a1)] := hl
  unfold f_X4_drop at h
  show W p l e rm_X4_drop s m _ below meth c s.heap [] 0 0 _ _
  refine lv_aload_n hx hb dX4_drop_0 rfl (lv_at hl 0 rfl) ?_
  refine lv_iload_n hx hb dX4_drop_1 rfl (lv_at hl 1 rfl) ?_
  rcases obx h with ⟨v1, M2, h1, h⟩ | ⟨ex, M9, h1, h⟩
  rotate_left
  · obtain ⟨hk1, h1⟩ := ifg h1
    cases h
    exact kx_out (kx_V (ci := 4) (As := [.int a1]) (rest := []) hC hE hS hM (mt_X4_requireMessage _ hfl E this a1 _ _ _ h1) (gwV qw_723 qw_725 qw_31 qw_39 qw_726) ⟨rfl, rfl, (Nat.le_of_ble_eq_true rfl), (Nat.le_of_ble_eq_true rfl)⟩ dd_X4_requireMessage rfl hk1 rfl rfl hl.1 (Nat.le_of_ble_eq_true rfl) dX4_drop_2 ⟨(Nat.le_of_ble_eq_true rfl), (Nat.le_of_ble_eq_true rfl)⟩) hS hout hlocks (Nat.le_of_ble_eq_true rfl) (Nat.le_of_ble_eq_true rfl)
  obtain ⟨hk1, h1⟩ := ifg h1
  refine kx_ok0 (kx_V (ci := 4) (As := [.int a1]) (rest := []) hC hE hS hM (mt_X4_requireMessage _ hfl E this a1 _ _ _ h1) (gwV qw_723 qw_725 qw_31 qw_39 qw_726) ⟨rfl, rfl, (Nat.le_of_ble_eq_true rfl), (Nat.le_of_ble_eq_true rfl)⟩ dd_X4_requireMessage rfl hk1 rfl rfl hl.1 (Nat.le_of_ble_eq_true rfl) dX4_drop_2 ⟨(Nat.le_of_ble_eq_true rfl), (Nat.le_of_ble_eq_true rfl)⟩) hS (fun H locs hM hS => ?_)
  refine lv_aload_n hx hb dX4_drop_5 rfl (lv_at hl 0 rfl) ?_
  obtain ⟨v3, h1, h⟩ := ob h
  refine rgn_4_8 hx hb hts hown hE hM qw_406 h1 dX4_drop_6 ?_
  refine lv_aload_n hx hb dX4_drop_9 rfl (lv_at hl 0 rfl) ?_
  obtain ⟨v4, h1, h⟩ := ob h
  refine rgn_4_6 hx hb hts hown hE hM qw_404 h1 dX4_drop_10 ?_
  obtain ⟨M6, h1, h⟩ := ob h
  obtain ⟨hk1, h1⟩ := ifg h1
  refine kV0 (ci := 0) (As := [.ref v4]) (rest := []) hC hE hS hM (mt_X0_record _ E v3 v4 _ _ h1) (gwV qw_526 qw_527 qw_528 qw_42 qw_529) ⟨rfl, rfl, (Nat.le_of_ble_eq_true rfl), (Nat.le_of_ble_eq_true rfl)⟩ dd_X0_record rfl hk1 rfl rfl hl.1 (Nat.le_of_ble_eq_true rfl) dX4_drop_13 ⟨(Nat.le_of_ble_eq_true rfl), (Nat.le_of_ble_eq_true rfl)⟩ (fun H locs hM hS => ?_)
  refine lv_aload_n hx hb dX4_drop_16 rfl (lv_at hl 0 rfl) ?_
  obtain ⟨v7, h1, h⟩ := ob h
  refine rgn_4_6 hx hb hts hown hE hM qw_404 h1 dX4_drop_17 ?_
  refine lv_iload_n hx hb dX4_drop_20 rfl (lv_at hl 1 rfl) ?_
  obtain ⟨M9, h1, h⟩ := ob h
  obtain ⟨hk1, h1⟩ := ifg h1
  refine kV0 (ci := 3) (As := [.int a1]) (rest := []) hC hE hS hM (mt_X3_removeMessage _ E v7 a1 _ _ h1) (gwV qw_735 qw_736 qw_737 qw_40 qw_738) ⟨rfl, rfl, (Nat.le_of_ble_eq_true rfl), (Nat.le_of_ble_eq_true rfl)⟩ dd_X3_removeMessage rfl hk1 rfl rfl hl.1 (Nat.le_of_ble_eq_true rfl) dX4_drop_21 ⟨(Nat.le_of_ble_eq_true rfl), (Nat.le_of_ble_eq_true rfl)⟩ (fun H locs hM hS => ?_)
  refine lv_aload_n hx hb dX4_drop_24 rfl (lv_at hl 0 rfl) ?_
  obtain ⟨v10, h1, h⟩ := ob h
  refine rgn_4_6 hx hb hts hown hE hM qw_404 h1 dX4_drop_25 ?_
  obtain ⟨v11, h1, h⟩ := ob h
  refine rg_3_3 hx hb hts hown hE hM qw_99 h1 dX4_drop_28 ?_
  cases h
  exact xRet (eI hx hb hr hlocks hM hS dX4_drop_31 (Nat.le_of_ble_eq_true rfl) (Nat.le_of_ble_eq_true rfl))

theorem dd_X4_requireSlot : yX4_requireSlot.cls = RX4 ∧ yX4_requireSlot.cls ≠ "java/lang/invoke/MethodHandle" ∧ yX4_requireSlot.cls ≠ "java/lang/invoke/VarHandle" ∧ (parseMethodDescriptor yX4_requireSlot.desc).map (fun d => d.parameters.length) = some 1 := by decide +kernel
abbrev rm_X4_requireSlot : Room := ({ frames := 6, cells := 1, slots := 6, locals := 90 } : Room)
noncomputable def fj_X4_requireSlot_9  (M : Mem) : Option ((Unit ⊕ Nat) × Mem) :=
  some (.inr 0, M)
set_option maxHeartbeats 4000000 in
set_option maxRecDepth 100000 in
theorem tj_X4_requireSlot_9 {p : Program} {l : Launch} {e : Env} {s : State} {m : MethodId} {args : Array Value} {below : List Frame} {meth : Method} {c : Code} {E : KEnv} {H : Heap} {locs : List Loc} {ls : Array Slot}  {M : Mem} {r : Unit ⊕ Nat} {M' : Mem} (hfl : l.stackTraces = false) (hout : ∀ x ∈ c.exceptionTable.toList, False) (hC : CallFix p m c cX4_requireSlot 2 s args lw_G RX4) (hr : meth.sig.returnType = none) (hlocks : meth.locks = false) (hE : EnvOK E s) (h : fj_X4_requireSlot_9  M = some (r, M')) (hM : MOK E M H) (hS : va_S (eA E) s.heap H locs) (hl : lv_has ls 2 []) : W p l e rm_X4_requireSlot s m args below meth c H locs 0 0 (vx_MQ below (cQx E (vU r) M') (cXx E (vU r) M') args s 1 6 (eA E)) (F0 m 9 ls []) := by
  obtain ⟨hx, hb, hml, hown, hts⟩ := id hC
  unfold fj_X4_requireSlot_9 at h
  cases h
  exact xThrW (i := 30) hfl hx hb hown hts hE hM hS (by decide) qw_443 qw_60 st_30 (ex_at hts hE ex_g0 ex_b0 (by decide)) (by decide +kernel) (hl.1.trans hml.symm) dX4_requireSlot_9 dX4_requireSlot_12 dX4_requireSlot_13 dX4_requireSlot_16 dX4_requireSlot_19 hout (Nat.le_of_ble_eq_true rfl) (Nat.le_of_ble_eq_true rfl) (Nat.le_of_ble_eq_true rfl) (Nat.le_of_ble_eq_true rfl) hlocks (Nat.le_of_ble_eq_true rfl) (Nat.le_of_ble_eq_true rfl)
noncomputable def f_X4_requireSlot (this : Nat) (a1 : Int32) (M : Mem) : Option ((Unit ⊕ Nat) × Mem) :=
  (if a1 < 0 then
  fj_X4_requireSlot_9 M
  else
  (if a1 < 2 then
  some (.inl (), M)
  else
  fj_X4_requireSlot_9 M))
set_option maxHeartbeats 4000000 in
set_option maxRecDepth 100000 in
theorem mt_X4_requireSlot (l : Launch) (hfl : l.stackTraces = false) (E : KEnv) (this : Nat) (a1 : Int32) (M M' : Mem) (r : Unit ⊕ Nat) (h : f_X4_requireSlot this a1 M = some (r, M')) : vx_Met l yX4_requireSlot (Cond.code yX4_requireSlot cX4_requireSlot 2 none :: lw_G) rm_X4_requireSlot (cPc E [.ref this, .int a1] M) (cQx E (vU r) M') (cXx E (vU r) M') 1 6 (eA E) := by
  refine vx_ofW (cc := cX4_requireSlot) (maxL := 2) (ret := none) (by decide) rfl ?_
  intro p e s m args below meth c s₁ B hml hout hv
  obtain ⟨rfl, hE, hM⟩ := hv
  have hx := B.exec
  have hb := B.bytes
  have hr := B.returns
  have hts0 := atoms_spec (ws := Cond.code yX4_requireSlot cX4_requireSlot 2 none :: lw_G) B.pre
  have hts : ∀ w ∈ lw_G, w.before _ s = true := fun w hw => hts0 w (List.mem_cons_of_mem _ hw)
  have hown : s.vm.findClass RX4 = some m.cls := findClass_of_methodNamed B.named
  have hlocks := B.notSynchronized
  have hC : CallFix p m c cX4_requireSlot 2 s _ lw_G RX4 := ⟨hx, hb, hml, hown, hts⟩
  have hS : va_S (eA E) s.heap s.heap [] := va_S.rf
  have hl := lv_entry ([.ref this, .int a1]) (n := 2) (Nat.le_of_ble_eq_true rfl)
  rw [lg_entry_eq]
  generalize (lg_sl ([.ref this, .int a1]) ++ List.replicate (2 - (lg_sl ([.ref this, .int a1])).length) Slot.unset).toArray = ls at hl ⊢
  have hl : lv_has ls 2 [(0, .ref this), (1, .int a1)] := hl
  unfold f_X4_requireSlot at h
  show W p l e rm_X4_requireSlot s m _ below meth c s.heap [] 0 0 _ _
  refine lv_iload_n hx hb dX4_requireSlot_0 rfl (lv_at hl 1 rfl) ?_
  refine lv_if_lt (tgt := 9) hx hb dX4_requireSlot_1 (by decide) (fun c1 => ?_) (fun c1 => ?_)
  · have h := ifp c1 h
    refine W.widen (k := 0) (n := 0) (Nat.le_of_ble_eq_true rfl) (Nat.le_of_ble_eq_true rfl) ?_
    exact tj_X4_requireSlot_9 hfl hout  hC hr hlocks hE  h hM hS (lv_sub hl [] rfl)
  · have h := ifn c1 h
    refine lv_iload_n hx hb dX4_requireSlot_4 rfl (lv_at hl 1 rfl) ?_
    refine lv_iconst (v := 2) hx hb dX4_requireSlot_5 (by decide) ?_
    refine lv_icmp_lt (tgt := 20) hx hb dX4_requireSlot_6 (by decide) (fun c1 => ?_) (fun c1 => ?_)
    · have h := ifp c1 h
      cases h
      exact xRet (eV_ hx hb hr hlocks hM hS dX4_requireSlot_20 (Nat.le_of_ble_eq_true rfl) (Nat.le_of_ble_eq_true rfl))
    · have h := ifn c1 h
      refine W.widen (k := 0) (n := 0) (Nat.le_of_ble_eq_true rfl) (Nat.le_of_ble_eq_true rfl) ?_
      exact tj_X4_requireSlot_9 hfl hout  hC hr hlocks hE  h hM hS (lv_sub hl [] rfl)

theorem dd_X4_restore : yX4_restore.cls = RX4 ∧ yX4_restore.cls ≠ "java/lang/invoke/MethodHandle" ∧ yX4_restore.cls ≠ "java/lang/invoke/VarHandle" ∧ (parseMethodDescriptor yX4_restore.desc).map (fun d => d.parameters.length) = some 1 := by decide +kernel
abbrev rm_X4_restore : Room := ({ frames := 7, cells := 25, slots := 1359, locals := 124 } : Room)
noncomputable def f_X4_restore (this : Nat) (a1 : Int32) (M : Mem) : Option ((Int32 ⊕ Nat) × Mem) :=
  bx (cK 5 this M (f_X4_requireSlot this a1 M)) (fun ex M => some ((.inr ex, M))) fun v1 M2 =>
  (gRn 5 137 this M2).bind fun v3 =>
  (gB 11 v3 a1 M2).bind fun v4 =>
  (match v4 with
  | none =>
  some (.inr 2, M2)
  | some v5 =>
  (gRn 5 136 this M2).bind fun v6 =>
  (gRn 5 134 this M2).bind fun v7 =>
  (cK 1 v6 M2 (f_X0_record v6 v7 M2)).bind fun M9 =>
  (gRn 5 134 this M9).bind fun v10 =>
  (cK 4 v10 M9 (f_X3_copyFrom v10 v5 M9)).bind fun M12 =>
  (gRn 5 134 this M12).bind fun v13 =>
  (gI 4 99 v13 M12).bind fun v14 =>
  some (.inl v14, M12))
set_option maxHeartbeats 4000000 in
set_option maxRecDepth 100000 in
theorem mt_X4_restore (l : Launch) (hfl : l.stackTraces = false) (E : KEnv) (this : Nat) (a1 : Int32) (M M' : Mem) (r : Int32 ⊕ Nat) (h : f_X4_restore this a1 M = some (r, M')) : vx_Met l yX4_restore (Cond.code yX4_restore cX4_restore 3 (some .int) :: lw_G) rm_X4_restore (cPc E [.ref this, .int a1] M) (cQx E (vI r) M') (cXx E (vI r) M') 25 1359 (eA E) := by
  refine vx_ofW (cc := cX4_restore) (maxL := 3) (ret := (some .int)) (by decide) rfl ?_
  intro p e s m args below meth c s₁ B hml hout hv
  obtain ⟨rfl, hE, hM⟩ := hv
  have hx := B.exec
  have hb := B.bytes
  have hr := B.returns
  have hts0 := atoms_spec (ws := Cond.code yX4_restore cX4_restore 3 (some .int) :: lw_G) B.pre
  have hts : ∀ w ∈ lw_G, w.before _ s = true := fun w hw => hts0 w (List.mem_cons_of_mem _ hw)
  have hown : s.vm.findClass RX4 = some m.cls := findClass_of_methodNamed B.named
  have hlocks := B.notSynchronized
  have hC : CallFix p m c cX4_restore 3 s _ lw_G RX4 := ⟨hx, hb, hml, hown, hts⟩
  have hS : va_S (eA E) s.heap s.heap [] := va_S.rf
  have hl := lv_entry ([.ref this, .int a1]) (n := 3) (Nat.le_of_ble_eq_true rfl)
  rw [lg_entry_eq]
  generalize (lg_sl ([.ref this, .int a1]) ++ List.replicate (3 - (lg_sl ([.ref this, .int a1])).length) Slot.unset).toArray = ls at hl ⊢
  have hl : lv_has ls 3 [(0, .ref this), (1, .int a1)] := hl
  unfold f_X4_restore at h
  show W p l e rm_X4_restore s m _ below meth c s.heap [] 0 0 _ _
  refine lv_aload_n hx hb dX4_restore_0 rfl (lv_at hl 0 rfl) ?_
  refine lv_iload_n hx hb dX4_restore_1 rfl (lv_at hl 1 rfl) ?_
  rcases obx h with ⟨v1, M2, h1, h⟩ | ⟨ex, M9, h1, h⟩
  rotate_left
  · obtain ⟨hk1, h1⟩ := ifg h1
    cases h
    exact kx_out (kx_V (ci := 4) (As := [.int a1]) (rest := []) hC hE hS hM (mt_X4_requireSlot _ hfl E this a1 _ _ _ h1) (gwV qw_439 qw_441 qw_20 qw_39 qw_442) ⟨rfl, rfl, (Nat.le_of_ble_eq_true rfl), (Nat.le_of_ble_eq_true rfl)⟩ dd_X4_requireSlot rfl hk1 rfl rfl hl.1 (Nat.le_of_ble_eq_true rfl) dX4_restore_2 ⟨(Nat.le_of_ble_eq_true rfl), (Nat.le_of_ble_eq_true rfl)⟩) hS hout hlocks (Nat.le_of_ble_eq_true rfl) (Nat.le_of_ble_eq_true rfl)
  obtain ⟨hk1, h1⟩ := ifg h1
  refine kx_ok0 (kx_V (ci := 4) (As := [.int a1]) (rest := []) hC hE hS hM (mt_X4_requireSlot _ hfl E this a1 _ _ _ h1) (gwV qw_439 qw_441 qw_20 qw_39 qw_442) ⟨rfl, rfl, (Nat.le_of_ble_eq_true rfl), (Nat.le_of_ble_eq_true rfl)⟩ dd_X4_requireSlot rfl hk1 rfl rfl hl.1 (Nat.le_of_ble_eq_true rfl) dX4_restore_2 ⟨(Nat.le_of_ble_eq_true rfl), (Nat.le_of_ble_eq_true rfl)⟩) hS (fun H locs hM hS => ?_)
  refine lv_aload_n hx hb dX4_restore_5 rfl (lv_at hl 0 rfl) ?_
  obtain ⟨v3, h1, h⟩ := ob h
  refine rgn_4_9 hx hb hts hown hE hM qw_407 h1 dX4_restore_6 ?_
  refine lv_iload_n hx hb dX4_restore_9 rfl (lv_at hl 1 rfl) ?_
  obtain ⟨v4, h1, h⟩ := ob h
  refine r_aldW hx hb hE hM h1 dX4_restore_10 ?_
  cases v4 with
  | none =>
    refine lv_astore_nN (lv' := [(2, .null), (0, .ref this), (1, .int a1)]) hx hb dX4_restore_11 rfl hl (by decide) rfl (fun ls hl => ?_)
    refine lv_aload_nN hx hb dX4_restore_12 rfl (lv_at hl 0 rfl) ?_
    refine lv_ifnonnullN hx hb dX4_restore_13 ?_
    cases h
    exact xThrW (i := 31) hfl hx hb hown hts hE hM hS (by decide) qw_510 qw_59 st_31 (ex_at hts hE ex_g2 ex_b2 (by decide)) (by decide +kernel) (hl.1.trans hml.symm) dX4_restore_16 dX4_restore_19 dX4_restore_20 dX4_restore_23 dX4_restore_26 hout (Nat.le_of_ble_eq_true rfl) (Nat.le_of_ble_eq_true rfl) (Nat.le_of_ble_eq_true rfl) (Nat.le_of_ble_eq_true rfl) hlocks (Nat.le_of_ble_eq_true rfl) (Nat.le_of_ble_eq_true rfl)
  | some v5 =>
    refine lv_astore_n (lv' := [(2, .ref v5), (0, .ref this), (1, .int a1)]) hx hb dX4_restore_11 rfl hl (by decide) rfl (fun ls hl => ?_)
    refine lv_aload_n hx hb dX4_restore_12 rfl (lv_at hl 0 rfl) ?_
    refine lv_ifnonnull (tgt := 27) hx hb dX4_restore_13 (by decide) ?_
    refine lv_aload_n hx hb dX4_restore_27 rfl (lv_at hl 1 rfl) ?_
    obtain ⟨v6, h1, h⟩ := ob h
    refine rgn_4_8 hx hb hts hown hE hM qw_406 h1 dX4_restore_28 ?_
    refine lv_aload_n hx hb dX4_restore_31 rfl (lv_at hl 1 rfl) ?_
    obtain ⟨v7, h1, h⟩ := ob h
    refine rgn_4_6 hx hb hts hown hE hM qw_404 h1 dX4_restore_32 ?_
    obtain ⟨M9, h1, h⟩ := ob h
    obtain ⟨hk1, h1⟩ := ifg h1
    refine kV0 (ci := 0) (As := [.ref v7]) (rest := []) hC hE hS hM (mt_X0_record _ E v6 v7 _ _ h1) (gwV qw_526 qw_527 qw_528 qw_42 qw_529) ⟨rfl, rfl, (Nat.le_of_ble_eq_true rfl), (Nat.le_of_ble_eq_true rfl)⟩ dd_X0_record rfl hk1 rfl rfl hl.1 (Nat.le_of_ble_eq_true rfl) dX4_restore_35 ⟨(Nat.le_of_ble_eq_true rfl), (Nat.le_of_ble_eq_true rfl)⟩ (fun H locs hM hS => ?_)
    refine lv_aload_n hx hb dX4_restore_38 rfl (lv_at hl 1 rfl) ?_
    obtain ⟨v10, h1, h⟩ := ob h
    refine rgn_4_6 hx hb hts hown hE hM qw_404 h1 dX4_restore_39 ?_
    refine lv_aload_n hx hb dX4_restore_42 rfl (lv_at hl 0 rfl) ?_
    obtain ⟨M12, h1, h⟩ := ob h
    obtain ⟨hk1, h1⟩ := ifg h1
    refine kV0 (ci := 3) (As := [.ref v5]) (rest := []) hC hE hS hM (mt_X3_copyFrom _ E v10 v5 _ _ h1) (gwV qw_542 qw_536 qw_537 qw_40 qw_538) ⟨rfl, rfl, (Nat.le_of_ble_eq_true rfl), (Nat.le_of_ble_eq_true rfl)⟩ dd_X3_copyFrom rfl hk1 rfl rfl hl.1 (Nat.le_of_ble_eq_true rfl) dX4_restore_43 ⟨(Nat.le_of_ble_eq_true rfl), (Nat.le_of_ble_eq_true rfl)⟩ (fun H locs hM hS => ?_)
    refine lv_aload_n hx hb dX4_restore_46 rfl (lv_at hl 1 rfl) ?_
    obtain ⟨v13, h1, h⟩ := ob h
    refine rgn_4_6 hx hb hts hown hE hM qw_404 h1 dX4_restore_47 ?_
    obtain ⟨v14, h1, h⟩ := ob h
    refine rg_3_3 hx hb hts hown hE hM qw_99 h1 dX4_restore_50 ?_
    cases h
    exact xRet (eI hx hb hr hlocks hM hS dX4_restore_53 (Nat.le_of_ble_eq_true rfl) (Nat.le_of_ble_eq_true rfl))

theorem dd_X4_undo : yX4_undo.cls = RX4 ∧ yX4_undo.cls ≠ "java/lang/invoke/MethodHandle" ∧ yX4_undo.cls ≠ "java/lang/invoke/VarHandle" ∧ (parseMethodDescriptor yX4_undo.desc).map (fun d => d.parameters.length) = some 0 := by decide +kernel
abbrev rm_X4_undo : Room := ({ frames := 6, cells := 24, slots := 1353, locals := 108 } : Room)
noncomputable def f_X4_undo (this : Nat) (M : Mem) : Option ((Int32 ⊕ Nat) × Mem) :=
  (gRn 5 136 this M).bind fun v1 =>
  (gI 1 2 v1 M).bind fun v2 =>
  (if v2 = 0 then
  some (.inr 2, M)
  else
  (gRn 5 136 this M).bind fun v3 =>
  (gRn 5 134 this M).bind fun v4 =>
  bn (cK 1 v3 M (f_X0_exchange v3 v4 M)) fun v5 M6 =>
  (sR 5 134 this (some v5) M6).bind fun M7 =>
  (gRn 5 136 this M7).bind fun v8 =>
  (gI 1 2 v8 M7).bind fun v9 =>
  some (.inl v9, M7))
set_option maxHeartbeats 4000000 in
set_option maxRecDepth 100000 in
theorem mt_X4_undo (l : Launch) (hfl : l.stackTraces = false) (E : KEnv) (this : Nat) (M M' : Mem) (r : Int32 ⊕ Nat) (h : f_X4_undo this M = some (r, M')) : vx_Met l yX4_undo (Cond.code yX4_undo cX4_undo 1 (some .int) :: lw_G) rm_X4_undo (cPc E [.ref this] M) (cQx E (vI r) M') (cXx E (vI r) M') 24 1353 (eA E) := by
  refine vx_ofW (cc := cX4_undo) (maxL := 1) (ret := (some .int)) (by decide) rfl ?_
  intro p e s m args below meth c s₁ B hml hout hv
  obtain ⟨rfl, hE, hM⟩ := hv
  have hx := B.exec
  have hb := B.bytes
  have hr := B.returns
  have hts0 := atoms_spec (ws := Cond.code yX4_undo cX4_undo 1 (some .int) :: lw_G) B.pre
  have hts : ∀ w ∈ lw_G, w.before _ s = true := fun w hw => hts0 w (List.mem_cons_of_mem _ hw)
  have hown : s.vm.findClass RX4 = some m.cls := findClass_of_methodNamed B.named
  have hlocks := B.notSynchronized
  have hC : CallFix p m c cX4_undo 1 s _ lw_G RX4 := ⟨hx, hb, hml, hown, hts⟩
  have hS : va_S (eA E) s.heap s.heap [] := va_S.rf
  have hl := lv_entry ([.ref this]) (n := 1) (Nat.le_of_ble_eq_true rfl)
  rw [lg_entry_eq]
  generalize (lg_sl ([.ref this]) ++ List.replicate (1 - (lg_sl ([.ref this])).length) Slot.unset).toArray = ls at hl ⊢
  have hl : lv_has ls 1 [(0, .ref this)] := hl
  unfold f_X4_undo at h
  show W p l e rm_X4_undo s m _ below meth c s.heap [] 0 0 _ _
  refine lv_aload_n hx hb dX4_undo_0 rfl (lv_at hl 0 rfl) ?_
  obtain ⟨v1, h1, h⟩ := ob h
  refine rgn_4_8 hx hb hts hown hE hM qw_406 h1 dX4_undo_1 ?_
  obtain ⟨v2, h1, h⟩ := ob h
  refine rg_0_2 hx hb hts hown hE hM qw_134 h1 dX4_undo_4 ?_
  refine lv_if_ne (tgt := 21) hx hb dX4_undo_7 (by decide) (fun c1 => ?_) (fun c1 => ?_)
  · have h := ifn c1 h
    refine lv_aload_n hx hb dX4_undo_21 rfl (lv_at hl 0 rfl) ?_
    refine lv_aload_n hx hb dX4_undo_22 rfl (lv_at hl 0 rfl) ?_
    obtain ⟨v3, h1, h⟩ := ob h
    refine rgn_4_8 hx hb hts hown hE hM qw_406 h1 dX4_undo_23 ?_
    refine lv_aload_n hx hb dX4_undo_26 rfl (lv_at hl 0 rfl) ?_
    obtain ⟨v4, h1, h⟩ := ob h
    refine rgn_4_6 hx hb hts hown hE hM qw_404 h1 dX4_undo_27 ?_
    obtain ⟨v5, M6, h1, h⟩ := ob2 h
    obtain ⟨hk1, h1⟩ := ifg h1
    refine kV1 (ci := 0) (As := [.ref v4]) (rest := [.ref this]) hC hE hS hM (mt_X0_exchange _ E v3 v4 _ _ _ h1) (gwV qw_604 qw_605 qw_606 qw_42 qw_607) ⟨rfl, rfl, (Nat.le_of_ble_eq_true rfl), (Nat.le_of_ble_eq_true rfl)⟩ dd_X0_exchange rfl hk1 rfl rfl hl.1 (Nat.le_of_ble_eq_true rfl) dX4_undo_30 ⟨(Nat.le_of_ble_eq_true rfl), (Nat.le_of_ble_eq_true rfl)⟩ (fun H locs hM hS => ?_)
    obtain ⟨M7, h1, h⟩ := ob h
    refine rp_4_6 hx hb hts hown hE hM qw_404 hS h1 dX4_undo_33 (fun H locs hM hS => ?_)
    refine lv_aload_n hx hb dX4_undo_36 rfl (lv_at hl 0 rfl) ?_
    obtain ⟨v8, h1, h⟩ := ob h
    refine rgn_4_8 hx hb hts hown hE hM qw_406 h1 dX4_undo_37 ?_
    obtain ⟨v9, h1, h⟩ := ob h
    refine rg_0_2 hx hb hts hown hE hM qw_134 h1 dX4_undo_40 ?_
    cases h
    exact xRet (eI hx hb hr hlocks hM hS dX4_undo_43 (Nat.le_of_ble_eq_true rfl) (Nat.le_of_ble_eq_true rfl))
  · have h := ifp c1 h
    cases h
    exact xThrW (i := 32) hfl hx hb hown hts hE hM hS (by decide) qw_510 qw_59 st_32 (ex_at hts hE ex_g2 ex_b2 (by decide)) (by decide +kernel) (hl.1.trans hml.symm) dX4_undo_10 dX4_undo_13 dX4_undo_14 dX4_undo_17 dX4_undo_20 hout (Nat.le_of_ble_eq_true rfl) (Nat.le_of_ble_eq_true rfl) (Nat.le_of_ble_eq_true rfl) (Nat.le_of_ble_eq_true rfl) hlocks (Nat.le_of_ble_eq_true rfl) (Nat.le_of_ble_eq_true rfl)

theorem dd_X4_save : yX4_save.cls = RX4 ∧ yX4_save.cls ≠ "java/lang/invoke/MethodHandle" ∧ yX4_save.cls ≠ "java/lang/invoke/VarHandle" ∧ (parseMethodDescriptor yX4_save.desc).map (fun d => d.parameters.length) = some 1 := by decide +kernel
abbrev rm_X4_save : Room := ({ frames := 7, cells := 25, slots := 1359, locals := 111 } : Room)
noncomputable def fj_X4_save_31 (x0 : Nat) (x2 : Nat) (M : Mem) : Option ((Int32 ⊕ Nat) × Mem) :=
  (gRn 5 134 x0 M).bind fun v12 =>
  (cK 4 x2 M (f_X3_copyFrom x2 v12 M)).bind fun M14 =>
  (gI 4 99 x2 M14).bind fun v15 =>
  some (.inl v15, M14)
set_option maxHeartbeats 4000000 in
set_option maxRecDepth 100000 in
theorem tj_X4_save_31 {p : Program} {l : Launch} {e : Env} {s : State} {m : MethodId} {args : Array Value} {below : List Frame} {meth : Method} {c : Code} {E : KEnv} {H : Heap} {locs : List Loc} {ls : Array Slot} {x0 : Nat} {x2 : Nat} {M : Mem} {r : Int32 ⊕ Nat} {M' : Mem} (hfl : l.stackTraces = false) (hout : ∀ x ∈ c.exceptionTable.toList, False) (hC : CallFix p m c cX4_save 3 s args lw_G RX4) (hr : meth.sig.returnType = (some .int)) (hlocks : meth.locks = false) (hE : EnvOK E s) (h : fj_X4_save_31 x0 x2 M = some (r, M')) (hM : MOK E M H) (hS : va_S (eA E) s.heap H locs) (hl : lv_has ls 3 [(0, .ref x0), (2, .ref x2)]) : W p l e rm_X4_save s m args below meth c H locs 25 1359 (vx_MQ below (cQx E (vI r) M') (cXx E (vI r) M') args s 25 1359 (eA E)) (F0 m 31 ls []) := by
  obtain ⟨hx, hb, hml, hown, hts⟩ := id hC
  unfold fj_X4_save_31 at h
  refine lv_aload_n hx hb dX4_save_31 rfl (lv_at hl 1 rfl) ?_
  refine lv_aload_n hx hb dX4_save_32 rfl (lv_at hl 0 rfl) ?_
  obtain ⟨v12, h1, h⟩ := ob h
  refine rgn_4_6 hx hb hts hown hE hM qw_404 h1 dX4_save_33 ?_
  obtain ⟨M14, h1, h⟩ := ob h
  obtain ⟨hk1, h1⟩ := ifg h1
  refine kV0 (ci := 3) (As := [.ref v12]) (rest := []) hC hE hS hM (mt_X3_copyFrom _ E x2 v12 _ _ h1) (gwV qw_542 qw_536 qw_537 qw_40 qw_538) ⟨rfl, rfl, (Nat.le_of_ble_eq_true rfl), (Nat.le_of_ble_eq_true rfl)⟩ dd_X3_copyFrom rfl hk1 rfl rfl hl.1 (Nat.le_of_ble_eq_true rfl) dX4_save_36 ⟨(Nat.le_of_ble_eq_true rfl), (Nat.le_of_ble_eq_true rfl)⟩ (fun H locs hM hS => ?_)
  refine lv_aload_n hx hb dX4_save_39 rfl (lv_at hl 1 rfl) ?_
  obtain ⟨v15, h1, h⟩ := ob h
  refine rg_3_3 hx hb hts hown hE hM qw_99 h1 dX4_save_40 ?_
  cases h
  exact xRet (eI hx hb hr hlocks hM hS dX4_save_43 (Nat.le_of_ble_eq_true rfl) (Nat.le_of_ble_eq_true rfl))
noncomputable def f_X4_save (this : Nat) (a1 : Int32) (M : Mem) : Option ((Int32 ⊕ Nat) × Mem) :=
  bx (cK 5 this M (f_X4_requireSlot this a1 M)) (fun ex M => some ((.inr ex, M))) fun v1 M2 =>
  (gRn 5 137 this M2).bind fun v3 =>
  (gB 11 v3 a1 M2).bind fun v4 =>
  (match v4 with
  | none =>
  bnew 4 M2 fun v6 M7 =>
  (f_X3_init v6 M7).bind fun M9 =>
  (gRn 5 137 this M9).bind fun v10 =>
  (sBn 11 4 v10 a1 v6 M9).bind fun M11 =>
  fj_X4_save_31 this v6 M11
  | some v5 =>
  fj_X4_save_31 this v5 M2)
set_option maxHeartbeats 4000000 in
set_option maxRecDepth 100000 in
theorem mt_X4_save (l : Launch) (hfl : l.stackTraces = false) (E : KEnv) (this : Nat) (a1 : Int32) (M M' : Mem) (r : Int32 ⊕ Nat) (h : f_X4_save this a1 M = some (r, M')) : vx_Met l yX4_save (Cond.code yX4_save cX4_save 3 (some .int) :: lw_G) rm_X4_save (cPc E [.ref this, .int a1] M) (cQx E (vI r) M') (cXx E (vI r) M') 25 1359 (eA E) := by
  refine vx_ofW (cc := cX4_save) (maxL := 3) (ret := (some .int)) (by decide) rfl ?_
  intro p e s m args below meth c s₁ B hml hout hv
  obtain ⟨rfl, hE, hM⟩ := hv
  have hx := B.exec
  have hb := B.bytes
  have hr := B.returns
  have hts0 := atoms_spec (ws := Cond.code yX4_save cX4_save 3 (some .int) :: lw_G) B.pre
  have hts : ∀ w ∈ lw_G, w.before _ s = true := fun w hw => hts0 w (List.mem_cons_of_mem _ hw)
  have hown : s.vm.findClass RX4 = some m.cls := findClass_of_methodNamed B.named
  have hlocks := B.notSynchronized
  have hC : CallFix p m c cX4_save 3 s _ lw_G RX4 := ⟨hx, hb, hml, hown, hts⟩
  have hS : va_S (eA E) s.heap s.heap [] := va_S.rf
  have hl := lv_entry ([.ref this, .int a1]) (n := 3) (Nat.le_of_ble_eq_true rfl)
  rw [lg_entry_eq]
  generalize (lg_sl ([.ref this, .int a1]) ++ List.replicate (3 - (lg_sl ([.ref this, .int a1])).length) Slot.unset).toArray = ls at hl ⊢
  have hl : lv_has ls 3 [(0, .ref this), (1, .int a1)] := hl
  unfold f_X4_save at h
  show W p l e rm_X4_save s m _ below meth c s.heap [] 0 0 _ _
  refine lv_aload_n hx hb dX4_save_0 rfl (lv_at hl 0 rfl) ?_
  refine lv_iload_n hx hb dX4_save_1 rfl (lv_at hl 1 rfl) ?_
  rcases obx h with ⟨v1, M2, h1, h⟩ | ⟨ex, M9, h1, h⟩
  rotate_left
  · obtain ⟨hk1, h1⟩ := ifg h1
    cases h
    exact kx_out (kx_V (ci := 4) (As := [.int a1]) (rest := []) hC hE hS hM (mt_X4_requireSlot _ hfl E this a1 _ _ _ h1) (gwV qw_439 qw_441 qw_20 qw_39 qw_442) ⟨rfl, rfl, (Nat.le_of_ble_eq_true rfl), (Nat.le_of_ble_eq_true rfl)⟩ dd_X4_requireSlot rfl hk1 rfl rfl hl.1 (Nat.le_of_ble_eq_true rfl) dX4_save_2 ⟨(Nat.le_of_ble_eq_true rfl), (Nat.le_of_ble_eq_true rfl)⟩) hS hout hlocks (Nat.le_of_ble_eq_true rfl) (Nat.le_of_ble_eq_true rfl)
  obtain ⟨hk1, h1⟩ := ifg h1
  refine kx_ok0 (kx_V (ci := 4) (As := [.int a1]) (rest := []) hC hE hS hM (mt_X4_requireSlot _ hfl E this a1 _ _ _ h1) (gwV qw_439 qw_441 qw_20 qw_39 qw_442) ⟨rfl, rfl, (Nat.le_of_ble_eq_true rfl), (Nat.le_of_ble_eq_true rfl)⟩ dd_X4_requireSlot rfl hk1 rfl rfl hl.1 (Nat.le_of_ble_eq_true rfl) dX4_save_2 ⟨(Nat.le_of_ble_eq_true rfl), (Nat.le_of_ble_eq_true rfl)⟩) hS (fun H locs hM hS => ?_)
  refine lv_aload_n hx hb dX4_save_5 rfl (lv_at hl 0 rfl) ?_
  obtain ⟨v3, h1, h⟩ := ob h
  refine rgn_4_9 hx hb hts hown hE hM qw_407 h1 dX4_save_6 ?_
  refine lv_iload_n hx hb dX4_save_9 rfl (lv_at hl 1 rfl) ?_
  obtain ⟨v4, h1, h⟩ := ob h
  refine r_aldW hx hb hE hM h1 dX4_save_10 ?_
  cases v4 with
  | none =>
    refine lv_astore_nN (lv' := [(2, .null), (0, .ref this), (1, .int a1)]) hx hb dX4_save_11 rfl hl (by decide) rfl (fun ls hl => ?_)
    refine lv_aload_nN hx hb dX4_save_12 rfl (lv_at hl 0 rfl) ?_
    refine lv_ifnonnullN hx hb dX4_save_13 ?_
    obtain ⟨v6, M7, eq, eM, h⟩ := obnew h
    refine rn_3 hx hb hts hown hE hM hS qw_69 qw_70 qw_40 eq eM (Nat.le_of_ble_eq_true rfl) (Nat.le_of_ble_eq_true rfl) dX4_save_16 (fun H hM hS => ?_)
    refine lv_dup hx hb dX4_save_19 rfl ?_
    obtain ⟨M9, h1, h⟩ := ob h
    refine kI (As := []) (rest := [.ref v6]) hC hE hS hM (mt_X3_init _ E v6 _ _ h1) qw_73 qw_71 qw_72 qw_40 ⟨rfl, rfl, (Nat.le_of_ble_eq_true rfl), (Nat.le_of_ble_eq_true rfl)⟩ dd_X3_init.2 rfl rfl rfl hl.1 (Nat.le_of_ble_eq_true rfl) dX4_save_20 ⟨(Nat.le_of_ble_eq_true rfl), (Nat.le_of_ble_eq_true rfl)⟩ (fun H locs hM hS => ?_)
    refine lv_astore_n (lv' := [(2, .ref v6), (0, .ref this), (1, .int a1)]) hx hb dX4_save_23 rfl hl (by decide) rfl (fun ls hl => ?_)
    refine lv_aload_n hx hb dX4_save_24 rfl (lv_at hl 1 rfl) ?_
    obtain ⟨v10, h1, h⟩ := ob h
    refine rgn_4_9 hx hb hts hown hE hM qw_407 h1 dX4_save_25 ?_
    refine lv_iload_n hx hb dX4_save_28 rfl (lv_at hl 2 rfl) ?_
    refine lv_aload_n hx hb dX4_save_29 rfl (lv_at hl 0 rfl) ?_
    obtain ⟨M11, h1, h⟩ := ob h
    refine r_astW hx hb hE hM hS h1 dX4_save_30 (fun H locs hM hS => ?_)
    refine W.widen (k := 25) (n := 1359) (Nat.le_of_ble_eq_true rfl) (Nat.le_of_ble_eq_true rfl) ?_
    exact tj_X4_save_31 hfl hout  hC hr hlocks hE  h hM hS (lv_sub hl [1, 0] rfl)
  | some v5 =>
    refine lv_astore_n (lv' := [(2, .ref v5), (0, .ref this), (1, .int a1)]) hx hb dX4_save_11 rfl hl (by decide) rfl (fun ls hl => ?_)
    refine lv_aload_n hx hb dX4_save_12 rfl (lv_at hl 0 rfl) ?_
    refine lv_ifnonnull (tgt := 31) hx hb dX4_save_13 (by decide) ?_
    refine W.widen (k := 25) (n := 1359) (Nat.le_of_ble_eq_true rfl) (Nat.le_of_ble_eq_true rfl) ?_
    exact tj_X4_save_31 hfl hout  hC hr hlocks hE  h hM hS (lv_sub hl [1, 0] rfl)
