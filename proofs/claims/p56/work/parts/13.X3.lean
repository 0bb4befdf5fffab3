/-! printed by wip/p56/gen2.py: methods as functions over the memory, and that the code does what they say -/
theorem dd_X3_init : yX3_init.cls = RX3 ∧ yX3_init.cls ≠ "java/lang/invoke/MethodHandle" ∧ yX3_init.cls ≠ "java/lang/invoke/VarHandle" ∧ (parseMethodDescriptor yX3_init.desc).map (fun d => d.parameters.length) = some 0 := by decide +kernel
abbrev rm_X3_init : Room := ({ frames := 2, cells := 23, slots := 1346, locals := 44 } : Room)
noncomputable def f_X3_init (this : Nat) (M : Mem) : Option Mem :=
  (sI 4 96 this 1 M).bind fun M1 =>
  (sI 4 97 this 0 M1).bind fun M2 =>
  (sI 4 98 this 0 M2).bind fun M3 =>
  (sI 4 99 this 0 M3).bind fun M4 =>
  bnewa 10 4 M4 fun v5 M6 =>
  (sR 4 100 this (some v5) M6).bind fun M7 =>
  bnewa 10 6 M7 fun v8 M9 =>
  (sR 4 101 this (some v8) M9).bind fun M10 =>
  bnewa 9 6 M10 fun v11 M12 =>
  (sR 4 102 this (some v11) M12).bind fun M13 =>
  (gRn 4 100 this M13).bind fun v14 =>
  bnew 3 M13 fun v15 M16 =>
  (f_X2_init v15 M16).bind fun M18 =>
  (sBn 10 3 v14 0 v15 M18).bind fun M19 =>
  (gRn 4 100 this M19).bind fun v20 =>
  bnew 3 M19 fun v21 M22 =>
  (f_X2_init v21 M22).bind fun M24 =>
  (sBn 10 3 v20 1 v21 M24).bind fun M25 =>
  (gRn 4 100 this M25).bind fun v26 =>
  bnew 3 M25 fun v27 M28 =>
  (f_X2_init v27 M28).bind fun M30 =>
  (sBn 10 3 v26 2 v27 M30).bind fun M31 =>
  (gRn 4 100 this M31).bind fun v32 =>
  bnew 3 M31 fun v33 M34 =>
  (f_X2_init v33 M34).bind fun M36 =>
  (sBn 10 3 v32 3 v33 M36).bind fun M37 =>
  (gRn 4 101 this M37).bind fun v38 =>
  bnew 3 M37 fun v39 M40 =>
  (f_X2_init v39 M40).bind fun M42 =>
  (sBn 10 3 v38 0 v39 M42).bind fun M43 =>
  (gRn 4 101 this M43).bind fun v44 =>
  bnew 3 M43 fun v45 M46 =>
  (f_X2_init v45 M46).bind fun M48 =>
  (sBn 10 3 v44 1 v45 M48).bind fun M49 =>
  (gRn 4 101 this M49).bind fun v50 =>
  bnew 3 M49 fun v51 M52 =>
  (f_X2_init v51 M52).bind fun M54 =>
  (sBn 10 3 v50 2 v51 M54).bind fun M55 =>
  (gRn 4 101 this M55).bind fun v56 =>
  bnew 3 M55 fun v57 M58 =>
  (f_X2_init v57 M58).bind fun M60 =>
  (sBn 10 3 v56 3 v57 M60).bind fun M61 =>
  (gRn 4 101 this M61).bind fun v62 =>
  bnew 3 M61 fun v63 M64 =>
  (f_X2_init v63 M64).bind fun M66 =>
  (sBn 10 3 v62 4 v63 M66).bind fun M67 =>
  (gRn 4 101 this M67).bind fun v68 =>
  bnew 3 M67 fun v69 M70 =>
  (f_X2_init v69 M70).bind fun M72 =>
  (sBn 10 3 v68 5 v69 M72).bind fun M73 =>
  some M73
set_option maxHeartbeats 4000000 in
set_option maxRecDepth 100000 in
theorem mt_X3_init (l : Launch) (E : KEnv) (this : Nat) (M M' : Mem) (h : f_X3_init this M = some M') : Met l yX3_init (Cond.code yX3_init cX3_init 2 none :: lw_G) rm_X3_init (cPc E [.ref this] M) (cQ E none M') 23 1346 (eA E) := by
  refine Met.ofW (cc := cX3_init) (maxL := 2) (ret := none) (by decide) rfl ?_
  intro p e s m args below meth c s₁ B hml hv
  obtain ⟨rfl, hE, hM⟩ := hv
  have hx := B.exec
  have hb := B.bytes
  have hr := B.returns
  have hts0 := atoms_spec (ws := Cond.code yX3_init cX3_init 2 none :: lw_G) B.pre
  have hts : ∀ w ∈ lw_G, w.before _ s = true := fun w hw => hts0 w (List.mem_cons_of_mem _ hw)
  have hown : s.vm.findClass RX3 = some m.cls := findClass_of_methodNamed B.named
  have hlocks := B.notSynchronized
  have hin : meth.name = "<init>" := (name_of_methodNamed B.named B.method).1
  have hC : CallFix p m c cX3_init 2 s _ lw_G RX3 := ⟨hx, hb, hml, hown, hts⟩
  have hS : va_S (eA E) s.heap s.heap [] := va_S.rf
  have hl := lv_entry ([.ref this]) (n := 2) (Nat.le_of_ble_eq_true rfl)
  rw [lg_entry_eq]
  generalize (lg_sl ([.ref this]) ++ List.replicate (2 - (lg_sl ([.ref this])).length) Slot.unset).toArray = ls at hl ⊢
  have hl : lv_has ls 2 [(0, .ref this)] := hl
  unfold f_X3_init at h
  show W p l e rm_X3_init s m _ below meth c s.heap [] 0 0 _ _
  refine lv_aload_n hx hb dX3_init_0 rfl (lv_at hl 0 rfl) ?_
  refine oInit hx hb hown (hts _ qw_74) (hts _ qw_67) (hts _ qw_68) (hl.1.trans hml.symm) dX3_init_1 (Nat.le_of_ble_eq_true rfl) (Nat.le_of_ble_eq_true rfl) ?_
  refine lv_aload_n hx hb dX3_init_4 rfl (lv_at hl 0 rfl) ?_
  refine lv_iconst (v := 1) hx hb dX3_init_5 (by decide) ?_
  obtain ⟨M1, h1, h⟩ := ob h
  refine rp_3_0 hx hb hts hown hE hM qw_88 hS h1 dX3_init_6 (fun H locs hM hS => ?_)
  refine lv_aload_n hx hb dX3_init_9 rfl (lv_at hl 0 rfl) ?_
  refine lv_iconst (v := 0) hx hb dX3_init_10 (by decide) ?_
  obtain ⟨M2, h1, h⟩ := ob h
  refine rp_3_1 hx hb hts hown hE hM qw_91 hS h1 dX3_init_11 (fun H locs hM hS => ?_)
  refine lv_aload_n hx hb dX3_init_14 rfl (lv_at hl 0 rfl) ?_
  refine lv_iconst (v := 0) hx hb dX3_init_15 (by decide) ?_
  obtain ⟨M3, h1, h⟩ := ob h
  refine rp_3_2 hx hb hts hown hE hM qw_94 hS h1 dX3_init_16 (fun H locs hM hS => ?_)
  refine lv_aload_n hx hb dX3_init_19 rfl (lv_at hl 0 rfl) ?_
  refine lv_iconst (v := 0) hx hb dX3_init_20 (by decide) ?_
  obtain ⟨M4, h1, h⟩ := ob h
  refine rp_3_3 hx hb hts hown hE hM qw_97 hS h1 dX3_init_21 (fun H locs hM hS => ?_)
  refine lv_aload_n hx hb dX3_init_24 rfl (lv_at hl 0 rfl) ?_
  refine lv_iconst (v := 4) hx hb dX3_init_25 (by decide) ?_
  obtain ⟨v5, M6, eq, eM, h⟩ := obnewa h
  refine rna_S (N' := 4) hx hb hts hown qw_75 hE hM hS (by decide) (by decide) (Nat.le_of_ble_eq_true rfl) (Nat.le_of_ble_eq_true rfl) (Nat.le_of_ble_eq_true rfl) eq eM dX3_init_26 (fun H hM hS => ?_)
  obtain ⟨M7, h1, h⟩ := ob h
  refine rp_3_4 hx hb hts hown hE hM qw_100 hin rfl hS h1 dX3_init_29 (fun H locs hM hS => ?_)
  refine lv_aload_n hx hb dX3_init_32 rfl (lv_at hl 0 rfl) ?_
  refine lv_bipush (v := 6) hx hb dX3_init_33 (by decide) ?_
  obtain ⟨v8, M9, eq, eM, h⟩ := obnewa h
  refine rna_S (N' := 6) hx hb hts hown qw_75 hE hM hS (by decide) (by decide) (Nat.le_of_ble_eq_true rfl) (Nat.le_of_ble_eq_true rfl) (Nat.le_of_ble_eq_true rfl) eq eM dX3_init_35 (fun H hM hS => ?_)
  obtain ⟨M10, h1, h⟩ := ob h
  refine rp_3_5 hx hb hts hown hE hM qw_103 hin rfl hS h1 dX3_init_38 (fun H locs hM hS => ?_)
  refine lv_aload_n hx hb dX3_init_41 rfl (lv_at hl 0 rfl) ?_
  refine lv_bipush (v := 6) hx hb dX3_init_42 (by decide) ?_
  obtain ⟨v11, M12, eq, eM, h⟩ := obnewa h
  refine rna_int (N' := 6) hx hb hts qw_87 hE hM hS (by decide) (by decide) (Nat.le_of_ble_eq_true rfl) (Nat.le_of_ble_eq_true rfl) (Nat.le_of_ble_eq_true rfl) eq eM dX3_init_44 (fun H hM hS => ?_)
  obtain ⟨M13, h1, h⟩ := ob h
  refine rp_3_6 hx hb hts hown hE hM qw_106 hin rfl hS h1 dX3_init_46 (fun H locs hM hS => ?_)
  refine lv_iconst (v := 0) hx hb dX3_init_49 (by decide) ?_
  refine lv_istore_n (lv' := [(1, .int 0), (0, .ref this)]) hx hb dX3_init_50 rfl hl (by decide) rfl (fun ls hl => ?_)
  refine lv_iload_n hx hb dX3_init_51 rfl (lv_at hl 0 rfl) ?_
  refine lv_iconst (v := 4) hx hb dX3_init_52 (by decide) ?_
  refine lv_icmp_ge (tgt := 75) hx hb dX3_init_53 (by decide) (fun c1 => ?_) (fun c1 => ?_)
  · exact absurd c1 (by decide)
  · refine lv_aload_n hx hb dX3_init_56 rfl (lv_at hl 1 rfl) ?_
    obtain ⟨v14, h1, h⟩ := ob h
    refine rgn_3_4 hx hb hts hown hE hM qw_100 h1 dX3_init_57 ?_
    refine lv_iload_n hx hb dX3_init_60 rfl (lv_at hl 0 rfl) ?_
    obtain ⟨v15, M16, eq, eM, h⟩ := obnew h
    refine rn_2 hx hb hts hown hE hM hS qw_75 qw_77 qw_41 eq eM (Nat.le_of_ble_eq_true rfl) (Nat.le_of_ble_eq_true rfl) dX3_init_61 (fun H hM hS => ?_)
    refine lv_dup hx hb dX3_init_64 rfl ?_
    obtain ⟨M18, h1, h⟩ := ob h
    refine kIN (host := RX4) (As := []) (rest := [.ref v15, .int 0, .ref v14]) hC hE hS hM (mt_X2_init _ E v15 _ _ h1) qw_80 (by decide) qw_79 qw_41 ⟨rfl, rfl, (Nat.le_of_ble_eq_true rfl), (Nat.le_of_ble_eq_true rfl)⟩ dd_X2_init.2 rfl rfl rfl hl.1 (Nat.le_of_ble_eq_true rfl) dX3_init_65 ⟨(Nat.le_of_ble_eq_true rfl), (Nat.le_of_ble_eq_true rfl)⟩ (fun H locs hM hS => ?_)
    obtain ⟨M19, h1, h⟩ := ob h
    refine r_astS hx hb hE hM hS h1 dX3_init_68 (fun H locs hM hS => ?_)
    refine lv_iinc (v := 1) (lv' := [(1, .int 1), (0, .ref this)]) hx hb dX3_init_69 hl (k := 0) rfl rfl (by decide) rfl (fun ls hl => ?_)
    refine lv_goto (tgt := 51) hx hb dX3_init_72 (by decide) ?_
    refine lv_iload_n hx hb dX3_init_51 rfl (lv_at hl 0 rfl) ?_
    refine lv_iconst (v := 4) hx hb dX3_init_52 (by decide) ?_
    refine lv_icmp_ge (tgt := 75) hx hb dX3_init_53 (by decide) (fun c1 => ?_) (fun c1 => ?_)
    · exact absurd c1 (by decide)
    · refine lv_aload_n hx hb dX3_init_56 rfl (lv_at hl 1 rfl) ?_
      obtain ⟨v20, h1, h⟩ := ob h
      refine rgn_3_4 hx hb hts hown hE hM qw_100 h1 dX3_init_57 ?_
      refine lv_iload_n hx hb dX3_init_60 rfl (lv_at hl 0 rfl) ?_
      obtain ⟨v21, M22, eq, eM, h⟩ := obnew h
      refine rn_2 hx hb hts hown hE hM hS qw_75 qw_77 qw_41 eq eM (Nat.le_of_ble_eq_true rfl) (Nat.le_of_ble_eq_true rfl) dX3_init_61 (fun H hM hS => ?_)
      refine lv_dup hx hb dX3_init_64 rfl ?_
      obtain ⟨M24, h1, h⟩ := ob h
      refine kIN (host := RX4) (As := []) (rest := [.ref v21, .int 1, .ref v20]) hC hE hS hM (mt_X2_init _ E v21 _ _ h1) qw_80 (by decide) qw_79 qw_41 ⟨rfl, rfl, (Nat.le_of_ble_eq_true rfl), (Nat.le_of_ble_eq_true rfl)⟩ dd_X2_init.2 rfl rfl rfl hl.1 (Nat.le_of_ble_eq_true rfl) dX3_init_65 ⟨(Nat.le_of_ble_eq_true rfl), (Nat.le_of_ble_eq_true rfl)⟩ (fun H locs hM hS => ?_)
      obtain ⟨M25, h1, h⟩ := ob h
      refine r_astS hx hb hE hM hS h1 dX3_init_68 (fun H locs hM hS => ?_)
      refine lv_iinc (v := 2) (lv' := [(1, .int 2), (0, .ref this)]) hx hb dX3_init_69 hl (k := 0) rfl rfl (by decide) rfl (fun ls hl => ?_)
      refine lv_goto (tgt := 51) hx hb dX3_init_72 (by decide) ?_
      refine lv_iload_n hx hb dX3_init_51 rfl (lv_at hl 0 rfl) ?_
      refine lv_iconst (v := 4) hx hb dX3_init_52 (by decide) ?_
      refine lv_icmp_ge (tgt := 75) hx hb dX3_init_53 (by decide) (fun c1 => ?_) (fun c1 => ?_)
      · exact absurd c1 (by decide)
      · refine lv_aload_n hx hb dX3_init_56 rfl (lv_at hl 1 rfl) ?_
        obtain ⟨v26, h1, h⟩ := ob h
        refine rgn_3_4 hx hb hts hown hE hM qw_100 h1 dX3_init_57 ?_
        refine lv_iload_n hx hb dX3_init_60 rfl (lv_at hl 0 rfl) ?_
        obtain ⟨v27, M28, eq, eM, h⟩ := obnew h
        refine rn_2 hx hb hts hown hE hM hS qw_75 qw_77 qw_41 eq eM (Nat.le_of_ble_eq_true rfl) (Nat.le_of_ble_eq_true rfl) dX3_init_61 (fun H hM hS => ?_)
        refine lv_dup hx hb dX3_init_64 rfl ?_
        obtain ⟨M30, h1, h⟩ := ob h
        refine kIN (host := RX4) (As := []) (rest := [.ref v27, .int 2, .ref v26]) hC hE hS hM (mt_X2_init _ E v27 _ _ h1) qw_80 (by decide) qw_79 qw_41 ⟨rfl, rfl, (Nat.le_of_ble_eq_true rfl), (Nat.le_of_ble_eq_true rfl)⟩ dd_X2_init.2 rfl rfl rfl hl.1 (Nat.le_of_ble_eq_true rfl) dX3_init_65 ⟨(Nat.le_of_ble_eq_true rfl), (Nat.le_of_ble_eq_true rfl)⟩ (fun H locs hM hS => ?_)
        obtain ⟨M31, h1, h⟩ := ob h
        refine r_astS hx hb hE hM hS h1 dX3_init_68 (fun H locs hM hS => ?_)
        refine lv_iinc (v := 3) (lv' := [(1, .int 3), (0, .ref this)]) hx hb dX3_init_69 hl (k := 0) rfl rfl (by decide) rfl (fun ls hl => ?_)
        refine lv_goto (tgt := 51) hx hb dX3_init_72 (by decide) ?_
        refine lv_iload_n hx hb dX3_init_51 rfl (lv_at hl 0 rfl) ?_
        refine lv_iconst (v := 4) hx hb dX3_init_52 (by decide) ?_
        refine lv_icmp_ge (tgt := 75) hx hb dX3_init_53 (by decide) (fun c1 => ?_) (fun c1 => ?_)
        · exact absurd c1 (by decide)
        · refine lv_aload_n hx hb dX3_init_56 rfl (lv_at hl 1 rfl) ?_
          obtain ⟨v32, h1, h⟩ := ob h
          refine rgn_3_4 hx hb hts hown hE hM qw_100 h1 dX3_init_57 ?_
          refine lv_iload_n hx hb dX3_init_60 rfl (lv_at hl 0 rfl) ?_
          obtain ⟨v33, M34, eq, eM, h⟩ := obnew h
          refine rn_2 hx hb hts hown hE hM hS qw_75 qw_77 qw_41 eq eM (Nat.le_of_ble_eq_true rfl) (Nat.le_of_ble_eq_true rfl) dX3_init_61 (fun H hM hS => ?_)
          refine lv_dup hx hb dX3_init_64 rfl ?_
          obtain ⟨M36, h1, h⟩ := ob h
          refine kIN (host := RX4) (As := []) (rest := [.ref v33, .int 3, .ref v32]) hC hE hS hM (mt_X2_init _ E v33 _ _ h1) qw_80 (by decide) qw_79 qw_41 ⟨rfl, rfl, (Nat.le_of_ble_eq_true rfl), (Nat.le_of_ble_eq_true rfl)⟩ dd_X2_init.2 rfl rfl rfl hl.1 (Nat.le_of_ble_eq_true rfl) dX3_init_65 ⟨(Nat.le_of_ble_eq_true rfl), (Nat.le_of_ble_eq_true rfl)⟩ (fun H locs hM hS => ?_)
          obtain ⟨M37, h1, h⟩ := ob h
          refine r_astS hx hb hE hM hS h1 dX3_init_68 (fun H locs hM hS => ?_)
          refine lv_iinc (v := 4) (lv' := [(1, .int 4), (0, .ref this)]) hx hb dX3_init_69 hl (k := 0) rfl rfl (by decide) rfl (fun ls hl => ?_)
          refine lv_goto (tgt := 51) hx hb dX3_init_72 (by decide) ?_
          refine lv_iload_n hx hb dX3_init_51 rfl (lv_at hl 0 rfl) ?_
          refine lv_iconst (v := 4) hx hb dX3_init_52 (by decide) ?_
          refine lv_icmp_ge (tgt := 75) hx hb dX3_init_53 (by decide) (fun c1 => ?_) (fun c1 => ?_)
          · refine lv_iconst (v := 0) hx hb dX3_init_75 (by decide) ?_
            refine lv_istore_n (lv' := [(1, .int 0), (0, .ref this)]) hx hb dX3_init_76 rfl hl (by decide) rfl (fun ls hl => ?_)
            refine lv_iload_n hx hb dX3_init_77 rfl (lv_at hl 0 rfl) ?_
            refine lv_bipush (v := 6) hx hb dX3_init_78 (by decide) ?_
            refine lv_icmp_ge (tgt := 102) hx hb dX3_init_80 (by decide) (fun c1 => ?_) (fun c1 => ?_)
            · exact absurd c1 (by decide)
            · refine lv_aload_n hx hb dX3_init_83 rfl (lv_at hl 1 rfl) ?_
              obtain ⟨v38, h1, h⟩ := ob h
              refine rgn_3_5 hx hb hts hown hE hM qw_103 h1 dX3_init_84 ?_
              refine lv_iload_n hx hb dX3_init_87 rfl (lv_at hl 0 rfl) ?_
              obtain ⟨v39, M40, eq, eM, h⟩ := obnew h
              refine rn_2 hx hb hts hown hE hM hS qw_75 qw_77 qw_41 eq eM (Nat.le_of_ble_eq_true rfl) (Nat.le_of_ble_eq_true rfl) dX3_init_88 (fun H hM hS => ?_)
              refine lv_dup hx hb dX3_init_91 rfl ?_
              obtain ⟨M42, h1, h⟩ := ob h
              refine kIN (host := RX4) (As := []) (rest := [.ref v39, .int 0, .ref v38]) hC hE hS hM (mt_X2_init _ E v39 _ _ h1) qw_80 (by decide) qw_79 qw_41 ⟨rfl, rfl, (Nat.le_of_ble_eq_true rfl), (Nat.le_of_ble_eq_true rfl)⟩ dd_X2_init.2 rfl rfl rfl hl.1 (Nat.le_of_ble_eq_true rfl) dX3_init_92 ⟨(Nat.le_of_ble_eq_true rfl), (Nat.le_of_ble_eq_true rfl)⟩ (fun H locs hM hS => ?_)
              obtain ⟨M43, h1, h⟩ := ob h
              refine r_astS hx hb hE hM hS h1 dX3_init_95 (fun H locs hM hS => ?_)
              refine lv_iinc (v := 1) (lv' := [(1, .int 1), (0, .ref this)]) hx hb dX3_init_96 hl (k := 0) rfl rfl (by decide) rfl (fun ls hl => ?_)
              refine lv_goto (tgt := 77) hx hb dX3_init_99 (by decide) ?_
              refine lv_iload_n hx hb dX3_init_77 rfl (lv_at hl 0 rfl) ?_
              refine lv_bipush (v := 6) hx hb dX3_init_78 (by decide) ?_
              refine lv_icmp_ge (tgt := 102) hx hb dX3_init_80 (by decide) (fun c1 => ?_) (fun c1 => ?_)
              · exact absurd c1 (by decide)
              · refine lv_aload_n hx hb dX3_init_83 rfl (lv_at hl 1 rfl) ?_
                obtain ⟨v44, h1, h⟩ := ob h
                refine rgn_3_5 hx hb hts hown hE hM qw_103 h1 dX3_init_84 ?_
                refine lv_iload_n hx hb dX3_init_87 rfl (lv_at hl 0 rfl) ?_
                obtain ⟨v45, M46, eq, eM, h⟩ := obnew h
                refine rn_2 hx hb hts hown hE hM hS qw_75 qw_77 qw_41 eq eM (Nat.le_of_ble_eq_true rfl) (Nat.le_of_ble_eq_true rfl) dX3_init_88 (fun H hM hS => ?_)
                refine lv_dup hx hb dX3_init_91 rfl ?_
                obtain ⟨M48, h1, h⟩ := ob h
                refine kIN (host := RX4) (As := []) (rest := [.ref v45, .int 1, .ref v44]) hC hE hS hM (mt_X2_init _ E v45 _ _ h1) qw_80 (by decide) qw_79 qw_41 ⟨rfl, rfl, (Nat.le_of_ble_eq_true rfl), (Nat.le_of_ble_eq_true rfl)⟩ dd_X2_init.2 rfl rfl rfl hl.1 (Nat.le_of_ble_eq_true rfl) dX3_init_92 ⟨(Nat.le_of_ble_eq_true rfl), (Nat.le_of_ble_eq_true rfl)⟩ (fun H locs hM hS => ?_)
                obtain ⟨M49, h1, h⟩ := ob h
                refine r_astS hx hb hE hM hS h1 dX3_init_95 (fun H locs hM hS => ?_)
                refine lv_iinc (v := 2) (lv' := [(1, .int 2), (0, .ref this)]) hx hb dX3_init_96 hl (k := 0) rfl rfl (by decide) rfl (fun ls hl => ?_)
                refine lv_goto (tgt := 77) hx hb dX3_init_99 (by decide) ?_
                refine lv_iload_n hx hb dX3_init_77 rfl (lv_at hl 0 rfl) ?_
                refine lv_bipush (v := 6) hx hb dX3_init_78 (by decide) ?_
                refine lv_icmp_ge (tgt := 102) hx hb dX3_init_80 (by decide) (fun c1 => ?_) (fun c1 => ?_)
                · exact absurd c1 (by decide)
                · refine lv_aload_n hx hb dX3_init_83 rfl (lv_at hl 1 rfl) ?_
                  obtain ⟨v50, h1, h⟩ := ob h
                  refine rgn_3_5 hx hb hts hown hE hM qw_103 h1 dX3_init_84 ?_
                  refine lv_iload_n hx hb dX3_init_87 rfl (lv_at hl 0 rfl) ?_
                  obtain ⟨v51, M52, eq, eM, h⟩ := obnew h
                  refine rn_2 hx hb hts hown hE hM hS qw_75 qw_77 qw_41 eq eM (Nat.le_of_ble_eq_true rfl) (Nat.le_of_ble_eq_true rfl) dX3_init_88 (fun H hM hS => ?_)
                  refine lv_dup hx hb dX3_init_91 rfl ?_
                  obtain ⟨M54, h1, h⟩ := ob h
                  refine kIN (host := RX4) (As := []) (rest := [.ref v51, .int 2, .ref v50]) hC hE hS hM (mt_X2_init _ E v51 _ _ h1) qw_80 (by decide) qw_79 qw_41 ⟨rfl, rfl, (Nat.le_of_ble_eq_true rfl), (Nat.le_of_ble_eq_true rfl)⟩ dd_X2_init.2 rfl rfl rfl hl.1 (Nat.le_of_ble_eq_true rfl) dX3_init_92 ⟨(Nat.le_of_ble_eq_true rfl), (Nat.le_of_ble_eq_true rfl)⟩ (fun H locs hM hS => ?_)
                  obtain ⟨M55, h1, h⟩ := ob h
                  refine r_astS hx hb hE hM hS h1 dX3_init_95 (fun H locs hM hS => ?_)
                  refine lv_iinc (v := 3) (lv' := [(1, .int 3), (0, .ref this)]) hx hb dX3_init_96 hl (k := 0) rfl rfl (by decide) rfl (fun ls hl => ?_)
                  refine lv_goto (tgt := 77) hx hb dX3_init_99 (by decide) ?_
                  refine lv_iload_n hx hb dX3_init_77 rfl (lv_at hl 0 rfl) ?_
                  refine lv_bipush (v := 6) hx hb dX3_init_78 (by decide) ?_
                  refine lv_icmp_ge (tgt := 102) hx hb dX3_init_80 (by decide) (fun c1 => ?_) (fun c1 => ?_)
                  · exact absurd c1 (by decide)
                  · refine lv_aload_n hx hb dX3_init_83 rfl (lv_at hl 1 rfl) ?_
                    obtain ⟨v56, h1, h⟩ := ob h
                    refine rgn_3_5 hx hb hts hown hE hM qw_103 h1 dX3_init_84 ?_
                    refine lv_iload_n hx hb dX3_init_87 rfl (lv_at hl 0 rfl) ?_
                    obtain ⟨v57, M58, eq, eM, h⟩ := obnew h
                    refine rn_2 hx hb hts hown hE hM hS qw_75 qw_77 qw_41 eq eM (Nat.le_of_ble_eq_true rfl) (Nat.le_of_ble_eq_true rfl) dX3_init_88 (fun H hM hS => ?_)
                    refine lv_dup hx hb dX3_init_91 rfl ?_
                    obtain ⟨M60, h1, h⟩ := ob h
                    refine kIN (host := RX4) (As := []) (rest := [.ref v57, .int 3, .ref v56]) hC hE hS hM (mt_X2_init _ E v57 _ _ h1) qw_80 (by decide) qw_79 qw_41 ⟨rfl, rfl, (Nat.le_of_ble_eq_true rfl), (Nat.le_of_ble_eq_true rfl)⟩ dd_X2_init.2 rfl rfl rfl hl.1 (Nat.le_of_ble_eq_true rfl) dX3_init_92 ⟨(Nat.le_of_ble_eq_true rfl), (Nat.le_of_ble_eq_true rfl)⟩ (fun H locs hM hS => ?_)
                    obtain ⟨M61, h1, h⟩ := ob h
                    refine r_astS hx hb hE hM hS h1 dX3_init_95 (fun H locs hM hS => ?_)
                    refine lv_iinc (v := 4) (lv' := [(1, .int 4), (0, .ref this)]) hx hb dX3_init_96 hl (k := 0) rfl rfl (by decide) rfl (fun ls hl => ?_)
                    refine lv_goto (tgt := 77) hx hb dX3_init_99 (by decide) ?_
                    refine lv_iload_n hx hb dX3_init_77 rfl (lv_at hl 0 rfl) ?_
                    refine lv_bipush (v := 6) hx hb dX3_init_78 (by decide) ?_
                    refine lv_icmp_ge (tgt := 102) hx hb dX3_init_80 (by decide) (fun c1 => ?_) (fun c1 => ?_)
                    · exact absurd c1 (by decide)
                    · refine lv_aload_n hx hb dX3_init_83 rfl (lv_at hl 1 rfl) ?_
                      obtain ⟨v62, h1, h⟩ := ob h
                      refine rgn_3_5 hx hb hts hown hE hM qw_103 h1 dX3_init_84 ?_
                      refine lv_iload_n hx hb dX3_init_87 rfl (lv_at hl 0 rfl) ?_
                      obtain ⟨v63, M64, eq, eM, h⟩ := obnew h
                      refine rn_2 hx hb hts hown hE hM hS qw_75 qw_77 qw_41 eq eM (Nat.le_of_ble_eq_true rfl) (Nat.le_of_ble_eq_true rfl) dX3_init_88 (fun H hM hS => ?_)
                      refine lv_dup hx hb dX3_init_91 rfl ?_
                      obtain ⟨M66, h1, h⟩ := ob h
                      refine kIN (host := RX4) (As := []) (rest := [.ref v63, .int 4, .ref v62]) hC hE hS hM (mt_X2_init _ E v63 _ _ h1) qw_80 (by decide) qw_79 qw_41 ⟨rfl, rfl, (Nat.le_of_ble_eq_true rfl), (Nat.le_of_ble_eq_true rfl)⟩ dd_X2_init.2 rfl rfl rfl hl.1 (Nat.le_of_ble_eq_true rfl) dX3_init_92 ⟨(Nat.le_of_ble_eq_true rfl), (Nat.le_of_ble_eq_true rfl)⟩ (fun H locs hM hS => ?_)
                      obtain ⟨M67, h1, h⟩ := ob h
                      refine r_astS hx hb hE hM hS h1 dX3_init_95 (fun H locs hM hS => ?_)
                      refine lv_iinc (v := 5) (lv' := [(1, .int 5), (0, .ref this)]) hx hb dX3_init_96 hl (k := 0) rfl rfl (by decide) rfl (fun ls hl => ?_)
                      refine lv_goto (tgt := 77) hx hb dX3_init_99 (by decide) ?_
                      refine lv_iload_n hx hb dX3_init_77 rfl (lv_at hl 0 rfl) ?_
                      refine lv_bipush (v := 6) hx hb dX3_init_78 (by decide) ?_
                      refine lv_icmp_ge (tgt := 102) hx hb dX3_init_80 (by decide) (fun c1 => ?_) (fun c1 => ?_)
                      · exact absurd c1 (by decide)
                      · refine lv_aload_n hx hb dX3_init_83 rfl (lv_at hl 1 rfl) ?_
                        obtain ⟨v68, h1, h⟩ := ob h
                        refine rgn_3_5 hx hb hts hown hE hM qw_103 h1 dX3_init_84 ?_
                        refine lv_iload_n hx hb dX3_init_87 rfl (lv_at hl 0 rfl) ?_
                        obtain ⟨v69, M70, eq, eM, h⟩ := obnew h
                        refine rn_2 hx hb hts hown hE hM hS qw_75 qw_77 qw_41 eq eM (Nat.le_of_ble_eq_true rfl) (Nat.le_of_ble_eq_true rfl) dX3_init_88 (fun H hM hS => ?_)
                        refine lv_dup hx hb dX3_init_91 rfl ?_
                        obtain ⟨M72, h1, h⟩ := ob h
                        refine kIN (host := RX4) (As := []) (rest := [.ref v69, .int 5, .ref v68]) hC hE hS hM (mt_X2_init _ E v69 _ _ h1) qw_80 (by decide) qw_79 qw_41 ⟨rfl, rfl, (Nat.le_of_ble_eq_true rfl), (Nat.le_of_ble_eq_true rfl)⟩ dd_X2_init.2 rfl rfl rfl hl.1 (Nat.le_of_ble_eq_true rfl) dX3_init_92 ⟨(Nat.le_of_ble_eq_true rfl), (Nat.le_of_ble_eq_true rfl)⟩ (fun H locs hM hS => ?_)
                        obtain ⟨M73, h1, h⟩ := ob h
                        refine r_astS hx hb hE hM hS h1 dX3_init_95 (fun H locs hM hS => ?_)
                        refine lv_iinc (v := 6) (lv' := [(1, .int 6), (0, .ref this)]) hx hb dX3_init_96 hl (k := 0) rfl rfl (by decide) rfl (fun ls hl => ?_)
                        refine lv_goto (tgt := 77) hx hb dX3_init_99 (by decide) ?_
                        refine lv_iload_n hx hb dX3_init_77 rfl (lv_at hl 0 rfl) ?_
                        refine lv_bipush (v := 6) hx hb dX3_init_78 (by decide) ?_
                        refine lv_icmp_ge (tgt := 102) hx hb dX3_init_80 (by decide) (fun c1 => ?_) (fun c1 => ?_)
                        · cases h
                          exact eV_ hx hb hr hlocks hM hS dX3_init_102 (Nat.le_of_ble_eq_true rfl) (Nat.le_of_ble_eq_true rfl)
                        · exact absurd (by decide) c1
          · exact absurd (by decide) c1

theorem dd_X3_reset : yX3_reset.cls = RX3 ∧ yX3_reset.cls ≠ "java/lang/invoke/MethodHandle" ∧ yX3_reset.cls ≠ "java/lang/invoke/VarHandle" ∧ (parseMethodDescriptor yX3_reset.desc).map (fun d => d.parameters.length) = some 3 := by decide +kernel
abbrev rm_X3_reset : Room := ({ frames := 1, cells := 0, slots := 0, locals := 21 } : Room)
noncomputable def fc_X3_reset_23 (x0 : Nat) (x4 : Int32) (M : Mem) : Option ((Int32 × Mem) ⊕ Mem) :=
  (if (4 : Int32) ≤ x4 then
  some (.inr (M))
  else
  (gRn 4 100 x0 M).bind fun v5 =>
  (gBn 10 v5 x4 M).bind fun v6 =>
  (cK 3 v6 M (f_X2_empty v6 M)).bind fun M8 =>
  some (.inl (x4 + 1, M8)))
noncomputable def fj_X3_reset_23 (x0 : Nat) (x4 : Int32) (M : Mem) : Option Mem := loopM (fun q : (Int32 × Mem) => fc_X3_reset_23 x0 q.1 q.2) FU (x4, M)
set_option maxHeartbeats 4000000 in
set_option maxRecDepth 100000 in
theorem tj_X3_reset_23 {p : Program} {l : Launch} {e : Env} {s : State} {m : MethodId} {args : Array Value} {below : List Frame} {meth : Method} {c : Code} {E : KEnv} {H : Heap} {locs : List Loc} {ls : Array Slot} {x0 : Nat} {x4 : Int32} {M : Mem} {M' : Mem} (hC : CallFix p m c cX3_reset 5 s args lw_G RX3) (hr : meth.sig.returnType = none) (hlocks : meth.locks = false) (hE : EnvOK E s) (h : fj_X3_reset_23 x0 x4 M = some M') (hM : MOK E M H) (hS : va_S (eA E) s.heap H locs) (hl : lv_has ls 5 [(0, .ref x0), (4, .int x4)]) : W p l e rm_X3_reset s m args below meth c H locs 0 0 (MQ below (cQ E none M') args s 0 0 (eA E)) (F0 m 23 ls []) := by
  refine loopM_ind (body := fun q : (Int32 × Mem) => fc_X3_reset_23 x0 q.1 q.2) (x0 := M') (Wd := fun q : (Int32 × Mem) => ∀ (H : Heap) (locs : List Loc) (ls : Array Slot), MOK E (q.2) H → va_S (eA E) s.heap H locs → lv_has ls 5 [(0, .ref x0), (4, .int q.1)] → W p l e rm_X3_reset s m args below meth c H locs 0 0 (MQ below (cQ E none M') args s 0 0 (eA E)) (F0 m 23 ls [])) ?_ FU (x4, M) h H locs ls hM hS hl
  clear h hM hS hl H locs ls M x4
  obtain ⟨hx, hb, hml, hown, hts⟩ := id hC
  intro q y1 h hy1 H locs ls hM hS hl
  obtain ⟨x4, M⟩ := q
  have h : fc_X3_reset_23 x0 x4 M = some y1 := h
  have hM : MOK E M H := hM
  have hl : lv_has ls 5 [(0, .ref x0), (4, .int x4)] := hl
  unfold fc_X3_reset_23 at h
  show W p l e rm_X3_reset s m args below meth c H locs _ _ _ _
  refine lv_iload hx hb dX3_reset_23 (lv_at hl 1 rfl) ?_
  refine lv_iconst (v := 4) hx hb dX3_reset_25 (by decide) ?_
  refine lv_icmp_ge (tgt := 45) hx hb dX3_reset_26 (by decide) (fun c1 => ?_) (fun c1 => ?_)
  · have h := ifp c1 h
    cases h
    cases (hy1.2 _ rfl)
    exact eV_ hx hb hr hlocks hM hS dX3_reset_45 (Nat.le_of_ble_eq_true rfl) (Nat.le_of_ble_eq_true rfl)
  · have h := ifn c1 h
    refine lv_aload_n hx hb dX3_reset_29 rfl (lv_at hl 0 rfl) ?_
    obtain ⟨v5, h1, h⟩ := ob h
    refine rgn_3_4 hx hb hts hown hE hM qw_100 h1 dX3_reset_30 ?_
    refine lv_iload hx hb dX3_reset_33 (lv_at hl 1 rfl) ?_
    obtain ⟨v6, h1, h⟩ := ob h
    refine r_aldnS hx hb hE hM h1 dX3_reset_35 ?_
    obtain ⟨M8, h1, h⟩ := ob h
    obtain ⟨hk1, h1⟩ := ifg h1
    refine kV0 (ci := 2) (As := []) (rest := []) hC hE hS hM (mt_X2_empty _ E v6 _ _ h1) (gwV qw_292 qw_293 qw_294 qw_41 qw_295) ⟨rfl, rfl, (Nat.le_of_ble_eq_true rfl), (Nat.le_of_ble_eq_true rfl)⟩ dd_X2_empty rfl hk1 rfl rfl hl.1 (Nat.le_of_ble_eq_true rfl) dX3_reset_36 ⟨(Nat.le_of_ble_eq_true rfl), (Nat.le_of_ble_eq_true rfl)⟩ (fun H locs hM hS => ?_)
    refine lv_iinc (v := x4 + 1) (lv' := [(4, .int (x4 + 1)), (0, .ref x0)]) hx hb dX3_reset_39 hl (k := 1) rfl rfl (by decide) rfl (fun ls hl => ?_)
    refine lv_goto (tgt := 23) hx hb dX3_reset_42 (by decide) ?_
    cases h
    exact hy1.1 _ rfl _ _ _ hM hS (lv_sub hl [1, 0] rfl)
noncomputable def f_X3_reset (this : Nat) (a1 : Int32) (a2 : Int32) (a3 : Int32) (M : Mem) : Option Mem :=
  (sI 4 96 this a1 M).bind fun M1 =>
  (sI 4 97 this a2 M1).bind fun M2 =>
  (sI 4 98 this a3 M2).bind fun M3 =>
  (sI 4 99 this 0 M3).bind fun M4 =>
  fj_X3_reset_23 this 0 M4
set_option maxHeartbeats 4000000 in
set_option maxRecDepth 100000 in
theorem mt_X3_reset (l : Launch) (E : KEnv) (this : Nat) (a1 : Int32) (a2 : Int32) (a3 : Int32) (M M' : Mem) (h : f_X3_reset this a1 a2 a3 M = some M') : Met l yX3_reset (Cond.code yX3_reset cX3_reset 5 none :: lw_G) rm_X3_reset (cPc E [.ref this, .int a1, .int a2, .int a3] M) (cQ E none M') 0 0 (eA E) := by
  refine Met.ofW (cc := cX3_reset) (maxL := 5) (ret := none) (by decide) rfl ?_
  intro p e s m args below meth c s₁ B hml hv
  obtain ⟨rfl, hE, hM⟩ := hv
  have hx := B.exec
  have hb := B.bytes
  have hr := B.returns
  have hts0 := atoms_spec (ws := Cond.code yX3_reset cX3_reset 5 none :: lw_G) B.pre
  have hts : ∀ w ∈ lw_G, w.before _ s = true := fun w hw => hts0 w (List.mem_cons_of_mem _ hw)
  have hown : s.vm.findClass RX3 = some m.cls := findClass_of_methodNamed B.named
  have hlocks := B.notSynchronized
  have hC : CallFix p m c cX3_reset 5 s _ lw_G RX3 := ⟨hx, hb, hml, hown, hts⟩
  have hS : va_S (eA E) s.heap s.heap [] := va_S.rf
  have hl := lv_entry ([.ref this, .int a1, .int a2, .int a3]) (n := 5) (Nat.le_of_ble_eq_true rfl)
  rw [lg_entry_eq]
  generalize (lg_sl ([.ref this, .int a1, .int a2, .int a3]) ++ List.replicate (5 - (lg_sl ([.ref this, .int a1, .int a2, .int a3])).length) Slot.unset).toArray = ls at hl ⊢
  have hl : lv_has ls 5 [(0, .ref this), (1, .int a1), (2, .int a2), (3, .int a3)] := hl
  unfold f_X3_reset at h
  show W p l e rm_X3_reset s m _ below meth c s.heap [] 0 0 _ _
  refine lv_aload_n hx hb dX3_reset_0 rfl (lv_at hl 0 rfl) ?_
  refine lv_iload_n hx hb dX3_reset_1 rfl (lv_at hl 1 rfl) ?_
  obtain ⟨M1, h1, h⟩ := ob h
  refine rp_3_0 hx hb hts hown hE hM qw_88 hS h1 dX3_reset_2 (fun H locs hM hS => ?_)
  refine lv_aload_n hx hb dX3_reset_5 rfl (lv_at hl 0 rfl) ?_
  refine lv_iload_n hx hb dX3_reset_6 rfl (lv_at hl 2 rfl) ?_
  obtain ⟨M2, h1, h⟩ := ob h
  refine rp_3_1 hx hb hts hown hE hM qw_91 hS h1 dX3_reset_7 (fun H locs hM hS => ?_)
  refine lv_aload_n hx hb dX3_reset_10 rfl (lv_at hl 0 rfl) ?_
  refine lv_iload_n hx hb dX3_reset_11 rfl (lv_at hl 3 rfl) ?_
  obtain ⟨M3, h1, h⟩ := ob h
  refine rp_3_2 hx hb hts hown hE hM qw_94 hS h1 dX3_reset_12 (fun H locs hM hS => ?_)
  refine lv_aload_n hx hb dX3_reset_15 rfl (lv_at hl 0 rfl) ?_
  refine lv_iconst (v := 0) hx hb dX3_reset_16 (by decide) ?_
  obtain ⟨M4, h1, h⟩ := ob h
  refine rp_3_3 hx hb hts hown hE hM qw_97 hS h1 dX3_reset_17 (fun H locs hM hS => ?_)
  refine lv_iconst (v := 0) hx hb dX3_reset_20 (by decide) ?_
  refine lv_istore (lv' := [(4, .int 0), (0, .ref this), (1, .int a1), (2, .int a2), (3, .int a3)]) hx hb dX3_reset_21 hl (by decide) rfl (fun ls hl => ?_)
  refine W.widen (k := 0) (n := 0) (Nat.le_of_ble_eq_true rfl) (Nat.le_of_ble_eq_true rfl) ?_
  exact tj_X3_reset_23  hC hr hlocks hE  h hM hS (lv_sub hl [1, 0] rfl)

theorem dd_X3_copyFrom : yX3_copyFrom.cls = RX3 ∧ yX3_copyFrom.cls ≠ "java/lang/invoke/MethodHandle" ∧ yX3_copyFrom.cls ≠ "java/lang/invoke/VarHandle" ∧ (parseMethodDescriptor yX3_copyFrom.desc).map (fun d => d.parameters.length) = some 1 := by decide +kernel
abbrev rm_X3_copyFrom : Room := ({ frames := 2, cells := 0, slots := 0, locals := 81 } : Room)
noncomputable def fc_X3_copyFrom_62 (x0 : Nat) (x1 : Nat) (x2 : Int32) (M : Mem) : Option ((Int32 × Mem) ⊕ Mem) :=
  (if (6 : Int32) ≤ x2 then
  some (.inr (M))
  else
  (gRn 4 101 x0 M).bind fun v9 =>
  (gBn 10 v9 x2 M).bind fun v10 =>
  (gRn 4 101 x1 M).bind fun v11 =>
  (gBn 10 v11 x2 M).bind fun v12 =>
  (cK 3 v10 M (f_X2_copyFrom v10 v12 M)).bind fun M14 =>
  (gRn 4 102 x0 M14).bind fun v15 =>
  (gRn 4 102 x1 M14).bind fun v16 =>
  (gA 9 v16 x2 M14).bind fun v17 =>
  (sA 9 v15 x2 v17 M14).bind fun M18 =>
  some (.inl (x2 + 1, M18)))
noncomputable def fj_X3_copyFrom_62 (x0 : Nat) (x1 : Nat) (x2 : Int32) (M : Mem) : Option Mem := loopM (fun q : (Int32 × Mem) => fc_X3_copyFrom_62 x0 x1 q.1 q.2) FU (x2, M)
set_option maxHeartbeats 4000000 in
set_option maxRecDepth 100000 in
theorem tj_X3_copyFrom_62 {p : Program} {l : Launch} {e : Env} {s : State} {m : MethodId} {args : Array Value} {below : List Frame} {meth : Method} {c : Code} {E : KEnv} {H : Heap} {locs : List Loc} {ls : Array Slot} {x0 : Nat} {x1 : Nat} {x2 : Int32} {M : Mem} {M' : Mem} (hC : CallFix p m c cX3_copyFrom 3 s args lw_G RX3) (hr : meth.sig.returnType = none) (hlocks : meth.locks = false) (hE : EnvOK E s) (h : fj_X3_copyFrom_62 x0 x1 x2 M = some M') (hM : MOK E M H) (hS : va_S (eA E) s.heap H locs) (hl : lv_has ls 3 [(0, .ref x0), (1, .ref x1), (2, .int x2)]) : W p l e rm_X3_copyFrom s m args below meth c H locs 0 0 (MQ below (cQ E none M') args s 0 0 (eA E)) (F0 m 62 ls []) := by
  refine loopM_ind (body := fun q : (Int32 × Mem) => fc_X3_copyFrom_62 x0 x1 q.1 q.2) (x0 := M') (Wd := fun q : (Int32 × Mem) => ∀ (H : Heap) (locs : List Loc) (ls : Array Slot), MOK E (q.2) H → va_S (eA E) s.heap H locs → lv_has ls 3 [(0, .ref x0), (1, .ref x1), (2, .int q.1)] → W p l e rm_X3_copyFrom s m args below meth c H locs 0 0 (MQ below (cQ E none M') args s 0 0 (eA E)) (F0 m 62 ls [])) ?_ FU (x2, M) h H locs ls hM hS hl
  clear h hM hS hl H locs ls M x2
  obtain ⟨hx, hb, hml, hown, hts⟩ := id hC
  intro q y1 h hy1 H locs ls hM hS hl
  obtain ⟨x2, M⟩ := q
  have h : fc_X3_copyFrom_62 x0 x1 x2 M = some y1 := h
  have hM : MOK E M H := hM
  have hl : lv_has ls 3 [(0, .ref x0), (1, .ref x1), (2, .int x2)] := hl
  unfold fc_X3_copyFrom_62 at h
  show W p l e rm_X3_copyFrom s m args below meth c H locs _ _ _ _
  refine lv_iload_n hx hb dX3_copyFrom_62 rfl (lv_at hl 2 rfl) ?_
  refine lv_bipush (v := 6) hx hb dX3_copyFrom_63 (by decide) ?_
  refine lv_icmp_ge (tgt := 101) hx hb dX3_copyFrom_65 (by decide) (fun c1 => ?_) (fun c1 => ?_)
  · have h := ifp c1 h
    cases h
    cases (hy1.2 _ rfl)
    exact eV_ hx hb hr hlocks hM hS dX3_copyFrom_101 (Nat.le_of_ble_eq_true rfl) (Nat.le_of_ble_eq_true rfl)
  · have h := ifn c1 h
    refine lv_aload_n hx hb dX3_copyFrom_68 rfl (lv_at hl 0 rfl) ?_
    obtain ⟨v9, h1, h⟩ := ob h
    refine rgn_3_5 hx hb hts hown hE hM qw_103 h1 dX3_copyFrom_69 ?_
    refine lv_iload_n hx hb dX3_copyFrom_72 rfl (lv_at hl 2 rfl) ?_
    obtain ⟨v10, h1, h⟩ := ob h
    refine r_aldnS hx hb hE hM h1 dX3_copyFrom_73 ?_
    refine lv_aload_n hx hb dX3_copyFrom_74 rfl (lv_at hl 1 rfl) ?_
    obtain ⟨v11, h1, h⟩ := ob h
    refine rgn_3_5 hx hb hts hown hE hM qw_103 h1 dX3_copyFrom_75 ?_
    refine lv_iload_n hx hb dX3_copyFrom_78 rfl (lv_at hl 2 rfl) ?_
    obtain ⟨v12, h1, h⟩ := ob h
    refine r_aldnS hx hb hE hM h1 dX3_copyFrom_79 ?_
    obtain ⟨M14, h1, h⟩ := ob h
    obtain ⟨hk1, h1⟩ := ifg h1
    refine kV0 (ci := 2) (As := [.ref v12]) (rest := []) hC hE hS hM (mt_X2_copyFrom _ E v10 v12 _ _ h1) (gwV qw_386 qw_387 qw_388 qw_41 qw_389) ⟨rfl, rfl, (Nat.le_of_ble_eq_true rfl), (Nat.le_of_ble_eq_true rfl)⟩ dd_X2_copyFrom rfl hk1 rfl rfl hl.1 (Nat.le_of_ble_eq_true rfl) dX3_copyFrom_80 ⟨(Nat.le_of_ble_eq_true rfl), (Nat.le_of_ble_eq_true rfl)⟩ (fun H locs hM hS => ?_)
    refine lv_aload_n hx hb dX3_copyFrom_83 rfl (lv_at hl 0 rfl) ?_
    obtain ⟨v15, h1, h⟩ := ob h
    refine rgn_3_6 hx hb hts hown hE hM qw_106 h1 dX3_copyFrom_84 ?_
    refine lv_iload_n hx hb dX3_copyFrom_87 rfl (lv_at hl 2 rfl) ?_
    refine lv_aload_n hx hb dX3_copyFrom_88 rfl (lv_at hl 1 rfl) ?_
    obtain ⟨v16, h1, h⟩ := ob h
    refine rgn_3_6 hx hb hts hown hE hM qw_106 h1 dX3_copyFrom_89 ?_
    refine lv_iload_n hx hb dX3_copyFrom_92 rfl (lv_at hl 2 rfl) ?_
    obtain ⟨v17, h1, h⟩ := ob h
    refine r_iald hx hb hE hM h1 dX3_copyFrom_93 ?_
    obtain ⟨M18, h1, h⟩ := ob h
    refine r_iast hx hb hE hM hS h1 dX3_copyFrom_94 (fun H locs hM hS => ?_)
    refine lv_iinc (v := x2 + 1) (lv' := [(2, .int (x2 + 1)), (0, .ref x0), (1, .ref x1)]) hx hb dX3_copyFrom_95 hl (k := 2) rfl rfl (by decide) rfl (fun ls hl => ?_)
    refine lv_goto (tgt := 62) hx hb dX3_copyFrom_98 (by decide) ?_
    cases h
    exact hy1.1 _ rfl _ _ _ hM hS (lv_sub hl [1, 2, 0] rfl)
noncomputable def fj_X3_copyFrom_60 (x0 : Nat) (x1 : Nat) (M : Mem) : Option Mem :=
  fj_X3_copyFrom_62 x0 x1 0 M
set_option maxHeartbeats 4000000 in
set_option maxRecDepth 100000 in
theorem tj_X3_copyFrom_60 {p : Program} {l : Launch} {e : Env} {s : State} {m : MethodId} {args : Array Value} {below : List Frame} {meth : Method} {c : Code} {E : KEnv} {H : Heap} {locs : List Loc} {ls : Array Slot} {x0 : Nat} {x1 : Nat} {M : Mem} {M' : Mem} (hC : CallFix p m c cX3_copyFrom 3 s args lw_G RX3) (hr : meth.sig.returnType = none) (hlocks : meth.locks = false) (hE : EnvOK E s) (h : fj_X3_copyFrom_60 x0 x1 M = some M') (hM : MOK E M H) (hS : va_S (eA E) s.heap H locs) (hl : lv_has ls 3 [(0, .ref x0), (1, .ref x1)]) : W p l e rm_X3_copyFrom s m args below meth c H locs 0 0 (MQ below (cQ E none M') args s 0 0 (eA E)) (F0 m 60 ls []) := by
  obtain ⟨hx, hb, hml, hown, hts⟩ := id hC
  unfold fj_X3_copyFrom_60 at h
  refine lv_iconst (v := 0) hx hb dX3_copyFrom_60 (by decide) ?_
  refine lv_istore_n (lv' := [(2, .int 0), (0, .ref x0), (1, .ref x1)]) hx hb dX3_copyFrom_61 rfl hl (by decide) rfl (fun ls hl => ?_)
  refine W.widen (k := 0) (n := 0) (Nat.le_of_ble_eq_true rfl) (Nat.le_of_ble_eq_true rfl) ?_
  exact tj_X3_copyFrom_62  hC hr hlocks hE  h hM hS (lv_sub hl [1, 2, 0] rfl)
noncomputable def fc_X3_copyFrom_34 (x0 : Nat) (x1 : Nat) (x2 : Int32) (M : Mem) : Option ((Int32 × Mem) ⊕ Mem) :=
  (if (4 : Int32) ≤ x2 then
  (fj_X3_copyFrom_60 x0 x1 M).map Sum.inr
  else
  (gRn 4 100 x0 M).bind fun v19 =>
  (gBn 10 v19 x2 M).bind fun v20 =>
  (gRn 4 100 x1 M).bind fun v21 =>
  (gBn 10 v21 x2 M).bind fun v22 =>
  (cK 3 v20 M (f_X2_copyFrom v20 v22 M)).bind fun M24 =>
  some (.inl (x2 + 1, M24)))
noncomputable def fj_X3_copyFrom_34 (x0 : Nat) (x1 : Nat) (x2 : Int32) (M : Mem) : Option Mem := loopM (fun q : (Int32 × Mem) => fc_X3_copyFrom_34 x0 x1 q.1 q.2) FU (x2, M)
set_option maxHeartbeats 4000000 in
set_option maxRecDepth 100000 in
theorem tj_X3_copyFrom_34 {p : Program} {l : Launch} {e : Env} {s : State} {m : MethodId} {args : Array Value} {below : List Frame} {meth : Method} {c : Code} {E : KEnv} {H : Heap} {locs : List Loc} {ls : Array Slot} {x0 : Nat} {x1 : Nat} {x2 : Int32} {M : Mem} {M' : Mem} (hC : CallFix p m c cX3_copyFrom 3 s args lw_G RX3) (hr : meth.sig.returnType = none) (hlocks : meth.locks = false) (hE : EnvOK E s) (h : fj_X3_copyFrom_34 x0 x1 x2 M = some M') (hM : MOK E M H) (hS : va_S (eA E) s.heap H locs) (hl : lv_has ls 3 [(0, .ref x0), (1, .ref x1), (2, .int x2)]) : W p l e rm_X3_copyFrom s m args below meth c H locs 0 0 (MQ below (cQ E none M') args s 0 0 (eA E)) (F0 m 34 ls []) := by
  refine loopM_ind (body := fun q : (Int32 × Mem) => fc_X3_copyFrom_34 x0 x1 q.1 q.2) (x0 := M') (Wd := fun q : (Int32 × Mem) => ∀ (H : Heap) (locs : List Loc) (ls : Array Slot), MOK E (q.2) H → va_S (eA E) s.heap H locs → lv_has ls 3 [(0, .ref x0), (1, .ref x1), (2, .int q.1)] → W p l e rm_X3_copyFrom s m args below meth c H locs 0 0 (MQ below (cQ E none M') args s 0 0 (eA E)) (F0 m 34 ls [])) ?_ FU (x2, M) h H locs ls hM hS hl
  clear h hM hS hl H locs ls M x2
  obtain ⟨hx, hb, hml, hown, hts⟩ := id hC
  intro q y1 h hy1 H locs ls hM hS hl
  obtain ⟨x2, M⟩ := q
  have h : fc_X3_copyFrom_34 x0 x1 x2 M = some y1 := h
  have hM : MOK E M H := hM
  have hl : lv_has ls 3 [(0, .ref x0), (1, .ref x1), (2, .int x2)] := hl
  unfold fc_X3_copyFrom_34 at h
  show W p l e rm_X3_copyFrom s m args below meth c H locs _ _ _ _
  refine lv_iload_n hx hb dX3_copyFrom_34 rfl (lv_at hl 2 rfl) ?_
  refine lv_iconst (v := 4) hx hb dX3_copyFrom_35 (by decide) ?_
  refine lv_icmp_ge (tgt := 60) hx hb dX3_copyFrom_36 (by decide) (fun c1 => ?_) (fun c1 => ?_)
  · have h := ifp c1 h
    obtain ⟨z0, h9, rfl⟩ := om h
    have e0 := hy1.2 _ rfl
    subst e0
    have h := h9
    refine W.widen (k := 0) (n := 0) (Nat.le_of_ble_eq_true rfl) (Nat.le_of_ble_eq_true rfl) ?_
    exact tj_X3_copyFrom_60  hC hr hlocks hE  h hM hS (lv_sub hl [0, 1] rfl)
  · have h := ifn c1 h
    refine lv_aload_n hx hb dX3_copyFrom_39 rfl (lv_at hl 0 rfl) ?_
    obtain ⟨v19, h1, h⟩ := ob h
    refine rgn_3_4 hx hb hts hown hE hM qw_100 h1 dX3_copyFrom_40 ?_
    refine lv_iload_n hx hb dX3_copyFrom_43 rfl (lv_at hl 2 rfl) ?_
    obtain ⟨v20, h1, h⟩ := ob h
    refine r_aldnS hx hb hE hM h1 dX3_copyFrom_44 ?_
    refine lv_aload_n hx hb dX3_copyFrom_45 rfl (lv_at hl 1 rfl) ?_
    obtain ⟨v21, h1, h⟩ := ob h
    refine rgn_3_4 hx hb hts hown hE hM qw_100 h1 dX3_copyFrom_46 ?_
    refine lv_iload_n hx hb dX3_copyFrom_49 rfl (lv_at hl 2 rfl) ?_
    obtain ⟨v22, h1, h⟩ := ob h
    refine r_aldnS hx hb hE hM h1 dX3_copyFrom_50 ?_
    obtain ⟨M24, h1, h⟩ := ob h
    obtain ⟨hk1, h1⟩ := ifg h1
    refine kV0 (ci := 2) (As := [.ref v22]) (rest := []) hC hE hS hM (mt_X2_copyFrom _ E v20 v22 _ _ h1) (gwV qw_386 qw_387 qw_388 qw_41 qw_389) ⟨rfl, rfl, (Nat.le_of_ble_eq_true rfl), (Nat.le_of_ble_eq_true rfl)⟩ dd_X2_copyFrom rfl hk1 rfl rfl hl.1 (Nat.le_of_ble_eq_true rfl) dX3_copyFrom_51 ⟨(Nat.le_of_ble_eq_true rfl), (Nat.le_of_ble_eq_true rfl)⟩ (fun H locs hM hS => ?_)
    refine lv_iinc (v := x2 + 1) (lv' := [(2, .int (x2 + 1)), (0, .ref x0), (1, .ref x1)]) hx hb dX3_copyFrom_54 hl (k := 2) rfl rfl (by decide) rfl (fun ls hl => ?_)
    refine lv_goto (tgt := 34) hx hb dX3_copyFrom_57 (by decide) ?_
    cases h
    exact hy1.1 _ rfl _ _ _ hM hS (lv_sub hl [1, 2, 0] rfl)
noncomputable def f_X3_copyFrom (this : Nat) (a1 : Nat) (M : Mem) : Option Mem :=
  (gI 4 96 a1 M).bind fun v1 =>
  (sI 4 96 this v1 M).bind fun M2 =>
  (gI 4 97 a1 M2).bind fun v3 =>
  (sI 4 97 this v3 M2).bind fun M4 =>
  (gI 4 98 a1 M4).bind fun v5 =>
  (sI 4 98 this v5 M4).bind fun M6 =>
  (gI 4 99 a1 M6).bind fun v7 =>
  (sI 4 99 this v7 M6).bind fun M8 =>
  fj_X3_copyFrom_34 this a1 0 M8
set_option maxHeartbeats 4000000 in
set_option maxRecDepth 100000 in
theorem mt_X3_copyFrom (l : Launch) (E : KEnv) (this : Nat) (a1 : Nat) (M M' : Mem) (h : f_X3_copyFrom this a1 M = some M') : Met l yX3_copyFrom (Cond.code yX3_copyFrom cX3_copyFrom 3 none :: lw_G) rm_X3_copyFrom (cPc E [.ref this, .ref a1] M) (cQ E none M') 0 0 (eA E) := by
  refine Met.ofW (cc := cX3_copyFrom) (maxL := 3) (ret := none) (by decide) rfl ?_
  intro p e s m args below meth c s₁ B hml hv
  obtain ⟨rfl, hE, hM⟩ := hv
  have hx := B.exec
  have hb := B.bytes
  have hr := B.returns
  have hts0 := atoms_spec (ws := Cond.code yX3_copyFrom cX3_copyFrom 3 none :: lw_G) B.pre
  have hts : ∀ w ∈ lw_G, w.before _ s = true := fun w hw => hts0 w (List.mem_cons_of_mem _ hw)
  have hown : s.vm.findClass RX3 = some m.cls := findClass_of_methodNamed B.named
  have hlocks := B.notSynchronized
  have hC : CallFix p m c cX3_copyFrom 3 s _ lw_G RX3 := ⟨hx, hb, hml, hown, hts⟩
  have hS : va_S (eA E) s.heap s.heap [] := va_S.rf
  have hl := lv_entry ([.ref this, .ref a1]) (n := 3) (Nat.le_of_ble_eq_true rfl)
  rw [lg_entry_eq]
  generalize (lg_sl ([.ref this, .ref a1]) ++ List.replicate (3 - (lg_sl ([.ref this, .ref a1])).length) Slot.unset).toArray = ls at hl ⊢
  have hl : lv_has ls 3 [(0, .ref this), (1, .ref a1)] := hl
  unfold f_X3_copyFrom at h
  show W p l e rm_X3_copyFrom s m _ below meth c s.heap [] 0 0 _ _
  refine lv_aload_n hx hb dX3_copyFrom_0 rfl (lv_at hl 0 rfl) ?_
  refine lv_aload_n hx hb dX3_copyFrom_1 rfl (lv_at hl 1 rfl) ?_
  obtain ⟨v1, h1, h⟩ := ob h
  refine rg_3_0 hx hb hts hown hE hM qw_88 h1 dX3_copyFrom_2 ?_
  obtain ⟨M2, h1, h⟩ := ob h
  refine rp_3_0 hx hb hts hown hE hM qw_88 hS h1 dX3_copyFrom_5 (fun H locs hM hS => ?_)
  refine lv_aload_n hx hb dX3_copyFrom_8 rfl (lv_at hl 0 rfl) ?_
  refine lv_aload_n hx hb dX3_copyFrom_9 rfl (lv_at hl 1 rfl) ?_
  obtain ⟨v3, h1, h⟩ := ob h
  refine rg_3_1 hx hb hts hown hE hM qw_91 h1 dX3_copyFrom_10 ?_
  obtain ⟨M4, h1, h⟩ := ob h
  refine rp_3_1 hx hb hts hown hE hM qw_91 hS h1 dX3_copyFrom_13 (fun H locs hM hS => ?_)
  refine lv_aload_n hx hb dX3_copyFrom_16 rfl (lv_at hl 0 rfl) ?_
  refine lv_aload_n hx hb dX3_copyFrom_17 rfl (lv_at hl 1 rfl) ?_
  obtain ⟨v5, h1, h⟩ := ob h
  refine rg_3_2 hx hb hts hown hE hM qw_94 h1 dX3_copyFrom_18 ?_
  obtain ⟨M6, h1, h⟩ := ob h
  refine rp_3_2 hx hb hts hown hE hM qw_94 hS h1 dX3_copyFrom_21 (fun H locs hM hS => ?_)
  refine lv_aload_n hx hb dX3_copyFrom_24 rfl (lv_at hl 0 rfl) ?_
  refine lv_aload_n hx hb dX3_copyFrom_25 rfl (lv_at hl 1 rfl) ?_
  obtain ⟨v7, h1, h⟩ := ob h
  refine rg_3_3 hx hb hts hown hE hM qw_97 h1 dX3_copyFrom_26 ?_
  obtain ⟨M8, h1, h⟩ := ob h
  refine rp_3_3 hx hb hts hown hE hM qw_97 hS h1 dX3_copyFrom_29 (fun H locs hM hS => ?_)
  refine lv_iconst (v := 0) hx hb dX3_copyFrom_32 (by decide) ?_
  refine lv_istore_n (lv' := [(2, .int 0), (0, .ref this), (1, .ref a1)]) hx hb dX3_copyFrom_33 rfl hl (by decide) rfl (fun ls hl => ?_)
  refine W.widen (k := 0) (n := 0) (Nat.le_of_ble_eq_true rfl) (Nat.le_of_ble_eq_true rfl) ?_
  exact tj_X3_copyFrom_34  hC hr hlocks hE  h hM hS (lv_sub hl [1, 2, 0] rfl)

theorem dd_X3_addMessage : yX3_addMessage.cls = RX3 ∧ yX3_addMessage.cls ≠ "java/lang/invoke/MethodHandle" ∧ yX3_addMessage.cls ≠ "java/lang/invoke/VarHandle" ∧ (parseMethodDescriptor yX3_addMessage.desc).map (fun d => d.parameters.length) = some 1 := by decide +kernel
abbrev rm_X3_addMessage : Room := ({ frames := 2, cells := 0, slots := 0, locals := 81 } : Room)
noncomputable def fj_X3_addMessage_47  (M : Mem) : Option Mem :=
  some M
set_option maxHeartbeats 4000000 in
set_option maxRecDepth 100000 in
theorem tj_X3_addMessage_47 {p : Program} {l : Launch} {e : Env} {s : State} {m : MethodId} {args : Array Value} {below : List Frame} {meth : Method} {c : Code} {E : KEnv} {H : Heap} {locs : List Loc} {ls : Array Slot}  {M : Mem} {M' : Mem} (hC : CallFix p m c cX3_addMessage 2 s args lw_G RX3) (hr : meth.sig.returnType = none) (hlocks : meth.locks = false) (hE : EnvOK E s) (h : fj_X3_addMessage_47  M = some M') (hM : MOK E M H) (hS : va_S (eA E) s.heap H locs) (hl : lv_has ls 2 []) : W p l e rm_X3_addMessage s m args below meth c H locs 0 0 (MQ below (cQ E none M') args s 0 0 (eA E)) (F0 m 47 ls []) := by
  obtain ⟨hx, hb, hml, hown, hts⟩ := id hC
  unfold fj_X3_addMessage_47 at h
  cases h
  exact eV_ hx hb hr hlocks hM hS dX3_addMessage_47 (Nat.le_of_ble_eq_true rfl) (Nat.le_of_ble_eq_true rfl)
noncomputable def f_X3_addMessage (this : Nat) (a1 : Int32) (M : Mem) : Option Mem :=
  (gI 4 99 this M).bind fun v1 =>
  (if (6 : Int32) ≤ v1 then
  fj_X3_addMessage_47 M
  else
  (gRn 4 101 this M).bind fun v2 =>
  (gI 4 99 this M).bind fun v3 =>
  (gBn 10 v2 v3 M).bind fun v4 =>
  (gRn 4 100 this M).bind fun v5 =>
  (gBn 10 v5 a1 M).bind fun v6 =>
  (cK 3 v4 M (f_X2_copyFrom v4 v6 M)).bind fun M8 =>
  (gRn 4 102 this M8).bind fun v9 =>
  (gI 4 99 this M8).bind fun v10 =>
  (sA 9 v9 v10 a1 M8).bind fun M11 =>
  (gI 4 99 this M11).bind fun v12 =>
  (sI 4 99 this (v12 + 1) M11).bind fun M13 =>
  fj_X3_addMessage_47 M13)
set_option maxHeartbeats 4000000 in
set_option maxRecDepth 100000 in
theorem mt_X3_addMessage (l : Launch) (E : KEnv) (this : Nat) (a1 : Int32) (M M' : Mem) (h : f_X3_addMessage this a1 M = some M') : Met l yX3_addMessage (Cond.code yX3_addMessage cX3_addMessage 2 none :: lw_G) rm_X3_addMessage (cPc E [.ref this, .int a1] M) (cQ E none M') 0 0 (eA E) := by
  refine Met.ofW (cc := cX3_addMessage) (maxL := 2) (ret := none) (by decide) rfl ?_
  intro p e s m args below meth c s₁ B hml hv
  obtain ⟨rfl, hE, hM⟩ := hv
  have hx := B.exec
  have hb := B.bytes
  have hr := B.returns
  have hts0 := atoms_spec (ws := Cond.code yX3_addMessage cX3_addMessage 2 none :: lw_G) B.pre
  have hts : ∀ w ∈ lw_G, w.before _ s = true := fun w hw => hts0 w (List.mem_cons_of_mem _ hw)
  have hown : s.vm.findClass RX3 = some m.cls := findClass_of_methodNamed B.named
  have hlocks := B.notSynchronized
  have hC : CallFix p m c cX3_addMessage 2 s _ lw_G RX3 := ⟨hx, hb, hml, hown, hts⟩
  have hS : va_S (eA E) s.heap s.heap [] := va_S.rf
  have hl := lv_entry ([.ref this, .int a1]) (n := 2) (Nat.le_of_ble_eq_true rfl)
  rw [lg_entry_eq]
  generalize (lg_sl ([.ref this, .int a1]) ++ List.replicate (2 - (lg_sl ([.ref this, .int a1])).length) Slot.unset).toArray = ls at hl ⊢
  have hl : lv_has ls 2 [(0, .ref this), (1, .int a1)] := hl
  unfold f_X3_addMessage at h
  show W p l e rm_X3_addMessage s m _ below meth c s.heap [] 0 0 _ _
  refine lv_aload_n hx hb dX3_addMessage_0 rfl (lv_at hl 0 rfl) ?_
  obtain ⟨v1, h1, h⟩ := ob h
  refine rg_3_3 hx hb hts hown hE hM qw_97 h1 dX3_addMessage_1 ?_
  refine lv_bipush (v := 6) hx hb dX3_addMessage_4 (by decide) ?_
  refine lv_icmp_ge (tgt := 47) hx hb dX3_addMessage_6 (by decide) (fun c1 => ?_) (fun c1 => ?_)
  · have h := ifp c1 h
    refine W.widen (k := 0) (n := 0) (Nat.le_of_ble_eq_true rfl) (Nat.le_of_ble_eq_true rfl) ?_
    exact tj_X3_addMessage_47  hC hr hlocks hE  h hM hS (lv_sub hl [] rfl)
  · have h := ifn c1 h
    refine lv_aload_n hx hb dX3_addMessage_9 rfl (lv_at hl 0 rfl) ?_
    obtain ⟨v2, h1, h⟩ := ob h
    refine rgn_3_5 hx hb hts hown hE hM qw_103 h1 dX3_addMessage_10 ?_
    refine lv_aload_n hx hb dX3_addMessage_13 rfl (lv_at hl 0 rfl) ?_
    obtain ⟨v3, h1, h⟩ := ob h
    refine rg_3_3 hx hb hts hown hE hM qw_97 h1 dX3_addMessage_14 ?_
    obtain ⟨v4, h1, h⟩ := ob h
    refine r_aldnS hx hb hE hM h1 dX3_addMessage_17 ?_
    refine lv_aload_n hx hb dX3_addMessage_18 rfl (lv_at hl 0 rfl) ?_
    obtain ⟨v5, h1, h⟩ := ob h
    refine rgn_3_4 hx hb hts hown hE hM qw_100 h1 dX3_addMessage_19 ?_
    refine lv_iload_n hx hb dX3_addMessage_22 rfl (lv_at hl 1 rfl) ?_
    obtain ⟨v6, h1, h⟩ := ob h
    refine r_aldnS hx hb hE hM h1 dX3_addMessage_23 ?_
    obtain ⟨M8, h1, h⟩ := ob h
    obtain ⟨hk1, h1⟩ := ifg h1
    refine kV0 (ci := 2) (As := [.ref v6]) (rest := []) hC hE hS hM (mt_X2_copyFrom _ E v4 v6 _ _ h1) (gwV qw_386 qw_387 qw_388 qw_41 qw_389) ⟨rfl, rfl, (Nat.le_of_ble_eq_true rfl), (Nat.le_of_ble_eq_true rfl)⟩ dd_X2_copyFrom rfl hk1 rfl rfl hl.1 (Nat.le_of_ble_eq_true rfl) dX3_addMessage_24 ⟨(Nat.le_of_ble_eq_true rfl), (Nat.le_of_ble_eq_true rfl)⟩ (fun H locs hM hS => ?_)
    refine lv_aload_n hx hb dX3_addMessage_27 rfl (lv_at hl 0 rfl) ?_
    obtain ⟨v9, h1, h⟩ := ob h
    refine rgn_3_6 hx hb hts hown hE hM qw_106 h1 dX3_addMessage_28 ?_
    refine lv_aload_n hx hb dX3_addMessage_31 rfl (lv_at hl 0 rfl) ?_
    obtain ⟨v10, h1, h⟩ := ob h
    refine rg_3_3 hx hb hts hown hE hM qw_97 h1 dX3_addMessage_32 ?_
    refine lv_iload_n hx hb dX3_addMessage_35 rfl (lv_at hl 1 rfl) ?_
    obtain ⟨M11, h1, h⟩ := ob h
    refine r_iast hx hb hE hM hS h1 dX3_addMessage_36 (fun H locs hM hS => ?_)
    refine lv_aload_n hx hb dX3_addMessage_37 rfl (lv_at hl 0 rfl) ?_
    refine lv_dup hx hb dX3_addMessage_38 rfl ?_
    obtain ⟨v12, h1, h⟩ := ob h
    refine rg_3_3 hx hb hts hown hE hM qw_97 h1 dX3_addMessage_39 ?_
    refine lv_iconst (v := 1) hx hb dX3_addMessage_42 (by decide) ?_
    refine lv_iadd hx hb dX3_addMessage_43 ?_
    obtain ⟨M13, h1, h⟩ := ob h
    refine rp_3_3 hx hb hts hown hE hM qw_97 hS h1 dX3_addMessage_44 (fun H locs hM hS => ?_)
    refine W.widen (k := 0) (n := 0) (Nat.le_of_ble_eq_true rfl) (Nat.le_of_ble_eq_true rfl) ?_
    exact tj_X3_addMessage_47  hC hr hlocks hE  h hM hS (lv_sub hl [] rfl)

theorem dd_X3_removeMessage : yX3_removeMessage.cls = RX3 ∧ yX3_removeMessage.cls ≠ "java/lang/invoke/MethodHandle" ∧ yX3_removeMessage.cls ≠ "java/lang/invoke/VarHandle" ∧ (parseMethodDescriptor yX3_removeMessage.desc).map (fun d => d.parameters.length) = some 1 := by decide +kernel
abbrev rm_X3_removeMessage : Room := ({ frames := 0, cells := 0, slots := 0, locals := 0 } : Room)
noncomputable def fj_X3_removeMessage_48 (x0 : Nat) (x2 : Nat) (M : Mem) : Option Mem :=
  (gRn 4 101 x0 M).bind fun v3 =>
  (sBn 10 3 v3 5 x2 M).bind fun M4 =>
  (gI 4 99 x0 M4).bind fun v5 =>
  (sI 4 99 x0 (v5 - 1) M4).bind fun M6 =>
  some M6
set_option maxHeartbeats 4000000 in
set_option maxRecDepth 100000 in
theorem tj_X3_removeMessage_48 {p : Program} {l : Launch} {e : Env} {s : State} {m : MethodId} {args : Array Value} {below : List Frame} {meth : Method} {c : Code} {E : KEnv} {H : Heap} {locs : List Loc} {ls : Array Slot} {x0 : Nat} {x2 : Nat} {M : Mem} {M' : Mem} (hC : CallFix p m c cX3_removeMessage 4 s args lw_G RX3) (hr : meth.sig.returnType = none) (hlocks : meth.locks = false) (hE : EnvOK E s) (h : fj_X3_removeMessage_48 x0 x2 M = some M') (hM : MOK E M H) (hS : va_S (eA E) s.heap H locs) (hl : lv_has ls 4 [(0, .ref x0), (2, .ref x2)]) : W p l e rm_X3_removeMessage s m args below meth c H locs 0 0 (MQ below (cQ E none M') args s 0 0 (eA E)) (F0 m 48 ls []) := by
  obtain ⟨hx, hb, hml, hown, hts⟩ := id hC
  unfold fj_X3_removeMessage_48 at h
  refine lv_aload_n hx hb dX3_removeMessage_48 rfl (lv_at hl 0 rfl) ?_
  obtain ⟨v3, h1, h⟩ := ob h
  refine rgn_3_5 hx hb hts hown hE hM qw_103 h1 dX3_removeMessage_49 ?_
  refine lv_iconst (v := 5) hx hb dX3_removeMessage_52 (by decide) ?_
  refine lv_aload_n hx hb dX3_removeMessage_53 rfl (lv_at hl 1 rfl) ?_
  obtain ⟨M4, h1, h⟩ := ob h
  refine r_astS hx hb hE hM hS h1 dX3_removeMessage_54 (fun H locs hM hS => ?_)
  refine lv_aload_n hx hb dX3_removeMessage_55 rfl (lv_at hl 0 rfl) ?_
  refine lv_dup hx hb dX3_removeMessage_56 rfl ?_
  obtain ⟨v5, h1, h⟩ := ob h
  refine rg_3_3 hx hb hts hown hE hM qw_97 h1 dX3_removeMessage_57 ?_
  refine lv_iconst (v := 1) hx hb dX3_removeMessage_60 (by decide) ?_
  refine lv_isub hx hb dX3_removeMessage_61 ?_
  obtain ⟨M6, h1, h⟩ := ob h
  refine rp_3_3 hx hb hts hown hE hM qw_97 hS h1 dX3_removeMessage_62 (fun H locs hM hS => ?_)
  cases h
  exact eV_ hx hb hr hlocks hM hS dX3_removeMessage_65 (Nat.le_of_ble_eq_true rfl) (Nat.le_of_ble_eq_true rfl)
noncomputable def fc_X3_removeMessage_9 (x0 : Nat) (x2 : Nat) (x3 : Int32) (M : Mem) : Option ((Int32 × Mem) ⊕ Mem) :=
  (if (5 : Int32) ≤ x3 then
  (fj_X3_removeMessage_48 x0 x2 M).map Sum.inr
  else
  (gRn 4 101 x0 M).bind fun v7 =>
  (gRn 4 101 x0 M).bind fun v8 =>
  (gBn 10 v8 (x3 + 1) M).bind fun v9 =>
  (sBn 10 3 v7 x3 v9 M).bind fun M10 =>
  (gRn 4 102 x0 M10).bind fun v11 =>
  (gRn 4 102 x0 M10).bind fun v12 =>
  (gA 9 v12 (x3 + 1) M10).bind fun v13 =>
  (sA 9 v11 x3 v13 M10).bind fun M14 =>
  some (.inl (x3 + 1, M14)))
noncomputable def fj_X3_removeMessage_9 (x0 : Nat) (x2 : Nat) (x3 : Int32) (M : Mem) : Option Mem := loopM (fun q : (Int32 × Mem) => fc_X3_removeMessage_9 x0 x2 q.1 q.2) FU (x3, M)
set_option maxHeartbeats 4000000 in
set_option maxRecDepth 100000 in
theorem tj_X3_removeMessage_9 {p : Program} {l : Launch} {e : Env} {s : State} {m : MethodId} {args : Array Value} {below : List Frame} {meth : Method} {c : Code} {E : KEnv} {H : Heap} {locs : List Loc} {ls : Array Slot} {x0 : Nat} {x2 : Nat} {x3 : Int32} {M : Mem} {M' : Mem} (hC : CallFix p m c cX3_removeMessage 4 s args lw_G RX3) (hr : meth.sig.returnType = none) (hlocks : meth.locks = false) (hE : EnvOK E s) (h : fj_X3_removeMessage_9 x0 x2 x3 M = some M') (hM : MOK E M H) (hS : va_S (eA E) s.heap H locs) (hl : lv_has ls 4 [(0, .ref x0), (2, .ref x2), (3, .int x3)]) : W p l e rm_X3_removeMessage s m args below meth c H locs 0 0 (MQ below (cQ E none M') args s 0 0 (eA E)) (F0 m 9 ls []) := by
  refine loopM_ind (body := fun q : (Int32 × Mem) => fc_X3_removeMessage_9 x0 x2 q.1 q.2) (x0 := M') (Wd := fun q : (Int32 × Mem) => ∀ (H : Heap) (locs : List Loc) (ls : Array Slot), MOK E (q.2) H → va_S (eA E) s.heap H locs → lv_has ls 4 [(0, .ref x0), (2, .ref x2), (3, .int q.1)] → W p l e rm_X3_removeMessage s m args below meth c H locs 0 0 (MQ below (cQ E none M') args s 0 0 (eA E)) (F0 m 9 ls [])) ?_ FU (x3, M) h H locs ls hM hS hl
  clear h hM hS hl H locs ls M x3
  obtain ⟨hx, hb, hml, hown, hts⟩ := id hC
  intro q y1 h hy1 H locs ls hM hS hl
  obtain ⟨x3, M⟩ := q
  have h : fc_X3_removeMessage_9 x0 x2 x3 M = some y1 := h
  have hM : MOK E M H := hM
  have hl : lv_has ls 4 [(0, .ref x0), (2, .ref x2), (3, .int x3)] := hl
  unfold fc_X3_removeMessage_9 at h
  show W p l e rm_X3_removeMessage s m args below meth c H locs _ _ _ _
  refine lv_iload_n hx hb dX3_removeMessage_9 rfl (lv_at hl 2 rfl) ?_
  refine lv_iconst (v := 5) hx hb dX3_removeMessage_10 (by decide) ?_
  refine lv_icmp_ge (tgt := 48) hx hb dX3_removeMessage_11 (by decide) (fun c1 => ?_) (fun c1 => ?_)
  · have h := ifp c1 h
    obtain ⟨z0, h9, rfl⟩ := om h
    have e0 := hy1.2 _ rfl
    subst e0
    have h := h9
    refine W.widen (k := 0) (n := 0) (Nat.le_of_ble_eq_true rfl) (Nat.le_of_ble_eq_true rfl) ?_
    exact tj_X3_removeMessage_48  hC hr hlocks hE  h hM hS (lv_sub hl [0, 1] rfl)
  · have h := ifn c1 h
    refine lv_aload_n hx hb dX3_removeMessage_14 rfl (lv_at hl 0 rfl) ?_
    obtain ⟨v7, h1, h⟩ := ob h
    refine rgn_3_5 hx hb hts hown hE hM qw_103 h1 dX3_removeMessage_15 ?_
    refine lv_iload_n hx hb dX3_removeMessage_18 rfl (lv_at hl 2 rfl) ?_
    refine lv_aload_n hx hb dX3_removeMessage_19 rfl (lv_at hl 0 rfl) ?_
    obtain ⟨v8, h1, h⟩ := ob h
    refine rgn_3_5 hx hb hts hown hE hM qw_103 h1 dX3_removeMessage_20 ?_
    refine lv_iload_n hx hb dX3_removeMessage_23 rfl (lv_at hl 2 rfl) ?_
    refine lv_iconst (v := 1) hx hb dX3_removeMessage_24 (by decide) ?_
    refine lv_iadd hx hb dX3_removeMessage_25 ?_
    obtain ⟨v9, h1, h⟩ := ob h
    refine r_aldnS hx hb hE hM h1 dX3_removeMessage_26 ?_
    obtain ⟨M10, h1, h⟩ := ob h
    refine r_astS hx hb hE hM hS h1 dX3_removeMessage_27 (fun H locs hM hS => ?_)
    refine lv_aload_n hx hb dX3_removeMessage_28 rfl (lv_at hl 0 rfl) ?_
    obtain ⟨v11, h1, h⟩ := ob h
    refine rgn_3_6 hx hb hts hown hE hM qw_106 h1 dX3_removeMessage_29 ?_
    refine lv_iload_n hx hb dX3_removeMessage_32 rfl (lv_at hl 2 rfl) ?_
    refine lv_aload_n hx hb dX3_removeMessage_33 rfl (lv_at hl 0 rfl) ?_
    obtain ⟨v12, h1, h⟩ := ob h
    refine rgn_3_6 hx hb hts hown hE hM qw_106 h1 dX3_removeMessage_34 ?_
    refine lv_iload_n hx hb dX3_removeMessage_37 rfl (lv_at hl 2 rfl) ?_
    refine lv_iconst (v := 1) hx hb dX3_removeMessage_38 (by decide) ?_
    refine lv_iadd hx hb dX3_removeMessage_39 ?_
    obtain ⟨v13, h1, h⟩ := ob h
    refine r_iald hx hb hE hM h1 dX3_removeMessage_40 ?_
    obtain ⟨M14, h1, h⟩ := ob h
    refine r_iast hx hb hE hM hS h1 dX3_removeMessage_41 (fun H locs hM hS => ?_)
    refine lv_iinc (v := x3 + 1) (lv' := [(3, .int (x3 + 1)), (0, .ref x0), (2, .ref x2)]) hx hb dX3_removeMessage_42 hl (k := 2) rfl rfl (by decide) rfl (fun ls hl => ?_)
    refine lv_goto (tgt := 9) hx hb dX3_removeMessage_45 (by decide) ?_
    cases h
    exact hy1.1 _ rfl _ _ _ hM hS (lv_sub hl [1, 2, 0] rfl)
noncomputable def f_X3_removeMessage (this : Nat) (a1 : Int32) (M : Mem) : Option Mem :=
  (gRn 4 101 this M).bind fun v1 =>
  (gBn 10 v1 a1 M).bind fun v2 =>
  fj_X3_removeMessage_9 this v2 a1 M
set_option maxHeartbeats 4000000 in
set_option maxRecDepth 100000 in
theorem mt_X3_removeMessage (l : Launch) (E : KEnv) (this : Nat) (a1 : Int32) (M M' : Mem) (h : f_X3_removeMessage this a1 M = some M') : Met l yX3_removeMessage (Cond.code yX3_removeMessage cX3_removeMessage 4 none :: lw_G) rm_X3_removeMessage (cPc E [.ref this, .int a1] M) (cQ E none M') 0 0 (eA E) := by
  refine Met.ofW (cc := cX3_removeMessage) (maxL := 4) (ret := none) (by decide) rfl ?_
  intro p e s m args below meth c s₁ B hml hv
  obtain ⟨rfl, hE, hM⟩ := hv
  have hx := B.exec
  have hb := B.bytes
  have hr := B.returns
  have hts0 := atoms_spec (ws := Cond.code yX3_removeMessage cX3_removeMessage 4 none :: lw_G) B.pre
  have hts : ∀ w ∈ lw_G, w.before _ s = true := fun w hw => hts0 w (List.mem_cons_of_mem _ hw)
  have hown : s.vm.findClass RX3 = some m.cls := findClass_of_methodNamed B.named
  have hlocks := B.notSynchronized
  have hC : CallFix p m c cX3_removeMessage 4 s _ lw_G RX3 := ⟨hx, hb, hml, hown, hts⟩
  have hS : va_S (eA E) s.heap s.heap [] := va_S.rf
  have hl := lv_entry ([.ref this, .int a1]) (n := 4) (Nat.le_of_ble_eq_true rfl)
  rw [lg_entry_eq]
  generalize (lg_sl ([.ref this, .int a1]) ++ List.replicate (4 - (lg_sl ([.ref this, .int a1])).length) Slot.unset).toArray = ls at hl ⊢
  have hl : lv_has ls 4 [(0, .ref this), (1, .int a1)] := hl
  unfold f_X3_removeMessage at h
  show W p l e rm_X3_removeMessage s m _ below meth c s.heap [] 0 0 _ _
  refine lv_aload_n hx hb dX3_removeMessage_0 rfl (lv_at hl 0 rfl) ?_
  obtain ⟨v1, h1, h⟩ := ob h
  refine rgn_3_5 hx hb hts hown hE hM qw_103 h1 dX3_removeMessage_1 ?_
  refine lv_iload_n hx hb dX3_removeMessage_4 rfl (lv_at hl 1 rfl) ?_
  obtain ⟨v2, h1, h⟩ := ob h
  refine r_aldnS hx hb hE hM h1 dX3_removeMessage_5 ?_
  refine lv_astore_n (lv' := [(2, .ref v2), (0, .ref this), (1, .int a1)]) hx hb dX3_removeMessage_6 rfl hl (by decide) rfl (fun ls hl => ?_)
  refine lv_iload_n hx hb dX3_removeMessage_7 rfl (lv_at hl 2 rfl) ?_
  refine lv_istore_n (lv' := [(3, .int a1), (2, .ref v2), (0, .ref this), (1, .int a1)]) hx hb dX3_removeMessage_8 rfl hl (by decide) rfl (fun ls hl => ?_)
  refine W.widen (k := 0) (n := 0) (Nat.le_of_ble_eq_true rfl) (Nat.le_of_ble_eq_true rfl) ?_
  exact tj_X3_removeMessage_9  hC hr hlocks hE  h hM hS (lv_sub hl [2, 1, 0] rfl)
