/-! printed by wip/p56/gen2.py: methods as functions over the memory, and that the code does what they say -/
abbrev rmq_X4_append : Room := ({ frames := 1, cells := 0, slots := 0, locals := 22 } : Room)
set_option maxHeartbeats 4000000 in
set_option maxRecDepth 100000 in
theorem mq_X4_append (l : Launch) (E : KEnv) (this : Nat) (a1 : Int32) (a2 : Int32) (a3 : Int32) (a4 : Int32) (a5 : Int32) (M M' : Mem) (v : Int32) (h : f_X4_append this a1 a2 a3 a4 a5 M = some (.inl v, M')) : Met l yX4_append (Cond.code yX4_append cX4_append 6 (some .int) :: lw_G) rmq_X4_append (cPc E [.ref this, .int a1, .int a2, .int a3, .int a4, .int a5] M) (cQ E (some (.int v)) M') 0 0 (eA E) := by
  refine Met.ofW (cc := cX4_append) (maxL := 6) (ret := (some .int)) (by decide) rfl ?_
  intro p e s m args below meth c s₁ B hml hv
  obtain ⟨rfl, hE, hM⟩ := hv
  have hx := B.exec
  have hb := B.bytes
  have hr := B.returns
  have hts0 := atoms_spec (ws := Cond.code yX4_append cX4_append 6 (some .int) :: lw_G) B.pre
  have hts : ∀ w ∈ lw_G, w.before _ s = true := fun w hw => hts0 w (List.mem_cons_of_mem _ hw)
  have hown : s.vm.findClass RX4 = some m.cls := findClass_of_methodNamed B.named
  have hlocks := B.notSynchronized
  have hC : CallFix p m c cX4_append 6 s _ lw_G RX4 := ⟨hx, hb, hml, hown, hts⟩
  have hS : va_S (eA E) s.heap s.heap [] := va_S.rf
  have hl := lv_entry ([.ref this, .int a1, .int a2, .int a3, .int a4, .int a5]) (n := 6) (Nat.le_of_ble_eq_true rfl)
  rw [lg_entry_eq]
  generalize (lg_sl ([.ref this, .int a1, .int a2, .int a3, .int a4, .int a5]) ++ List.replicate (6 - (lg_sl ([.ref this, .int a1, .int a2, .int a3, .int a4, .int a5])).length) Slot.unset).toArray = ls at hl ⊢
  have hl : lv_has ls 6 [(0, .ref this), (1, .int a1), (2, .int a2), (3, .int a3), (4, .int a4), (5, .int a5)] := hl
  unfold f_X4_append at h
  show W p l e rmq_X4_append s m _ below meth c s.heap [] 0 0 _ _
  refine lv_aload_n hx hb dX4_append_0 rfl (lv_at hl 0 rfl) ?_
  obtain ⟨v1, h1, h⟩ := ob h
  refine rg_4_1 hx hb hts hown hE hM qw_399 h1 dX4_append_1 ?_
  refine lv_sipush (v := 580) hx hb dX4_append_4 (by decide) ?_
  refine lv_icmp_le (tgt := 20) hx hb dX4_append_7 (by decide) (fun c1 => ?_) (fun c1 => ?_)
  · have h := ifp c1 h
    refine lv_aload_n hx hb dX4_append_20 rfl (lv_at hl 0 rfl) ?_
    refine lv_iload_n hx hb dX4_append_21 rfl (lv_at hl 1 rfl) ?_
    obtain ⟨M3, h1, h⟩ := ob h
    obtain ⟨hk1, h1⟩ := ifg h1
    refine kV0 (ci := 4) (As := [.int a1]) (rest := []) hC hE hS hM (mt_X4_appendWord _ E this a1 _ _ h1) (gwV qw_566 qw_568 qw_23 qw_39 qw_569) ⟨rfl, rfl, (Nat.le_of_ble_eq_true rfl), (Nat.le_of_ble_eq_true rfl)⟩ dd_X4_appendWord rfl hk1 rfl rfl hl.1 (Nat.le_of_ble_eq_true rfl) dX4_append_22 ⟨(Nat.le_of_ble_eq_true rfl), (Nat.le_of_ble_eq_true rfl)⟩ (fun H locs hM hS => ?_)
    refine lv_aload_n hx hb dX4_append_25 rfl (lv_at hl 0 rfl) ?_
    refine lv_iload_n hx hb dX4_append_26 rfl (lv_at hl 2 rfl) ?_
    obtain ⟨M5, h1, h⟩ := ob h
    obtain ⟨hk1, h1⟩ := ifg h1
    refine kV0 (ci := 4) (As := [.int a2]) (rest := []) hC hE hS hM (mt_X4_appendWord _ E this a2 _ _ h1) (gwV qw_566 qw_568 qw_23 qw_39 qw_569) ⟨rfl, rfl, (Nat.le_of_ble_eq_true rfl), (Nat.le_of_ble_eq_true rfl)⟩ dd_X4_appendWord rfl hk1 rfl rfl hl.1 (Nat.le_of_ble_eq_true rfl) dX4_append_27 ⟨(Nat.le_of_ble_eq_true rfl), (Nat.le_of_ble_eq_true rfl)⟩ (fun H locs hM hS => ?_)
    refine lv_aload_n hx hb dX4_append_30 rfl (lv_at hl 0 rfl) ?_
    refine lv_iload_n hx hb dX4_append_31 rfl (lv_at hl 3 rfl) ?_
    obtain ⟨M7, h1, h⟩ := ob h
    obtain ⟨hk1, h1⟩ := ifg h1
    refine kV0 (ci := 4) (As := [.int a3]) (rest := []) hC hE hS hM (mt_X4_appendWord _ E this a3 _ _ h1) (gwV qw_566 qw_568 qw_23 qw_39 qw_569) ⟨rfl, rfl, (Nat.le_of_ble_eq_true rfl), (Nat.le_of_ble_eq_true rfl)⟩ dd_X4_appendWord rfl hk1 rfl rfl hl.1 (Nat.le_of_ble_eq_true rfl) dX4_append_32 ⟨(Nat.le_of_ble_eq_true rfl), (Nat.le_of_ble_eq_true rfl)⟩ (fun H locs hM hS => ?_)
    refine lv_aload_n hx hb dX4_append_35 rfl (lv_at hl 0 rfl) ?_
    refine lv_iload hx hb dX4_append_36 (lv_at hl 4 rfl) ?_
    obtain ⟨M9, h1, h⟩ := ob h
    obtain ⟨hk1, h1⟩ := ifg h1
    refine kV0 (ci := 4) (As := [.int a4]) (rest := []) hC hE hS hM (mt_X4_appendWord _ E this a4 _ _ h1) (gwV qw_566 qw_568 qw_23 qw_39 qw_569) ⟨rfl, rfl, (Nat.le_of_ble_eq_true rfl), (Nat.le_of_ble_eq_true rfl)⟩ dd_X4_appendWord rfl hk1 rfl rfl hl.1 (Nat.le_of_ble_eq_true rfl) dX4_append_38 ⟨(Nat.le_of_ble_eq_true rfl), (Nat.le_of_ble_eq_true rfl)⟩ (fun H locs hM hS => ?_)
    refine lv_aload_n hx hb dX4_append_41 rfl (lv_at hl 0 rfl) ?_
    refine lv_iload hx hb dX4_append_42 (lv_at hl 5 rfl) ?_
    obtain ⟨M11, h1, h⟩ := ob h
    obtain ⟨hk1, h1⟩ := ifg h1
    refine kV0 (ci := 4) (As := [.int a5]) (rest := []) hC hE hS hM (mt_X4_appendWord _ E this a5 _ _ h1) (gwV qw_566 qw_568 qw_23 qw_39 qw_569) ⟨rfl, rfl, (Nat.le_of_ble_eq_true rfl), (Nat.le_of_ble_eq_true rfl)⟩ dd_X4_appendWord rfl hk1 rfl rfl hl.1 (Nat.le_of_ble_eq_true rfl) dX4_append_44 ⟨(Nat.le_of_ble_eq_true rfl), (Nat.le_of_ble_eq_true rfl)⟩ (fun H locs hM hS => ?_)
    refine lv_aload_n hx hb dX4_append_47 rfl (lv_at hl 0 rfl) ?_
    obtain ⟨v12, h1, h⟩ := ob h
    refine rg_4_1 hx hb hts hown hE hM qw_399 h1 dX4_append_48 ?_
    cases h
    exact eI hx hb hr hlocks hM hS dX4_append_51 (Nat.le_of_ble_eq_true rfl) (Nat.le_of_ble_eq_true rfl)
  · have h := ifn c1 h
    cases h

abbrev rmq_X4_load : Room := ({ frames := 7, cells := 1, slots := 8, locals := 227 } : Room)
set_option maxHeartbeats 4000000 in
set_option maxRecDepth 100000 in
theorem tq_X4_load_12 {p : Program} {l : Launch} {e : Env} {s : State} {m : MethodId} {args : Array Value} {below : List Frame} {meth : Method} {c : Code} {E : KEnv} {H : Heap} {locs : List Loc} {ls : Array Slot}  {M : Mem} {v : Int32} {M' : Mem} (hC : CallFix p m c cX4_load 5 s args lw_G RX4) (hr : meth.sig.returnType = (some .int)) (hlocks : meth.locks = false) (hE : EnvOK E s) (h : fj_X4_load_12  M = some (.inl v, M')) (hM : MOK E M H) (hS : va_S (eA E) s.heap H locs) (hl : lv_has ls 5 []) : W p l e rmq_X4_load s m args below meth c H locs 0 0 (MQ below (cQ E (some (.int v)) M') args s 1 8 (eA E)) (F0 m 12 ls []) := by
  obtain ⟨hx, hb, hml, hown, hts⟩ := id hC
  unfold fj_X4_load_12 at h
  cases h
set_option maxHeartbeats 4000000 in
set_option maxRecDepth 100000 in
theorem tq_X4_load_129 {p : Program} {l : Launch} {e : Env} {s : State} {m : MethodId} {args : Array Value} {below : List Frame} {meth : Method} {c : Code} {E : KEnv} {H : Heap} {locs : List Loc} {ls : Array Slot} {x0 : Nat} {M : Mem} {v : Int32} {M' : Mem} (hC : CallFix p m c cX4_load 5 s args lw_G RX4) (hr : meth.sig.returnType = (some .int)) (hlocks : meth.locks = false) (hE : EnvOK E s) (h : fj_X4_load_129 x0 M = some (.inl v, M')) (hM : MOK E M H) (hS : va_S (eA E) s.heap H locs) (hl : lv_has ls 5 [(0, .ref x0)]) : W p l e rmq_X4_load s m args below meth c H locs 1 8 (MQ below (cQ E (some (.int v)) M') args s 1 8 (eA E)) (F0 m 129 ls []) := by
  obtain ⟨hx, hb, hml, hown, hts⟩ := id hC
  unfold fj_X4_load_129 at h
  refine lv_aload_n hx hb dX4_load_129 rfl (lv_at hl 0 rfl) ?_
  obtain ⟨v23, h1, h⟩ := ob h
  refine rgn_4_6 hx hb hts hown hE hM qw_404 h1 dX4_load_130 ?_
  obtain ⟨v24, h1, h⟩ := ob h
  refine rg_3_0 hx hb hts hown hE hM qw_89 h1 dX4_load_133 ?_
  cases h
  exact eI hx hb hr hlocks hM hS dX4_load_136 (Nat.le_of_ble_eq_true rfl) (Nat.le_of_ble_eq_true rfl)
set_option maxHeartbeats 4000000 in
set_option maxRecDepth 100000 in
theorem tq_X4_load_109 {p : Program} {l : Launch} {e : Env} {s : State} {m : MethodId} {args : Array Value} {below : List Frame} {meth : Method} {c : Code} {E : KEnv} {H : Heap} {locs : List Loc} {ls : Array Slot} {x0 : Nat} {x4 : Int32} {M : Mem} {v : Int32} {M' : Mem} (hC : CallFix p m c cX4_load 5 s args lw_G RX4) (hr : meth.sig.returnType = (some .int)) (hlocks : meth.locks = false) (hE : EnvOK E s) (h : fj_X4_load_109 x0 x4 M = some (.inl v, M')) (hM : MOK E M H) (hS : va_S (eA E) s.heap H locs) (hl : lv_has ls 5 [(0, .ref x0), (4, .int x4)]) : W p l e rmq_X4_load s m args below meth c H locs 1 8 (MQ below (cQ E (some (.int v)) M') args s 1 8 (eA E)) (F0 m 109 ls []) := by
  refine loopM_ind (body := fun q : (Int32 × Mem) => fc_X4_load_109 x0 q.1 q.2) (x0 := (.inl v, M')) (Wd := fun q : (Int32 × Mem) => ∀ (H : Heap) (locs : List Loc) (ls : Array Slot), MOK E (q.2) H → va_S (eA E) s.heap H locs → lv_has ls 5 [(0, .ref x0), (4, .int q.1)] → W p l e rmq_X4_load s m args below meth c H locs 1 8 (MQ below (cQ E (some (.int v)) M') args s 1 8 (eA E)) (F0 m 109 ls [])) ?_ FU (x4, M) h H locs ls hM hS hl
  clear h hM hS hl H locs ls M x4
  obtain ⟨hx, hb, hml, hown, hts⟩ := id hC
  intro q y1 h hy1 H locs ls hM hS hl
  obtain ⟨x4, M⟩ := q
  have h : fc_X4_load_109 x0 x4 M = some y1 := h
  have hM : MOK E M H := hM
  have hl : lv_has ls 5 [(0, .ref x0), (4, .int x4)] := hl
  unfold fc_X4_load_109 at h
  show W p l e rmq_X4_load s m args below meth c H locs _ _ _ _
  refine lv_iload hx hb dX4_load_109 (lv_at hl 1 rfl) ?_
  refine lv_iconst (v := 2) hx hb dX4_load_111 (by decide) ?_
  refine lv_icmp_ge (tgt := 129) hx hb dX4_load_112 (by decide) (fun c1 => ?_) (fun c1 => ?_)
  · have h := ifp c1 h
    obtain ⟨z0, h9, rfl⟩ := om h
    have e0 := hy1.2 _ rfl
    subst e0
    have h := h9
    refine W.widen (k := 1) (n := 8) (Nat.le_of_ble_eq_true rfl) (Nat.le_of_ble_eq_true rfl) ?_
    exact tq_X4_load_129  hC hr hlocks hE  h hM hS (lv_sub hl [0] rfl)
  · have h := ifn c1 h
    refine lv_aload_n hx hb dX4_load_115 rfl (lv_at hl 0 rfl) ?_
    obtain ⟨v25, h1, h⟩ := ob h
    refine rgn_4_9 hx hb hts hown hE hM qw_407 h1 dX4_load_116 ?_
    refine lv_iload hx hb dX4_load_119 (lv_at hl 1 rfl) ?_
    refine lv_null hx hb dX4_load_121 ?_
    obtain ⟨M26, h1, h⟩ := ob h
    refine r_ast0W hx hb hE hM hS h1 dX4_load_122 (fun H locs hM hS => ?_)
    refine lv_iinc (v := x4 + 1) (lv' := [(4, .int (x4 + 1)), (0, .ref x0)]) hx hb dX4_load_123 hl (k := 1) rfl rfl (by decide) rfl (fun ls hl => ?_)
    refine lv_goto (tgt := 109) hx hb dX4_load_126 (by decide) ?_
    cases h
    exact hy1.1 _ rfl _ _ _ hM hS (lv_sub hl [1, 0] rfl)
set_option maxHeartbeats 4000000 in
set_option maxRecDepth 100000 in
theorem mq_X4_load (l : Launch) (E : KEnv) (this : Nat) (a1 : Int32) (M M' : Mem) (v : Int32) (h : f_X4_load this a1 M = some (.inl v, M')) : Met l yX4_load (Cond.code yX4_load cX4_load 5 (some .int) :: lw_G) rmq_X4_load (cPc E [.ref this, .int a1] M) (cQ E (some (.int v)) M') 1 8 (eA E) := by
  refine Met.ofW (cc := cX4_load) (maxL := 5) (ret := (some .int)) (by decide) rfl ?_
  intro p e s m args below meth c s₁ B hml hv
  obtain ⟨rfl, hE, hM⟩ := hv
  have hx := B.exec
  have hb := B.bytes
  have hr := B.returns
  have hts0 := atoms_spec (ws := Cond.code yX4_load cX4_load 5 (some .int) :: lw_G) B.pre
  have hts : ∀ w ∈ lw_G, w.before _ s = true := fun w hw => hts0 w (List.mem_cons_of_mem _ hw)
  have hown : s.vm.findClass RX4 = some m.cls := findClass_of_methodNamed B.named
  have hlocks := B.notSynchronized
  have hC : CallFix p m c cX4_load 5 s _ lw_G RX4 := ⟨hx, hb, hml, hown, hts⟩
  have hS : va_S (eA E) s.heap s.heap [] := va_S.rf
  have hl := lv_entry ([.ref this, .int a1]) (n := 5) (Nat.le_of_ble_eq_true rfl)
  rw [lg_entry_eq]
  generalize (lg_sl ([.ref this, .int a1]) ++ List.replicate (5 - (lg_sl ([.ref this, .int a1])).length) Slot.unset).toArray = ls at hl ⊢
  have hl : lv_has ls 5 [(0, .ref this), (1, .int a1)] := hl
  unfold f_X4_load at h
  show W p l e rmq_X4_load s m _ below meth c s.heap [] 0 0 _ _
  refine lv_iload_n hx hb dX4_load_0 rfl (lv_at hl 1 rfl) ?_
  refine lv_if_lt (tgt := 12) hx hb dX4_load_1 (by decide) (fun c1 => ?_) (fun c1 => ?_)
  · have h := ifp c1 h
    refine W.widen (k := 0) (n := 0) (Nat.le_of_ble_eq_true rfl) (Nat.le_of_ble_eq_true rfl) ?_
    exact tq_X4_load_12  hC hr hlocks hE  h hM hS (lv_sub hl [] rfl)
  · have h := ifn c1 h
    refine lv_iload_n hx hb dX4_load_4 rfl (lv_at hl 1 rfl) ?_
    refine lv_aload_n hx hb dX4_load_5 rfl (lv_at hl 0 rfl) ?_
    obtain ⟨v1, h1, h⟩ := ob h
    refine rg_4_1 hx hb hts hown hE hM qw_399 h1 dX4_load_6 ?_
    refine lv_icmp_le (tgt := 22) hx hb dX4_load_9 (by decide) (fun c1 => ?_) (fun c1 => ?_)
    · have h := ifp c1 h
      obtain ⟨v2, M3, eq, eM, h⟩ := obnew h
      refine rn_1 hx hb hts hown hE hM hS qw_144 qw_145 qw_43 eq eM (Nat.le_of_ble_eq_true rfl) (Nat.le_of_ble_eq_true rfl) dX4_load_22 (fun H hM hS => ?_)
      refine lv_dup hx hb dX4_load_25 rfl ?_
      refine lv_aload_n hx hb dX4_load_26 rfl (lv_at hl 0 rfl) ?_
      obtain ⟨v4, h1, h⟩ := ob h
      refine rgn_4_0 hx hb hts hown hE hM qw_398 h1 dX4_load_27 ?_
      refine lv_iload_n hx hb dX4_load_30 rfl (lv_at hl 1 rfl) ?_
      refine lv_aload_n hx hb dX4_load_31 rfl (lv_at hl 0 rfl) ?_
      obtain ⟨v5, h1, h⟩ := ob h
      refine rgn_4_7 hx hb hts hown hE hM qw_405 h1 dX4_load_32 ?_
      obtain ⟨M7, h1, h⟩ := ob h
      refine kI (As := [.ref v4, .int a1, .ref v5]) (rest := [.ref v2]) hC hE hS hM (mt_X1_init _ E v2 v4 a1 v5 _ _ h1) qw_202 qw_200 qw_201 qw_43 ⟨rfl, rfl, (Nat.le_of_ble_eq_true rfl), (Nat.le_of_ble_eq_true rfl)⟩ dd_X1_init.2 rfl rfl rfl hl.1 (Nat.le_of_ble_eq_true rfl) dX4_load_35 ⟨(Nat.le_of_ble_eq_true rfl), (Nat.le_of_ble_eq_true rfl)⟩ (fun H locs hM hS => ?_)
      refine lv_astore_n (lv' := [(2, .ref v2), (0, .ref this), (1, .int a1)]) hx hb dX4_load_38 rfl hl (by decide) rfl (fun ls hl => ?_)
      refine lv_aload_n hx hb dX4_load_39 rfl (lv_at hl 0 rfl) ?_
      obtain ⟨M9, h1, h⟩ := ob h
      obtain ⟨hk1, h1⟩ := ifg h1
      refine kV0 (ci := 1) (As := []) (rest := []) hC hE hS hM (mt_X1_parse _ E v2 _ _ h1) (gwV qw_232 qw_233 qw_234 qw_43 qw_235) ⟨rfl, rfl, (Nat.le_of_ble_eq_true rfl), (Nat.le_of_ble_eq_true rfl)⟩ dd_X1_parse rfl hk1 rfl rfl hl.1 (Nat.le_of_ble_eq_true rfl) dX4_load_40 ⟨(Nat.le_of_ble_eq_true rfl), (Nat.le_of_ble_eq_true rfl)⟩ (fun H locs hM hS => ?_)
      refine lv_aload_n hx hb dX4_load_43 rfl (lv_at hl 1 rfl) ?_
      refine lv_iconst (v := 0) hx hb dX4_load_44 (by decide) ?_
      obtain ⟨M10, h1, h⟩ := ob h
      refine rp_4_1 hx hb hts hown hE hM qw_399 hS h1 dX4_load_45 (fun H locs hM hS => ?_)
      refine lv_aload_n hx hb dX4_load_48 rfl (lv_at hl 1 rfl) ?_
      refine lv_aload_n hx hb dX4_load_49 rfl (lv_at hl 0 rfl) ?_
      obtain ⟨v11, h1, h⟩ := ob h
      refine rg_1_6 hx hb hts hown hE hM qw_211 h1 dX4_load_50 ?_
      obtain ⟨M12, h1, h⟩ := ob h
      refine rp_4_2 hx hb hts hown hE hM qw_400 hS h1 dX4_load_53 (fun H locs hM hS => ?_)
      refine lv_aload_n hx hb dX4_load_56 rfl (lv_at hl 1 rfl) ?_
      refine lv_aload_n hx hb dX4_load_57 rfl (lv_at hl 0 rfl) ?_
      obtain ⟨v13, h1, h⟩ := ob h
      refine rg_1_7 hx hb hts hown hE hM qw_213 h1 dX4_load_58 ?_
      obtain ⟨M14, h1, h⟩ := ob h
      refine rp_4_3 hx hb hts hown hE hM qw_401 hS h1 dX4_load_61 (fun H locs hM hS => ?_)
      refine lv_aload_n hx hb dX4_load_64 rfl (lv_at hl 1 rfl) ?_
      obtain ⟨v15, h1, h⟩ := ob h
      refine rg_4_2 hx hb hts hown hE hM qw_400 h1 dX4_load_65 ?_
      refine lv_if_eq (tgt := 81) hx hb dX4_load_68 (by decide) (fun c1 => ?_) (fun c1 => ?_)
      · have h := ifp c1 h
        refine lv_aload_n hx hb dX4_load_81 rfl (lv_at hl 1 rfl) ?_
        obtain ⟨v16, h1, h⟩ := ob h
        refine rgn_4_6 hx hb hts hown hE hM qw_404 h1 dX4_load_82 ?_
        refine lv_astore_n (lv' := [(3, .ref v16), (2, .ref v2), (0, .ref this), (1, .int a1)]) hx hb dX4_load_85 rfl hl (by decide) rfl (fun ls hl => ?_)
        refine lv_aload_n hx hb dX4_load_86 rfl (lv_at hl 2 rfl) ?_
        refine lv_aload_n hx hb dX4_load_87 rfl (lv_at hl 2 rfl) ?_
        obtain ⟨v17, h1, h⟩ := ob h
        refine rgn_4_7 hx hb hts hown hE hM qw_405 h1 dX4_load_88 ?_
        obtain ⟨M18, h1, h⟩ := ob h
        refine rp_4_6 hx hb hts hown hE hM qw_404 hS h1 dX4_load_91 (fun H locs hM hS => ?_)
        refine lv_aload_n hx hb dX4_load_94 rfl (lv_at hl 2 rfl) ?_
        refine lv_aload_n hx hb dX4_load_95 rfl (lv_at hl 0 rfl) ?_
        obtain ⟨M19, h1, h⟩ := ob h
        refine rp_4_7 hx hb hts hown hE hM qw_405 hS h1 dX4_load_96 (fun H locs hM hS => ?_)
        refine lv_aload_n hx hb dX4_load_99 rfl (lv_at hl 2 rfl) ?_
        obtain ⟨v20, h1, h⟩ := ob h
        refine rgn_4_8 hx hb hts hown hE hM qw_406 h1 dX4_load_100 ?_
        obtain ⟨M22, h1, h⟩ := ob h
        obtain ⟨hk1, h1⟩ := ifg h1
        refine kV0 (ci := 0) (As := []) (rest := []) hC hE hS hM (mt_X0_forget _ E v20 _ _ h1) (gwV qw_591 qw_592 qw_593 qw_42 qw_594) ⟨rfl, rfl, (Nat.le_of_ble_eq_true rfl), (Nat.le_of_ble_eq_true rfl)⟩ dd_X0_forget rfl hk1 rfl rfl hl.1 (Nat.le_of_ble_eq_true rfl) dX4_load_103 ⟨(Nat.le_of_ble_eq_true rfl), (Nat.le_of_ble_eq_true rfl)⟩ (fun H locs hM hS => ?_)
        refine lv_iconst (v := 0) hx hb dX4_load_106 (by decide) ?_
        refine lv_istore (lv' := [(4, .int 0), (3, .ref v16), (2, .ref v2), (0, .ref this), (1, .int a1)]) hx hb dX4_load_107 hl (by decide) rfl (fun ls hl => ?_)
        refine W.widen (k := 1) (n := 8) (Nat.le_of_ble_eq_true rfl) (Nat.le_of_ble_eq_true rfl) ?_
        exact tq_X4_load_109  hC hr hlocks hE  h hM hS (lv_sub hl [3, 0] rfl)
      · have h := ifn c1 h
        cases h
    · have h := ifn c1 h
      refine W.widen (k := 0) (n := 0) (Nat.le_of_ble_eq_true rfl) (Nat.le_of_ble_eq_true rfl) ?_
      exact tq_X4_load_12  hC hr hlocks hE  h hM hS (lv_sub hl [] rfl)

abbrev rmq_X4_requireReplica : Room := ({ frames := 0, cells := 0, slots := 0, locals := 0 } : Room)
set_option maxHeartbeats 4000000 in
set_option maxRecDepth 100000 in
theorem tq_X4_requireReplica_15 {p : Program} {l : Launch} {e : Env} {s : State} {m : MethodId} {args : Array Value} {below : List Frame} {meth : Method} {c : Code} {E : KEnv} {H : Heap} {locs : List Loc} {ls : Array Slot}  {M : Mem} {M' : Mem} (hC : CallFix p m c cX4_requireReplica 2 s args lw_G RX4) (hr : meth.sig.returnType = none) (hlocks : meth.locks = false) (hE : EnvOK E s) (h : fj_X4_requireReplica_15  M = some (.inl (), M')) (hM : MOK E M H) (hS : va_S (eA E) s.heap H locs) (hl : lv_has ls 2 []) : W p l e rmq_X4_requireReplica s m args below meth c H locs 0 0 (MQ below (cQ E none M') args s 0 0 (eA E)) (F0 m 15 ls []) := by
  obtain ⟨hx, hb, hml, hown, hts⟩ := id hC
  unfold fj_X4_requireReplica_15 at h
  cases h
set_option maxHeartbeats 4000000 in
set_option maxRecDepth 100000 in
theorem mq_X4_requireReplica (l : Launch) (E : KEnv) (this : Nat) (a1 : Int32) (M M' : Mem) (h : f_X4_requireReplica this a1 M = some (.inl (), M')) : Met l yX4_requireReplica (Cond.code yX4_requireReplica cX4_requireReplica 2 none :: lw_G) rmq_X4_requireReplica (cPc E [.ref this, .int a1] M) (cQ E none M') 0 0 (eA E) := by
  refine Met.ofW (cc := cX4_requireReplica) (maxL := 2) (ret := none) (by decide) rfl ?_
  intro p e s m args below meth c s₁ B hml hv
  obtain ⟨rfl, hE, hM⟩ := hv
  have hx := B.exec
  have hb := B.bytes
  have hr := B.returns
  have hts0 := atoms_spec (ws := Cond.code yX4_requireReplica cX4_requireReplica 2 none :: lw_G) B.pre
  have hts : ∀ w ∈ lw_G, w.before _ s = true := fun w hw => hts0 w (List.mem_cons_of_mem _ hw)
  have hown : s.vm.findClass RX4 = some m.cls := findClass_of_methodNamed B.named
  have hlocks := B.notSynchronized
  have hC : CallFix p m c cX4_requireReplica 2 s _ lw_G RX4 := ⟨hx, hb, hml, hown, hts⟩
  have hS : va_S (eA E) s.heap s.heap [] := va_S.rf
  have hl := lv_entry ([.ref this, .int a1]) (n := 2) (Nat.le_of_ble_eq_true rfl)
  rw [lg_entry_eq]
  generalize (lg_sl ([.ref this, .int a1]) ++ List.replicate (2 - (lg_sl ([.ref this, .int a1])).length) Slot.unset).toArray = ls at hl ⊢
  have hl : lv_has ls 2 [(0, .ref this), (1, .int a1)] := hl
  unfold f_X4_requireReplica at h
  show W p l e rmq_X4_requireReplica s m _ below meth c s.heap [] 0 0 _ _
  refine lv_iload_n hx hb dX4_requireReplica_0 rfl (lv_at hl 1 rfl) ?_
  refine lv_if_lt (tgt := 15) hx hb dX4_requireReplica_1 (by decide) (fun c1 => ?_) (fun c1 => ?_)
  · have h := ifp c1 h
    refine W.widen (k := 0) (n := 0) (Nat.le_of_ble_eq_true rfl) (Nat.le_of_ble_eq_true rfl) ?_
    exact tq_X4_requireReplica_15  hC hr hlocks hE  h hM hS (lv_sub hl [] rfl)
  · have h := ifn c1 h
    refine lv_iload_n hx hb dX4_requireReplica_4 rfl (lv_at hl 1 rfl) ?_
    refine lv_aload_n hx hb dX4_requireReplica_5 rfl (lv_at hl 0 rfl) ?_
    obtain ⟨v1, h1, h⟩ := ob h
    refine rgn_4_6 hx hb hts hown hE hM qw_404 h1 dX4_requireReplica_6 ?_
    obtain ⟨v2, h1, h⟩ := ob h
    refine rg_3_0 hx hb hts hown hE hM qw_89 h1 dX4_requireReplica_9 ?_
    refine lv_icmp_lt (tgt := 26) hx hb dX4_requireReplica_12 (by decide) (fun c1 => ?_) (fun c1 => ?_)
    · have h := ifp c1 h
      cases h
      exact eV_ hx hb hr hlocks hM hS dX4_requireReplica_26 (Nat.le_of_ble_eq_true rfl) (Nat.le_of_ble_eq_true rfl)
    · have h := ifn c1 h
      refine W.widen (k := 0) (n := 0) (Nat.le_of_ble_eq_true rfl) (Nat.le_of_ble_eq_true rfl) ?_
      exact tq_X4_requireReplica_15  hC hr hlocks hE  h hM hS (lv_sub hl [] rfl)

abbrev rmq_X4_stateOf : Room := ({ frames := 1, cells := 0, slots := 0, locals := 21 } : Room)
set_option maxHeartbeats 4000000 in
set_option maxRecDepth 100000 in
theorem mq_X4_stateOf (l : Launch) (E : KEnv) (this : Nat) (a1 : Int32) (M M' : Mem) (v : Nat) (h : f_X4_stateOf this a1 M = some (.inl v, M')) : Met l yX4_stateOf (Cond.code yX4_stateOf cX4_stateOf 2 (some (.object "OfflineNotes$State")) :: lw_G) rmq_X4_stateOf (cPc E [.ref this, .int a1] M) (cQ E (some (.ref v)) M') 0 0 (eA E) := by
  refine Met.ofW (cc := cX4_stateOf) (maxL := 2) (ret := (some (.object "OfflineNotes$State"))) (by decide) rfl ?_
  intro p e s m args below meth c s₁ B hml hv
  obtain ⟨rfl, hE, hM⟩ := hv
  have hx := B.exec
  have hb := B.bytes
  have hr := B.returns
  have hts0 := atoms_spec (ws := Cond.code yX4_stateOf cX4_stateOf 2 (some (.object "OfflineNotes$State")) :: lw_G) B.pre
  have hts : ∀ w ∈ lw_G, w.before _ s = true := fun w hw => hts0 w (List.mem_cons_of_mem _ hw)
  have hown : s.vm.findClass RX4 = some m.cls := findClass_of_methodNamed B.named
  have hlocks := B.notSynchronized
  have hC : CallFix p m c cX4_stateOf 2 s _ lw_G RX4 := ⟨hx, hb, hml, hown, hts⟩
  have hS : va_S (eA E) s.heap s.heap [] := va_S.rf
  have hl := lv_entry ([.ref this, .int a1]) (n := 2) (Nat.le_of_ble_eq_true rfl)
  rw [lg_entry_eq]
  generalize (lg_sl ([.ref this, .int a1]) ++ List.replicate (2 - (lg_sl ([.ref this, .int a1])).length) Slot.unset).toArray = ls at hl ⊢
  have hl : lv_has ls 2 [(0, .ref this), (1, .int a1)] := hl
  unfold f_X4_stateOf at h
  show W p l e rmq_X4_stateOf s m _ below meth c s.heap [] 0 0 _ _
  refine lv_aload_n hx hb dX4_stateOf_0 rfl (lv_at hl 0 rfl) ?_
  refine lv_iload_n hx hb dX4_stateOf_1 rfl (lv_at hl 1 rfl) ?_
  rcases obx h with ⟨v1, M2, h1, h⟩ | ⟨ex, M9, h1, h⟩
  rotate_left
  · exfalso
    cases h
  obtain ⟨hk1, h1⟩ := ifg h1
  refine kV0 (ci := 4) (As := [.int a1]) (rest := []) hC hE hS hM (mq_X4_requireReplica _ E this a1 _ _ h1) (gwV qw_623 qw_625 qw_26 qw_39 qw_626) ⟨rfl, rfl, (Nat.le_of_ble_eq_true rfl), (Nat.le_of_ble_eq_true rfl)⟩ dd_X4_requireReplica rfl hk1 rfl rfl hl.1 (Nat.le_of_ble_eq_true rfl) dX4_stateOf_2 ⟨(Nat.le_of_ble_eq_true rfl), (Nat.le_of_ble_eq_true rfl)⟩ (fun H locs hM hS => ?_)
  refine lv_aload_n hx hb dX4_stateOf_5 rfl (lv_at hl 0 rfl) ?_
  obtain ⟨v3, h1, h⟩ := ob h
  refine rgn_4_6 hx hb hts hown hE hM qw_404 h1 dX4_stateOf_6 ?_
  obtain ⟨v4, h1, h⟩ := ob h
  refine rgn_3_4 hx hb hts hown hE hM qw_102 h1 dX4_stateOf_9 ?_
  refine lv_iload_n hx hb dX4_stateOf_12 rfl (lv_at hl 1 rfl) ?_
  obtain ⟨v5, h1, h⟩ := ob h
  refine r_aldnS hx hb hE hM h1 dX4_stateOf_13 ?_
  cases h
  exact eR hx hb hr (by first | exact Or.inl ⟨_, rfl⟩ | exact Or.inr ⟨_, rfl⟩) hlocks hM hS dX4_stateOf_14 (Nat.le_of_ble_eq_true rfl) (Nat.le_of_ble_eq_true rfl)

abbrev rmq_X4_versionEntry : Room := ({ frames := 2, cells := 0, slots := 0, locals := 42 } : Room)
set_option maxHeartbeats 4000000 in
set_option maxRecDepth 100000 in
theorem mq_X4_versionEntry (l : Launch) (E : KEnv) (this : Nat) (a1 : Int32) (a2 : Int32) (M M' : Mem) (v : Int32) (h : f_X4_versionEntry this a1 a2 M = some (.inl v, M')) : Met l yX4_versionEntry (Cond.code yX4_versionEntry cX4_versionEntry 4 (some .int) :: lw_G) rmq_X4_versionEntry (cPc E [.ref this, .int a1, .int a2] M) (cQ E (some (.int v)) M') 0 0 (eA E) := by
  refine Met.ofW (cc := cX4_versionEntry) (maxL := 4) (ret := (some .int)) (by decide) rfl ?_
  intro p e s m args below meth c s₁ B hml hv
  obtain ⟨rfl, hE, hM⟩ := hv
  have hx := B.exec
  have hb := B.bytes
  have hr := B.returns
  have hts0 := atoms_spec (ws := Cond.code yX4_versionEntry cX4_versionEntry 4 (some .int) :: lw_G) B.pre
  have hts : ∀ w ∈ lw_G, w.before _ s = true := fun w hw => hts0 w (List.mem_cons_of_mem _ hw)
  have hown : s.vm.findClass RX4 = some m.cls := findClass_of_methodNamed B.named
  have hlocks := B.notSynchronized
  have hC : CallFix p m c cX4_versionEntry 4 s _ lw_G RX4 := ⟨hx, hb, hml, hown, hts⟩
  have hS : va_S (eA E) s.heap s.heap [] := va_S.rf
  have hl := lv_entry ([.ref this, .int a1, .int a2]) (n := 4) (Nat.le_of_ble_eq_true rfl)
  rw [lg_entry_eq]
  generalize (lg_sl ([.ref this, .int a1, .int a2]) ++ List.replicate (4 - (lg_sl ([.ref this, .int a1, .int a2])).length) Slot.unset).toArray = ls at hl ⊢
  have hl : lv_has ls 4 [(0, .ref this), (1, .int a1), (2, .int a2)] := hl
  unfold f_X4_versionEntry at h
  show W p l e rmq_X4_versionEntry s m _ below meth c s.heap [] 0 0 _ _
  refine lv_aload_n hx hb dX4_versionEntry_0 rfl (lv_at hl 0 rfl) ?_
  refine lv_iload_n hx hb dX4_versionEntry_1 rfl (lv_at hl 1 rfl) ?_
  rcases obx h with ⟨v1, M2, h1, h⟩ | ⟨ex, M9, h1, h⟩
  rotate_left
  · exfalso
    cases h
  obtain ⟨hk1, h1⟩ := ifg h1
  refine kV1 (ci := 4) (As := [.int a1]) (rest := []) hC hE hS hM (mq_X4_stateOf _ E this a1 _ _ _ h1) (gwV qw_619 qw_621 qw_25 qw_39 qw_622) ⟨rfl, rfl, (Nat.le_of_ble_eq_true rfl), (Nat.le_of_ble_eq_true rfl)⟩ dd_X4_stateOf rfl hk1 rfl rfl hl.1 (Nat.le_of_ble_eq_true rfl) dX4_versionEntry_2 ⟨(Nat.le_of_ble_eq_true rfl), (Nat.le_of_ble_eq_true rfl)⟩ (fun H locs hM hS => ?_)
  refine lv_astore_n (lv' := [(3, .ref v1), (0, .ref this), (1, .int a1), (2, .int a2)]) hx hb dX4_versionEntry_5 rfl hl (by decide) rfl (fun ls hl => ?_)
  refine lv_aload_n hx hb dX4_versionEntry_6 rfl (lv_at hl 1 rfl) ?_
  refine lv_iload_n hx hb dX4_versionEntry_7 rfl (lv_at hl 3 rfl) ?_
  rcases obx h with ⟨v3, M4, h1, h⟩ | ⟨ex, M9, h1, h⟩
  rotate_left
  · exfalso
    cases h
  obtain ⟨hk1, h1⟩ := ifg h1
  refine kV0 (ci := 4) (As := [.int a2]) (rest := []) hC hE hS hM (mq_X4_requireReplica _ E this a2 _ _ h1) (gwV qw_623 qw_625 qw_26 qw_39 qw_626) ⟨rfl, rfl, (Nat.le_of_ble_eq_true rfl), (Nat.le_of_ble_eq_true rfl)⟩ dd_X4_requireReplica rfl hk1 rfl rfl hl.1 (Nat.le_of_ble_eq_true rfl) dX4_versionEntry_8 ⟨(Nat.le_of_ble_eq_true rfl), (Nat.le_of_ble_eq_true rfl)⟩ (fun H locs hM hS => ?_)
  refine lv_aload_n hx hb dX4_versionEntry_11 rfl (lv_at hl 0 rfl) ?_
  refine lv_iload_n hx hb dX4_versionEntry_12 rfl (lv_at hl 3 rfl) ?_
  obtain ⟨v5, M6, h1, h⟩ := ob2 h
  obtain ⟨hk1, h1⟩ := ifg h1
  refine kV1 (ci := 2) (As := [.int a2]) (rest := []) hC hE hS hM (mt_X2_version _ E v1 a2 _ _ _ h1) (gwV qw_658 qw_659 qw_660 qw_41 qw_661) ⟨rfl, rfl, (Nat.le_of_ble_eq_true rfl), (Nat.le_of_ble_eq_true rfl)⟩ dd_X2_version rfl hk1 rfl rfl hl.1 (Nat.le_of_ble_eq_true rfl) dX4_versionEntry_13 ⟨(Nat.le_of_ble_eq_true rfl), (Nat.le_of_ble_eq_true rfl)⟩ (fun H locs hM hS => ?_)
  cases h
  exact eI hx hb hr hlocks hM hS dX4_versionEntry_16 (Nat.le_of_ble_eq_true rfl) (Nat.le_of_ble_eq_true rfl)

abbrev rmq_X4_areEqual : Room := ({ frames := 2, cells := 0, slots := 0, locals := 42 } : Room)
set_option maxHeartbeats 4000000 in
set_option maxRecDepth 100000 in
theorem mq_X4_areEqual (l : Launch) (E : KEnv) (this : Nat) (a1 : Int32) (a2 : Int32) (M M' : Mem) (v : Int32) (h : f_X4_areEqual this a1 a2 M = some (.inl v, M')) : Met l yX4_areEqual (Cond.code yX4_areEqual cX4_areEqual 3 (some .boolean) :: lw_G) rmq_X4_areEqual (cPc E [.ref this, .int a1, .int a2] M) (cQ E (some (.int v)) M') 0 0 (eA E) := by
  refine Met.ofW (cc := cX4_areEqual) (maxL := 3) (ret := (some .boolean)) (by decide) rfl ?_
  intro p e s m args below meth c s₁ B hml hv
  obtain ⟨rfl, hE, hM⟩ := hv
  have hx := B.exec
  have hb := B.bytes
  have hr := B.returns
  have hts0 := atoms_spec (ws := Cond.code yX4_areEqual cX4_areEqual 3 (some .boolean) :: lw_G) B.pre
  have hts : ∀ w ∈ lw_G, w.before _ s = true := fun w hw => hts0 w (List.mem_cons_of_mem _ hw)
  have hown : s.vm.findClass RX4 = some m.cls := findClass_of_methodNamed B.named
  have hlocks := B.notSynchronized
  have hC : CallFix p m c cX4_areEqual 3 s _ lw_G RX4 := ⟨hx, hb, hml, hown, hts⟩
  have hS : va_S (eA E) s.heap s.heap [] := va_S.rf
  have hl := lv_entry ([.ref this, .int a1, .int a2]) (n := 3) (Nat.le_of_ble_eq_true rfl)
  rw [lg_entry_eq]
  generalize (lg_sl ([.ref this, .int a1, .int a2]) ++ List.replicate (3 - (lg_sl ([.ref this, .int a1, .int a2])).length) Slot.unset).toArray = ls at hl ⊢
  have hl : lv_has ls 3 [(0, .ref this), (1, .int a1), (2, .int a2)] := hl
  unfold f_X4_areEqual at h
  show W p l e rmq_X4_areEqual s m _ below meth c s.heap [] 0 0 _ _
  refine lv_aload_n hx hb dX4_areEqual_0 rfl (lv_at hl 0 rfl) ?_
  refine lv_iload_n hx hb dX4_areEqual_1 rfl (lv_at hl 1 rfl) ?_
  rcases obx h with ⟨v1, M2, h1, h⟩ | ⟨ex, M9, h1, h⟩
  rotate_left
  · exfalso
    cases h
  obtain ⟨hk1, h1⟩ := ifg h1
  refine kV1 (ci := 4) (As := [.int a1]) (rest := []) hC hE hS hM (mq_X4_stateOf _ E this a1 _ _ _ h1) (gwV qw_619 qw_621 qw_25 qw_39 qw_622) ⟨rfl, rfl, (Nat.le_of_ble_eq_true rfl), (Nat.le_of_ble_eq_true rfl)⟩ dd_X4_stateOf rfl hk1 rfl rfl hl.1 (Nat.le_of_ble_eq_true rfl) dX4_areEqual_2 ⟨(Nat.le_of_ble_eq_true rfl), (Nat.le_of_ble_eq_true rfl)⟩ (fun H locs hM hS => ?_)
  refine lv_aload_n hx hb dX4_areEqual_5 rfl (lv_at hl 0 rfl) ?_
  refine lv_iload_n hx hb dX4_areEqual_6 rfl (lv_at hl 2 rfl) ?_
  rcases obx h with ⟨v3, M4, h1, h⟩ | ⟨ex, M9, h1, h⟩
  rotate_left
  · exfalso
    cases h
  obtain ⟨hk1, h1⟩ := ifg h1
  refine kV1 (ci := 4) (As := [.int a2]) (rest := [.ref v1]) hC hE hS hM (mq_X4_stateOf _ E this a2 _ _ _ h1) (gwV qw_619 qw_621 qw_25 qw_39 qw_622) ⟨rfl, rfl, (Nat.le_of_ble_eq_true rfl), (Nat.le_of_ble_eq_true rfl)⟩ dd_X4_stateOf rfl hk1 rfl rfl hl.1 (Nat.le_of_ble_eq_true rfl) dX4_areEqual_7 ⟨(Nat.le_of_ble_eq_true rfl), (Nat.le_of_ble_eq_true rfl)⟩ (fun H locs hM hS => ?_)
  obtain ⟨v5, M6, h1, h⟩ := ob2 h
  obtain ⟨hk1, h1⟩ := ifg h1
  refine kV1 (ci := 2) (As := [.ref v3]) (rest := []) hC hE hS hM (mt_X2_sameAs _ E v1 v3 _ _ _ h1) (gwV qw_703 qw_704 qw_705 qw_41 qw_706) ⟨rfl, rfl, (Nat.le_of_ble_eq_true rfl), (Nat.le_of_ble_eq_true rfl)⟩ dd_X2_sameAs rfl hk1 rfl rfl hl.1 (Nat.le_of_ble_eq_true rfl) dX4_areEqual_10 ⟨(Nat.le_of_ble_eq_true rfl), (Nat.le_of_ble_eq_true rfl)⟩ (fun H locs hM hS => ?_)
  obtain ⟨h01, h⟩ := ifg h
  cases h
  exact eZ hx hb hr hlocks hM hS dX4_areEqual_13 (Nat.le_of_ble_eq_true rfl) (Nat.le_of_ble_eq_true rfl) h01

abbrev rmq_X4_covers : Room := ({ frames := 5, cells := 0, slots := 0, locals := 125 } : Room)
set_option maxHeartbeats 4000000 in
set_option maxRecDepth 100000 in
theorem mq_X4_covers (l : Launch) (E : KEnv) (this : Nat) (a1 : Int32) (a2 : Int32) (M M' : Mem) (v : Int32) (h : f_X4_covers this a1 a2 M = some (.inl v, M')) : Met l yX4_covers (Cond.code yX4_covers cX4_covers 3 (some .boolean) :: lw_G) rmq_X4_covers (cPc E [.ref this, .int a1, .int a2] M) (cQ E (some (.int v)) M') 0 0 (eA E) := by
  refine Met.ofW (cc := cX4_covers) (maxL := 3) (ret := (some .boolean)) (by decide) rfl ?_
  intro p e s m args below meth c s₁ B hml hv
  obtain ⟨rfl, hE, hM⟩ := hv
  have hx := B.exec
  have hb := B.bytes
  have hr := B.returns
  have hts0 := atoms_spec (ws := Cond.code yX4_covers cX4_covers 3 (some .boolean) :: lw_G) B.pre
  have hts : ∀ w ∈ lw_G, w.before _ s = true := fun w hw => hts0 w (List.mem_cons_of_mem _ hw)
  have hown : s.vm.findClass RX4 = some m.cls := findClass_of_methodNamed B.named
  have hlocks := B.notSynchronized
  have hC : CallFix p m c cX4_covers 3 s _ lw_G RX4 := ⟨hx, hb, hml, hown, hts⟩
  have hS : va_S (eA E) s.heap s.heap [] := va_S.rf
  have hl := lv_entry ([.ref this, .int a1, .int a2]) (n := 3) (Nat.le_of_ble_eq_true rfl)
  rw [lg_entry_eq]
  generalize (lg_sl ([.ref this, .int a1, .int a2]) ++ List.replicate (3 - (lg_sl ([.ref this, .int a1, .int a2])).length) Slot.unset).toArray = ls at hl ⊢
  have hl : lv_has ls 3 [(0, .ref this), (1, .int a1), (2, .int a2)] := hl
  unfold f_X4_covers at h
  show W p l e rmq_X4_covers s m _ below meth c s.heap [] 0 0 _ _
  refine lv_aload_n hx hb dX4_covers_0 rfl (lv_at hl 0 rfl) ?_
  refine lv_aload_n hx hb dX4_covers_1 rfl (lv_at hl 0 rfl) ?_
  refine lv_iload_n hx hb dX4_covers_2 rfl (lv_at hl 1 rfl) ?_
  rcases obx h with ⟨v1, M2, h1, h⟩ | ⟨ex, M9, h1, h⟩
  rotate_left
  · exfalso
    cases h
  obtain ⟨hk1, h1⟩ := ifg h1
  refine kV1 (ci := 4) (As := [.int a1]) (rest := [.ref this]) hC hE hS hM (mq_X4_stateOf _ E this a1 _ _ _ h1) (gwV qw_619 qw_621 qw_25 qw_39 qw_622) ⟨rfl, rfl, (Nat.le_of_ble_eq_true rfl), (Nat.le_of_ble_eq_true rfl)⟩ dd_X4_stateOf rfl hk1 rfl rfl hl.1 (Nat.le_of_ble_eq_true rfl) dX4_covers_3 ⟨(Nat.le_of_ble_eq_true rfl), (Nat.le_of_ble_eq_true rfl)⟩ (fun H locs hM hS => ?_)
  refine lv_aload_n hx hb dX4_covers_6 rfl (lv_at hl 0 rfl) ?_
  refine lv_iload_n hx hb dX4_covers_7 rfl (lv_at hl 2 rfl) ?_
  rcases obx h with ⟨v3, M4, h1, h⟩ | ⟨ex, M9, h1, h⟩
  rotate_left
  · exfalso
    cases h
  obtain ⟨hk1, h1⟩ := ifg h1
  refine kV1 (ci := 4) (As := [.int a2]) (rest := [.ref v1, .ref this]) hC hE hS hM (mq_X4_stateOf _ E this a2 _ _ _ h1) (gwV qw_619 qw_621 qw_25 qw_39 qw_622) ⟨rfl, rfl, (Nat.le_of_ble_eq_true rfl), (Nat.le_of_ble_eq_true rfl)⟩ dd_X4_stateOf rfl hk1 rfl rfl hl.1 (Nat.le_of_ble_eq_true rfl) dX4_covers_8 ⟨(Nat.le_of_ble_eq_true rfl), (Nat.le_of_ble_eq_true rfl)⟩ (fun H locs hM hS => ?_)
  obtain ⟨v5, M6, h1, h⟩ := ob2 h
  obtain ⟨hk1, h1⟩ := ifg h1
  refine kV1 (ci := 4) (As := [.ref v1, .ref v3]) (rest := []) hC hE hS hM (mt_X4_knowsAllOf _ E this v1 v3 _ _ _ h1) (gwV qw_1044 qw_1046 qw_33 qw_39 qw_1047) ⟨rfl, rfl, (Nat.le_of_ble_eq_true rfl), (Nat.le_of_ble_eq_true rfl)⟩ dd_X4_knowsAllOf rfl hk1 rfl rfl hl.1 (Nat.le_of_ble_eq_true rfl) dX4_covers_11 ⟨(Nat.le_of_ble_eq_true rfl), (Nat.le_of_ble_eq_true rfl)⟩ (fun H locs hM hS => ?_)
  obtain ⟨h01, h⟩ := ifg h
  cases h
  exact eZ hx hb hr hlocks hM hS dX4_covers_14 (Nat.le_of_ble_eq_true rfl) (Nat.le_of_ble_eq_true rfl) h01

abbrev rmq_X4_areConcurrent : Room := ({ frames := 5, cells := 0, slots := 0, locals := 125 } : Room)
set_option maxHeartbeats 4000000 in
set_option maxRecDepth 100000 in
theorem tq_X4_areConcurrent_38 {p : Program} {l : Launch} {e : Env} {s : State} {m : MethodId} {args : Array Value} {below : List Frame} {meth : Method} {c : Code} {E : KEnv} {H : Heap} {locs : List Loc} {ls : Array Slot} {s0 : Int32} {M : Mem} {v : Int32} {M' : Mem} (hC : CallFix p m c cX4_areConcurrent 5 s args lw_G RX4) (hr : meth.sig.returnType = (some .boolean)) (hlocks : meth.locks = false) (hE : EnvOK E s) (h : fj_X4_areConcurrent_38 s0 M = some (.inl v, M')) (hM : MOK E M H) (hS : va_S (eA E) s.heap H locs) (hl : lv_has ls 5 []) : W p l e rmq_X4_areConcurrent s m args below meth c H locs 0 0 (MQ below (cQ E (some (.int v)) M') args s 0 0 (eA E)) (F0 m 38 ls [.int s0]) := by
  obtain ⟨hx, hb, hml, hown, hts⟩ := id hC
  unfold fj_X4_areConcurrent_38 at h
  obtain ⟨h01, h⟩ := ifg h
  cases h
  exact eZ hx hb hr hlocks hM hS dX4_areConcurrent_38 (Nat.le_of_ble_eq_true rfl) (Nat.le_of_ble_eq_true rfl) h01
set_option maxHeartbeats 4000000 in
set_option maxRecDepth 100000 in
theorem tq_X4_areConcurrent_37 {p : Program} {l : Launch} {e : Env} {s : State} {m : MethodId} {args : Array Value} {below : List Frame} {meth : Method} {c : Code} {E : KEnv} {H : Heap} {locs : List Loc} {ls : Array Slot}  {M : Mem} {v : Int32} {M' : Mem} (hC : CallFix p m c cX4_areConcurrent 5 s args lw_G RX4) (hr : meth.sig.returnType = (some .boolean)) (hlocks : meth.locks = false) (hE : EnvOK E s) (h : fj_X4_areConcurrent_37  M = some (.inl v, M')) (hM : MOK E M H) (hS : va_S (eA E) s.heap H locs) (hl : lv_has ls 5 []) : W p l e rmq_X4_areConcurrent s m args below meth c H locs 0 0 (MQ below (cQ E (some (.int v)) M') args s 0 0 (eA E)) (F0 m 37 ls []) := by
  obtain ⟨hx, hb, hml, hown, hts⟩ := id hC
  unfold fj_X4_areConcurrent_37 at h
  refine lv_iconst (v := 0) hx hb dX4_areConcurrent_37 (by decide) ?_
  refine W.widen (k := 0) (n := 0) (Nat.le_of_ble_eq_true rfl) (Nat.le_of_ble_eq_true rfl) ?_
  exact tq_X4_areConcurrent_38  hC hr hlocks hE  h hM hS (lv_sub hl [] rfl)
set_option maxHeartbeats 4000000 in
set_option maxRecDepth 100000 in
theorem mq_X4_areConcurrent (l : Launch) (E : KEnv) (this : Nat) (a1 : Int32) (a2 : Int32) (M M' : Mem) (v : Int32) (h : f_X4_areConcurrent this a1 a2 M = some (.inl v, M')) : Met l yX4_areConcurrent (Cond.code yX4_areConcurrent cX4_areConcurrent 5 (some .boolean) :: lw_G) rmq_X4_areConcurrent (cPc E [.ref this, .int a1, .int a2] M) (cQ E (some (.int v)) M') 0 0 (eA E) := by
  refine Met.ofW (cc := cX4_areConcurrent) (maxL := 5) (ret := (some .boolean)) (by decide) rfl ?_
  intro p e s m args below meth c s₁ B hml hv
  obtain ⟨rfl, hE, hM⟩ := hv
  have hx := B.exec
  have hb := B.bytes
  have hr := B.returns
  have hts0 := atoms_spec (ws := Cond.code yX4_areConcurrent cX4_areConcurrent 5 (some .boolean) :: lw_G) B.pre
  have hts : ∀ w ∈ lw_G, w.before _ s = true := fun w hw => hts0 w (List.mem_cons_of_mem _ hw)
  have hown : s.vm.findClass RX4 = some m.cls := findClass_of_methodNamed B.named
  have hlocks := B.notSynchronized
  have hC : CallFix p m c cX4_areConcurrent 5 s _ lw_G RX4 := ⟨hx, hb, hml, hown, hts⟩
  have hS : va_S (eA E) s.heap s.heap [] := va_S.rf
  have hl := lv_entry ([.ref this, .int a1, .int a2]) (n := 5) (Nat.le_of_ble_eq_true rfl)
  rw [lg_entry_eq]
  generalize (lg_sl ([.ref this, .int a1, .int a2]) ++ List.replicate (5 - (lg_sl ([.ref this, .int a1, .int a2])).length) Slot.unset).toArray = ls at hl ⊢
  have hl : lv_has ls 5 [(0, .ref this), (1, .int a1), (2, .int a2)] := hl
  unfold f_X4_areConcurrent at h
  show W p l e rmq_X4_areConcurrent s m _ below meth c s.heap [] 0 0 _ _
  refine lv_aload_n hx hb dX4_areConcurrent_0 rfl (lv_at hl 0 rfl) ?_
  refine lv_iload_n hx hb dX4_areConcurrent_1 rfl (lv_at hl 1 rfl) ?_
  rcases obx h with ⟨v1, M2, h1, h⟩ | ⟨ex, M9, h1, h⟩
  rotate_left
  · exfalso
    cases h
  obtain ⟨hk1, h1⟩ := ifg h1
  refine kV1 (ci := 4) (As := [.int a1]) (rest := []) hC hE hS hM (mq_X4_stateOf _ E this a1 _ _ _ h1) (gwV qw_619 qw_621 qw_25 qw_39 qw_622) ⟨rfl, rfl, (Nat.le_of_ble_eq_true rfl), (Nat.le_of_ble_eq_true rfl)⟩ dd_X4_stateOf rfl hk1 rfl rfl hl.1 (Nat.le_of_ble_eq_true rfl) dX4_areConcurrent_2 ⟨(Nat.le_of_ble_eq_true rfl), (Nat.le_of_ble_eq_true rfl)⟩ (fun H locs hM hS => ?_)
  refine lv_astore_n (lv' := [(3, .ref v1), (0, .ref this), (1, .int a1), (2, .int a2)]) hx hb dX4_areConcurrent_5 rfl hl (by decide) rfl (fun ls hl => ?_)
  refine lv_aload_n hx hb dX4_areConcurrent_6 rfl (lv_at hl 1 rfl) ?_
  refine lv_iload_n hx hb dX4_areConcurrent_7 rfl (lv_at hl 3 rfl) ?_
  rcases obx h with ⟨v3, M4, h1, h⟩ | ⟨ex, M9, h1, h⟩
  rotate_left
  · exfalso
    cases h
  obtain ⟨hk1, h1⟩ := ifg h1
  refine kV1 (ci := 4) (As := [.int a2]) (rest := []) hC hE hS hM (mq_X4_stateOf _ E this a2 _ _ _ h1) (gwV qw_619 qw_621 qw_25 qw_39 qw_622) ⟨rfl, rfl, (Nat.le_of_ble_eq_true rfl), (Nat.le_of_ble_eq_true rfl)⟩ dd_X4_stateOf rfl hk1 rfl rfl hl.1 (Nat.le_of_ble_eq_true rfl) dX4_areConcurrent_8 ⟨(Nat.le_of_ble_eq_true rfl), (Nat.le_of_ble_eq_true rfl)⟩ (fun H locs hM hS => ?_)
  refine lv_astore (lv' := [(4, .ref v3), (3, .ref v1), (0, .ref this), (1, .int a1), (2, .int a2)]) hx hb dX4_areConcurrent_11 hl (by decide) rfl (fun ls hl => ?_)
  refine lv_aload_n hx hb dX4_areConcurrent_13 rfl (lv_at hl 2 rfl) ?_
  refine lv_aload_n hx hb dX4_areConcurrent_14 rfl (lv_at hl 1 rfl) ?_
  refine lv_aload hx hb dX4_areConcurrent_15 (lv_at hl 0 rfl) ?_
  obtain ⟨v5, M6, h1, h⟩ := ob2 h
  obtain ⟨hk1, h1⟩ := ifg h1
  refine kV1 (ci := 4) (As := [.ref v1, .ref v3]) (rest := []) hC hE hS hM (mt_X4_knowsAllOf _ E this v1 v3 _ _ _ h1) (gwV qw_1044 qw_1046 qw_33 qw_39 qw_1047) ⟨rfl, rfl, (Nat.le_of_ble_eq_true rfl), (Nat.le_of_ble_eq_true rfl)⟩ dd_X4_knowsAllOf rfl hk1 rfl rfl hl.1 (Nat.le_of_ble_eq_true rfl) dX4_areConcurrent_17 ⟨(Nat.le_of_ble_eq_true rfl), (Nat.le_of_ble_eq_true rfl)⟩ (fun H locs hM hS => ?_)
  refine lv_if_ne (tgt := 37) hx hb dX4_areConcurrent_20 (by decide) (fun c1 => ?_) (fun c1 => ?_)
  · have h := ifn c1 h
    refine W.widen (k := 0) (n := 0) (Nat.le_of_ble_eq_true rfl) (Nat.le_of_ble_eq_true rfl) ?_
    exact tq_X4_areConcurrent_37  hC hr hlocks hE  h hM hS (lv_sub hl [] rfl)
  · have h := ifp c1 h
    refine lv_aload_n hx hb dX4_areConcurrent_23 rfl (lv_at hl 2 rfl) ?_
    refine lv_aload hx hb dX4_areConcurrent_24 (lv_at hl 0 rfl) ?_
    refine lv_aload_n hx hb dX4_areConcurrent_26 rfl (lv_at hl 1 rfl) ?_
    obtain ⟨v7, M8, h1, h⟩ := ob2 h
    obtain ⟨hk1, h1⟩ := ifg h1
    refine kV1 (ci := 4) (As := [.ref v3, .ref v1]) (rest := []) hC hE hS hM (mt_X4_knowsAllOf _ E this v3 v1 _ _ _ h1) (gwV qw_1044 qw_1046 qw_33 qw_39 qw_1047) ⟨rfl, rfl, (Nat.le_of_ble_eq_true rfl), (Nat.le_of_ble_eq_true rfl)⟩ dd_X4_knowsAllOf rfl hk1 rfl rfl hl.1 (Nat.le_of_ble_eq_true rfl) dX4_areConcurrent_27 ⟨(Nat.le_of_ble_eq_true rfl), (Nat.le_of_ble_eq_true rfl)⟩ (fun H locs hM hS => ?_)
    refine lv_if_ne (tgt := 37) hx hb dX4_areConcurrent_30 (by decide) (fun c1 => ?_) (fun c1 => ?_)
    · have h := ifn c1 h
      refine W.widen (k := 0) (n := 0) (Nat.le_of_ble_eq_true rfl) (Nat.le_of_ble_eq_true rfl) ?_
      exact tq_X4_areConcurrent_37  hC hr hlocks hE  h hM hS (lv_sub hl [] rfl)
    · have h := ifp c1 h
      refine lv_iconst (v := 1) hx hb dX4_areConcurrent_33 (by decide) ?_
      refine lv_goto (tgt := 38) hx hb dX4_areConcurrent_34 (by decide) ?_
      refine W.widen (k := 0) (n := 0) (Nat.le_of_ble_eq_true rfl) (Nat.le_of_ble_eq_true rfl) ?_
      exact tq_X4_areConcurrent_38  hC hr hlocks hE  h hM hS (lv_sub hl [] rfl)

abbrev rmq_X4_requireCounter : Room := ({ frames := 0, cells := 0, slots := 0, locals := 0 } : Room)
set_option maxHeartbeats 4000000 in
set_option maxRecDepth 100000 in
theorem tq_X4_requireCounter_15 {p : Program} {l : Launch} {e : Env} {s : State} {m : MethodId} {args : Array Value} {below : List Frame} {meth : Method} {c : Code} {E : KEnv} {H : Heap} {locs : List Loc} {ls : Array Slot}  {M : Mem} {M' : Mem} (hC : CallFix p m c cX4_requireCounter 2 s args lw_G RX4) (hr : meth.sig.returnType = none) (hlocks : meth.locks = false) (hE : EnvOK E s) (h : fj_X4_requireCounter_15  M = some (.inl (), M')) (hM : MOK E M H) (hS : va_S (eA E) s.heap H locs) (hl : lv_has ls 2 []) : W p l e rmq_X4_requireCounter s m args below meth c H locs 0 0 (MQ below (cQ E none M') args s 0 0 (eA E)) (F0 m 15 ls []) := by
  obtain ⟨hx, hb, hml, hown, hts⟩ := id hC
  unfold fj_X4_requireCounter_15 at h
  cases h
set_option maxHeartbeats 4000000 in
set_option maxRecDepth 100000 in
theorem mq_X4_requireCounter (l : Launch) (E : KEnv) (this : Nat) (a1 : Int32) (M M' : Mem) (h : f_X4_requireCounter this a1 M = some (.inl (), M')) : Met l yX4_requireCounter (Cond.code yX4_requireCounter cX4_requireCounter 2 none :: lw_G) rmq_X4_requireCounter (cPc E [.ref this, .int a1] M) (cQ E none M') 0 0 (eA E) := by
  refine Met.ofW (cc := cX4_requireCounter) (maxL := 2) (ret := none) (by decide) rfl ?_
  intro p e s m args below meth c s₁ B hml hv
  obtain ⟨rfl, hE, hM⟩ := hv
  have hx := B.exec
  have hb := B.bytes
  have hr := B.returns
  have hts0 := atoms_spec (ws := Cond.code yX4_requireCounter cX4_requireCounter 2 none :: lw_G) B.pre
  have hts : ∀ w ∈ lw_G, w.before _ s = true := fun w hw => hts0 w (List.mem_cons_of_mem _ hw)
  have hown : s.vm.findClass RX4 = some m.cls := findClass_of_methodNamed B.named
  have hlocks := B.notSynchronized
  have hC : CallFix p m c cX4_requireCounter 2 s _ lw_G RX4 := ⟨hx, hb, hml, hown, hts⟩
  have hS : va_S (eA E) s.heap s.heap [] := va_S.rf
  have hl := lv_entry ([.ref this, .int a1]) (n := 2) (Nat.le_of_ble_eq_true rfl)
  rw [lg_entry_eq]
  generalize (lg_sl ([.ref this, .int a1]) ++ List.replicate (2 - (lg_sl ([.ref this, .int a1])).length) Slot.unset).toArray = ls at hl ⊢
  have hl : lv_has ls 2 [(0, .ref this), (1, .int a1)] := hl
  unfold f_X4_requireCounter at h
  show W p l e rmq_X4_requireCounter s m _ below meth c s.heap [] 0 0 _ _
  refine lv_iload_n hx hb dX4_requireCounter_0 rfl (lv_at hl 1 rfl) ?_
  refine lv_if_lt (tgt := 15) hx hb dX4_requireCounter_1 (by decide) (fun c1 => ?_) (fun c1 => ?_)
  · have h := ifp c1 h
    refine W.widen (k := 0) (n := 0) (Nat.le_of_ble_eq_true rfl) (Nat.le_of_ble_eq_true rfl) ?_
    exact tq_X4_requireCounter_15  hC hr hlocks hE  h hM hS (lv_sub hl [] rfl)
  · have h := ifn c1 h
    refine lv_iload_n hx hb dX4_requireCounter_4 rfl (lv_at hl 1 rfl) ?_
    refine lv_aload_n hx hb dX4_requireCounter_5 rfl (lv_at hl 0 rfl) ?_
    obtain ⟨v1, h1, h⟩ := ob h
    refine rgn_4_6 hx hb hts hown hE hM qw_404 h1 dX4_requireCounter_6 ?_
    obtain ⟨v2, h1, h⟩ := ob h
    refine rg_3_1 hx hb hts hown hE hM qw_93 h1 dX4_requireCounter_9 ?_
    refine lv_icmp_lt (tgt := 26) hx hb dX4_requireCounter_12 (by decide) (fun c1 => ?_) (fun c1 => ?_)
    · have h := ifp c1 h
      cases h
      exact eV_ hx hb hr hlocks hM hS dX4_requireCounter_26 (Nat.le_of_ble_eq_true rfl) (Nat.le_of_ble_eq_true rfl)
    · have h := ifn c1 h
      refine W.widen (k := 0) (n := 0) (Nat.le_of_ble_eq_true rfl) (Nat.le_of_ble_eq_true rfl) ?_
      exact tq_X4_requireCounter_15  hC hr hlocks hE  h hM hS (lv_sub hl [] rfl)

abbrev rmq_X4_counterValue : Room := ({ frames := 2, cells := 0, slots := 0, locals := 46 } : Room)
set_option maxHeartbeats 4000000 in
set_option maxRecDepth 100000 in
theorem mq_X4_counterValue (l : Launch) (E : KEnv) (this : Nat) (a1 : Int32) (a2 : Int32) (M M' : Mem) (v : Int32) (h : f_X4_counterValue this a1 a2 M = some (.inl v, M')) : Met l yX4_counterValue (Cond.code yX4_counterValue cX4_counterValue 4 (some .int) :: lw_G) rmq_X4_counterValue (cPc E [.ref this, .int a1, .int a2] M) (cQ E (some (.int v)) M') 0 0 (eA E) := by
  refine Met.ofW (cc := cX4_counterValue) (maxL := 4) (ret := (some .int)) (by decide) rfl ?_
  intro p e s m args below meth c s₁ B hml hv
  obtain ⟨rfl, hE, hM⟩ := hv
  have hx := B.exec
  have hb := B.bytes
  have hr := B.returns
  have hts0 := atoms_spec (ws := Cond.code yX4_counterValue cX4_counterValue 4 (some .int) :: lw_G) B.pre
  have hts : ∀ w ∈ lw_G, w.before _ s = true := fun w hw => hts0 w (List.mem_cons_of_mem _ hw)
  have hown : s.vm.findClass RX4 = some m.cls := findClass_of_methodNamed B.named
  have hlocks := B.notSynchronized
  have hC : CallFix p m c cX4_counterValue 4 s _ lw_G RX4 := ⟨hx, hb, hml, hown, hts⟩
  have hS : va_S (eA E) s.heap s.heap [] := va_S.rf
  have hl := lv_entry ([.ref this, .int a1, .int a2]) (n := 4) (Nat.le_of_ble_eq_true rfl)
  rw [lg_entry_eq]
  generalize (lg_sl ([.ref this, .int a1, .int a2]) ++ List.replicate (4 - (lg_sl ([.ref this, .int a1, .int a2])).length) Slot.unset).toArray = ls at hl ⊢
  have hl : lv_has ls 4 [(0, .ref this), (1, .int a1), (2, .int a2)] := hl
  unfold f_X4_counterValue at h
  show W p l e rmq_X4_counterValue s m _ below meth c s.heap [] 0 0 _ _
  refine lv_aload_n hx hb dX4_counterValue_0 rfl (lv_at hl 0 rfl) ?_
  refine lv_iload_n hx hb dX4_counterValue_1 rfl (lv_at hl 1 rfl) ?_
  rcases obx h with ⟨v1, M2, h1, h⟩ | ⟨ex, M9, h1, h⟩
  rotate_left
  · exfalso
    cases h
  obtain ⟨hk1, h1⟩ := ifg h1
  refine kV1 (ci := 4) (As := [.int a1]) (rest := []) hC hE hS hM (mq_X4_stateOf _ E this a1 _ _ _ h1) (gwV qw_619 qw_621 qw_25 qw_39 qw_622) ⟨rfl, rfl, (Nat.le_of_ble_eq_true rfl), (Nat.le_of_ble_eq_true rfl)⟩ dd_X4_stateOf rfl hk1 rfl rfl hl.1 (Nat.le_of_ble_eq_true rfl) dX4_counterValue_2 ⟨(Nat.le_of_ble_eq_true rfl), (Nat.le_of_ble_eq_true rfl)⟩ (fun H locs hM hS => ?_)
  refine lv_astore_n (lv' := [(3, .ref v1), (0, .ref this), (1, .int a1), (2, .int a2)]) hx hb dX4_counterValue_5 rfl hl (by decide) rfl (fun ls hl => ?_)
  refine lv_aload_n hx hb dX4_counterValue_6 rfl (lv_at hl 1 rfl) ?_
  refine lv_iload_n hx hb dX4_counterValue_7 rfl (lv_at hl 3 rfl) ?_
  rcases obx h with ⟨v3, M4, h1, h⟩ | ⟨ex, M9, h1, h⟩
  rotate_left
  · exfalso
    cases h
  obtain ⟨hk1, h1⟩ := ifg h1
  refine kV0 (ci := 4) (As := [.int a2]) (rest := []) hC hE hS hM (mq_X4_requireCounter _ E this a2 _ _ h1) (gwV qw_628 qw_630 qw_27 qw_39 qw_631) ⟨rfl, rfl, (Nat.le_of_ble_eq_true rfl), (Nat.le_of_ble_eq_true rfl)⟩ dd_X4_requireCounter rfl hk1 rfl rfl hl.1 (Nat.le_of_ble_eq_true rfl) dX4_counterValue_8 ⟨(Nat.le_of_ble_eq_true rfl), (Nat.le_of_ble_eq_true rfl)⟩ (fun H locs hM hS => ?_)
  refine lv_aload_n hx hb dX4_counterValue_11 rfl (lv_at hl 0 rfl) ?_
  refine lv_iload_n hx hb dX4_counterValue_12 rfl (lv_at hl 3 rfl) ?_
  obtain ⟨v5, M6, h1, h⟩ := ob2 h
  obtain ⟨hk1, h1⟩ := ifg h1
  refine kV1 (ci := 2) (As := [.int a2]) (rest := []) hC hE hS hM (mt_X2_total _ E v1 a2 _ _ _ h1) (gwV qw_635 qw_636 qw_637 qw_41 qw_638) ⟨rfl, rfl, (Nat.le_of_ble_eq_true rfl), (Nat.le_of_ble_eq_true rfl)⟩ dd_X2_total rfl hk1 rfl rfl hl.1 (Nat.le_of_ble_eq_true rfl) dX4_counterValue_13 ⟨(Nat.le_of_ble_eq_true rfl), (Nat.le_of_ble_eq_true rfl)⟩ (fun H locs hM hS => ?_)
  cases h
  exact eI hx hb hr hlocks hM hS dX4_counterValue_16 (Nat.le_of_ble_eq_true rfl) (Nat.le_of_ble_eq_true rfl)

abbrev rmq_X4_sumOf : Room := ({ frames := 2, cells := 0, slots := 0, locals := 42 } : Room)
set_option maxHeartbeats 4000000 in
set_option maxRecDepth 100000 in
theorem mq_X4_sumOf (l : Launch) (E : KEnv) (this : Nat) (a1 : Int32) (a2 : Int32) (a3 : Int32) (a4 : Int32) (M M' : Mem) (v : Int32) (h : f_X4_sumOf this a1 a2 a3 a4 M = some (.inl v, M')) : Met l yX4_sumOf (Cond.code yX4_sumOf cX4_sumOf 6 (some .int) :: lw_G) rmq_X4_sumOf (cPc E [.ref this, .int a1, .int a2, .int a3, .int a4] M) (cQ E (some (.int v)) M') 0 0 (eA E) := by
  refine Met.ofW (cc := cX4_sumOf) (maxL := 6) (ret := (some .int)) (by decide) rfl ?_
  intro p e s m args below meth c s₁ B hml hv
  obtain ⟨rfl, hE, hM⟩ := hv
  have hx := B.exec
  have hb := B.bytes
  have hr := B.returns
  have hts0 := atoms_spec (ws := Cond.code yX4_sumOf cX4_sumOf 6 (some .int) :: lw_G) B.pre
  have hts : ∀ w ∈ lw_G, w.before _ s = true := fun w hw => hts0 w (List.mem_cons_of_mem _ hw)
  have hown : s.vm.findClass RX4 = some m.cls := findClass_of_methodNamed B.named
  have hlocks := B.notSynchronized
  have hC : CallFix p m c cX4_sumOf 6 s _ lw_G RX4 := ⟨hx, hb, hml, hown, hts⟩
  have hS : va_S (eA E) s.heap s.heap [] := va_S.rf
  have hl := lv_entry ([.ref this, .int a1, .int a2, .int a3, .int a4]) (n := 6) (Nat.le_of_ble_eq_true rfl)
  rw [lg_entry_eq]
  generalize (lg_sl ([.ref this, .int a1, .int a2, .int a3, .int a4]) ++ List.replicate (6 - (lg_sl ([.ref this, .int a1, .int a2, .int a3, .int a4])).length) Slot.unset).toArray = ls at hl ⊢
  have hl : lv_has ls 6 [(0, .ref this), (1, .int a1), (2, .int a2), (3, .int a3), (4, .int a4)] := hl
  unfold f_X4_sumOf at h
  show W p l e rmq_X4_sumOf s m _ below meth c s.heap [] 0 0 _ _
  refine lv_aload_n hx hb dX4_sumOf_0 rfl (lv_at hl 0 rfl) ?_
  refine lv_iload_n hx hb dX4_sumOf_1 rfl (lv_at hl 2 rfl) ?_
  rcases obx h with ⟨v1, M2, h1, h⟩ | ⟨ex, M9, h1, h⟩
  rotate_left
  · exfalso
    cases h
  obtain ⟨hk1, h1⟩ := ifg h1
  refine kV1 (ci := 4) (As := [.int a2]) (rest := []) hC hE hS hM (mq_X4_stateOf _ E this a2 _ _ _ h1) (gwV qw_619 qw_621 qw_25 qw_39 qw_622) ⟨rfl, rfl, (Nat.le_of_ble_eq_true rfl), (Nat.le_of_ble_eq_true rfl)⟩ dd_X4_stateOf rfl hk1 rfl rfl hl.1 (Nat.le_of_ble_eq_true rfl) dX4_sumOf_2 ⟨(Nat.le_of_ble_eq_true rfl), (Nat.le_of_ble_eq_true rfl)⟩ (fun H locs hM hS => ?_)
  refine lv_astore (lv' := [(5, .ref v1), (0, .ref this), (1, .int a1), (2, .int a2), (3, .int a3), (4, .int a4)]) hx hb dX4_sumOf_5 hl (by decide) rfl (fun ls hl => ?_)
  refine lv_aload_n hx hb dX4_sumOf_7 rfl (lv_at hl 1 rfl) ?_
  refine lv_iload_n hx hb dX4_sumOf_8 rfl (lv_at hl 4 rfl) ?_
  rcases obx h with ⟨v3, M4, h1, h⟩ | ⟨ex, M9, h1, h⟩
  rotate_left
  · exfalso
    cases h
  obtain ⟨hk1, h1⟩ := ifg h1
  refine kV0 (ci := 4) (As := [.int a3]) (rest := []) hC hE hS hM (mq_X4_requireCounter _ E this a3 _ _ h1) (gwV qw_628 qw_630 qw_27 qw_39 qw_631) ⟨rfl, rfl, (Nat.le_of_ble_eq_true rfl), (Nat.le_of_ble_eq_true rfl)⟩ dd_X4_requireCounter rfl hk1 rfl rfl hl.1 (Nat.le_of_ble_eq_true rfl) dX4_sumOf_9 ⟨(Nat.le_of_ble_eq_true rfl), (Nat.le_of_ble_eq_true rfl)⟩ (fun H locs hM hS => ?_)
  refine lv_aload_n hx hb dX4_sumOf_12 rfl (lv_at hl 1 rfl) ?_
  refine lv_iload hx hb dX4_sumOf_13 (lv_at hl 5 rfl) ?_
  rcases obx h with ⟨v5, M6, h1, h⟩ | ⟨ex, M9, h1, h⟩
  rotate_left
  · exfalso
    cases h
  obtain ⟨hk1, h1⟩ := ifg h1
  refine kV0 (ci := 4) (As := [.int a4]) (rest := []) hC hE hS hM (mq_X4_requireReplica _ E this a4 _ _ h1) (gwV qw_623 qw_625 qw_26 qw_39 qw_626) ⟨rfl, rfl, (Nat.le_of_ble_eq_true rfl), (Nat.le_of_ble_eq_true rfl)⟩ dd_X4_requireReplica rfl hk1 rfl rfl hl.1 (Nat.le_of_ble_eq_true rfl) dX4_sumOf_15 ⟨(Nat.le_of_ble_eq_true rfl), (Nat.le_of_ble_eq_true rfl)⟩ (fun H locs hM hS => ?_)
  refine lv_aload hx hb dX4_sumOf_18 (lv_at hl 0 rfl) ?_
  refine lv_iload_n hx hb dX4_sumOf_20 rfl (lv_at hl 2 rfl) ?_
  refine lv_iload_n hx hb dX4_sumOf_21 rfl (lv_at hl 4 rfl) ?_
  refine lv_iload hx hb dX4_sumOf_22 (lv_at hl 5 rfl) ?_
  obtain ⟨v7, M8, h1, h⟩ := ob2 h
  obtain ⟨hk1, h1⟩ := ifg h1
  refine kV1 (ci := 2) (As := [.int a1, .int a3, .int a4]) (rest := []) hC hE hS hM (mt_X2_sum _ E v1 a1 a3 a4 _ _ _ h1) (gwV qw_1010 qw_640 qw_641 qw_41 qw_642) ⟨rfl, rfl, (Nat.le_of_ble_eq_true rfl), (Nat.le_of_ble_eq_true rfl)⟩ dd_X2_sum rfl hk1 rfl rfl hl.1 (Nat.le_of_ble_eq_true rfl) dX4_sumOf_24 ⟨(Nat.le_of_ble_eq_true rfl), (Nat.le_of_ble_eq_true rfl)⟩ (fun H locs hM hS => ?_)
  cases h
  exact eI hx hb hr hlocks hM hS dX4_sumOf_27 (Nat.le_of_ble_eq_true rfl) (Nat.le_of_ble_eq_true rfl)

abbrev rmq_X4_increments : Room := ({ frames := 3, cells := 0, slots := 0, locals := 67 } : Room)
set_option maxHeartbeats 4000000 in
set_option maxRecDepth 100000 in
theorem mq_X4_increments (l : Launch) (E : KEnv) (this : Nat) (a1 : Int32) (a2 : Int32) (a3 : Int32) (M M' : Mem) (v : Int32) (h : f_X4_increments this a1 a2 a3 M = some (.inl v, M')) : Met l yX4_increments (Cond.code yX4_increments cX4_increments 4 (some .int) :: lw_G) rmq_X4_increments (cPc E [.ref this, .int a1, .int a2, .int a3] M) (cQ E (some (.int v)) M') 0 0 (eA E) := by
  refine Met.ofW (cc := cX4_increments) (maxL := 4) (ret := (some .int)) (by decide) rfl ?_
  intro p e s m args below meth c s₁ B hml hv
  obtain ⟨rfl, hE, hM⟩ := hv
  have hx := B.exec
  have hb := B.bytes
  have hr := B.returns
  have hts0 := atoms_spec (ws := Cond.code yX4_increments cX4_increments 4 (some .int) :: lw_G) B.pre
  have hts : ∀ w ∈ lw_G, w.before _ s = true := fun w hw => hts0 w (List.mem_cons_of_mem _ hw)
  have hown : s.vm.findClass RX4 = some m.cls := findClass_of_methodNamed B.named
  have hlocks := B.notSynchronized
  have hC : CallFix p m c cX4_increments 4 s _ lw_G RX4 := ⟨hx, hb, hml, hown, hts⟩
  have hS : va_S (eA E) s.heap s.heap [] := va_S.rf
  have hl := lv_entry ([.ref this, .int a1, .int a2, .int a3]) (n := 4) (Nat.le_of_ble_eq_true rfl)
  rw [lg_entry_eq]
  generalize (lg_sl ([.ref this, .int a1, .int a2, .int a3]) ++ List.replicate (4 - (lg_sl ([.ref this, .int a1, .int a2, .int a3])).length) Slot.unset).toArray = ls at hl ⊢
  have hl : lv_has ls 4 [(0, .ref this), (1, .int a1), (2, .int a2), (3, .int a3)] := hl
  unfold f_X4_increments at h
  show W p l e rmq_X4_increments s m _ below meth c s.heap [] 0 0 _ _
  refine lv_aload_n hx hb dX4_increments_0 rfl (lv_at hl 0 rfl) ?_
  refine lv_iconst (v := 4) hx hb dX4_increments_1 (by decide) ?_
  refine lv_iload_n hx hb dX4_increments_2 rfl (lv_at hl 1 rfl) ?_
  refine lv_iload_n hx hb dX4_increments_3 rfl (lv_at hl 2 rfl) ?_
  refine lv_iload_n hx hb dX4_increments_4 rfl (lv_at hl 3 rfl) ?_
  rcases obx h with ⟨v1, M2, h1, h⟩ | ⟨ex, M9, h1, h⟩
  rotate_left
  · exfalso
    cases h
  obtain ⟨hk1, h1⟩ := ifg h1
  refine kV1 (ci := 4) (As := [.int 4, .int a1, .int a2, .int a3]) (rest := []) hC hE hS hM (mq_X4_sumOf _ E this 4 a1 a2 a3 _ _ _ h1) (gwV qw_1006 qw_1008 qw_32 qw_39 qw_1009) ⟨rfl, rfl, (Nat.le_of_ble_eq_true rfl), (Nat.le_of_ble_eq_true rfl)⟩ dd_X4_sumOf rfl hk1 rfl rfl hl.1 (Nat.le_of_ble_eq_true rfl) dX4_increments_5 ⟨(Nat.le_of_ble_eq_true rfl), (Nat.le_of_ble_eq_true rfl)⟩ (fun H locs hM hS => ?_)
  cases h
  exact eI hx hb hr hlocks hM hS dX4_increments_8 (Nat.le_of_ble_eq_true rfl) (Nat.le_of_ble_eq_true rfl)

abbrev rmq_X4_decrements : Room := ({ frames := 3, cells := 0, slots := 0, locals := 67 } : Room)
set_option maxHeartbeats 4000000 in
set_option maxRecDepth 100000 in
theorem mq_X4_decrements (l : Launch) (E : KEnv) (this : Nat) (a1 : Int32) (a2 : Int32) (a3 : Int32) (M M' : Mem) (v : Int32) (h : f_X4_decrements this a1 a2 a3 M = some (.inl v, M')) : Met l yX4_decrements (Cond.code yX4_decrements cX4_decrements 4 (some .int) :: lw_G) rmq_X4_decrements (cPc E [.ref this, .int a1, .int a2, .int a3] M) (cQ E (some (.int v)) M') 0 0 (eA E) := by
  refine Met.ofW (cc := cX4_decrements) (maxL := 4) (ret := (some .int)) (by decide) rfl ?_
  intro p e s m args below meth c s₁ B hml hv
  obtain ⟨rfl, hE, hM⟩ := hv
  have hx := B.exec
  have hb := B.bytes
  have hr := B.returns
  have hts0 := atoms_spec (ws := Cond.code yX4_decrements cX4_decrements 4 (some .int) :: lw_G) B.pre
  have hts : ∀ w ∈ lw_G, w.before _ s = true := fun w hw => hts0 w (List.mem_cons_of_mem _ hw)
  have hown : s.vm.findClass RX4 = some m.cls := findClass_of_methodNamed B.named
  have hlocks := B.notSynchronized
  have hC : CallFix p m c cX4_decrements 4 s _ lw_G RX4 := ⟨hx, hb, hml, hown, hts⟩
  have hS : va_S (eA E) s.heap s.heap [] := va_S.rf
  have hl := lv_entry ([.ref this, .int a1, .int a2, .int a3]) (n := 4) (Nat.le_of_ble_eq_true rfl)
  rw [lg_entry_eq]
  generalize (lg_sl ([.ref this, .int a1, .int a2, .int a3]) ++ List.replicate (4 - (lg_sl ([.ref this, .int a1, .int a2, .int a3])).length) Slot.unset).toArray = ls at hl ⊢
  have hl : lv_has ls 4 [(0, .ref this), (1, .int a1), (2, .int a2), (3, .int a3)] := hl
  unfold f_X4_decrements at h
  show W p l e rmq_X4_decrements s m _ below meth c s.heap [] 0 0 _ _
  refine lv_aload_n hx hb dX4_decrements_0 rfl (lv_at hl 0 rfl) ?_
  refine lv_bipush (v := 20) hx hb dX4_decrements_1 (by decide) ?_
  refine lv_iload_n hx hb dX4_decrements_3 rfl (lv_at hl 1 rfl) ?_
  refine lv_iload_n hx hb dX4_decrements_4 rfl (lv_at hl 2 rfl) ?_
  refine lv_iload_n hx hb dX4_decrements_5 rfl (lv_at hl 3 rfl) ?_
  rcases obx h with ⟨v1, M2, h1, h⟩ | ⟨ex, M9, h1, h⟩
  rotate_left
  · exfalso
    cases h
  obtain ⟨hk1, h1⟩ := ifg h1
  refine kV1 (ci := 4) (As := [.int 20, .int a1, .int a2, .int a3]) (rest := []) hC hE hS hM (mq_X4_sumOf _ E this 20 a1 a2 a3 _ _ _ h1) (gwV qw_1006 qw_1008 qw_32 qw_39 qw_1009) ⟨rfl, rfl, (Nat.le_of_ble_eq_true rfl), (Nat.le_of_ble_eq_true rfl)⟩ dd_X4_sumOf rfl hk1 rfl rfl hl.1 (Nat.le_of_ble_eq_true rfl) dX4_decrements_6 ⟨(Nat.le_of_ble_eq_true rfl), (Nat.le_of_ble_eq_true rfl)⟩ (fun H locs hM hS => ?_)
  cases h
  exact eI hx hb hr hlocks hM hS dX4_decrements_9 (Nat.le_of_ble_eq_true rfl) (Nat.le_of_ble_eq_true rfl)

abbrev rmq_X4_requireTag : Room := ({ frames := 0, cells := 0, slots := 0, locals := 0 } : Room)
set_option maxHeartbeats 4000000 in
set_option maxRecDepth 100000 in
theorem tq_X4_requireTag_10 {p : Program} {l : Launch} {e : Env} {s : State} {m : MethodId} {args : Array Value} {below : List Frame} {meth : Method} {c : Code} {E : KEnv} {H : Heap} {locs : List Loc} {ls : Array Slot}  {M : Mem} {M' : Mem} (hC : CallFix p m c cX4_requireTag 2 s args lw_G RX4) (hr : meth.sig.returnType = none) (hlocks : meth.locks = false) (hE : EnvOK E s) (h : fj_X4_requireTag_10  M = some (.inl (), M')) (hM : MOK E M H) (hS : va_S (eA E) s.heap H locs) (hl : lv_has ls 2 []) : W p l e rmq_X4_requireTag s m args below meth c H locs 0 0 (MQ below (cQ E none M') args s 0 0 (eA E)) (F0 m 10 ls []) := by
  obtain ⟨hx, hb, hml, hown, hts⟩ := id hC
  unfold fj_X4_requireTag_10 at h
  cases h
set_option maxHeartbeats 4000000 in
set_option maxRecDepth 100000 in
theorem mq_X4_requireTag (l : Launch) (E : KEnv) (this : Nat) (a1 : Int32) (M M' : Mem) (h : f_X4_requireTag this a1 M = some (.inl (), M')) : Met l yX4_requireTag (Cond.code yX4_requireTag cX4_requireTag 2 none :: lw_G) rmq_X4_requireTag (cPc E [.ref this, .int a1] M) (cQ E none M') 0 0 (eA E) := by
  refine Met.ofW (cc := cX4_requireTag) (maxL := 2) (ret := none) (by decide) rfl ?_
  intro p e s m args below meth c s₁ B hml hv
  obtain ⟨rfl, hE, hM⟩ := hv
  have hx := B.exec
  have hb := B.bytes
  have hr := B.returns
  have hts0 := atoms_spec (ws := Cond.code yX4_requireTag cX4_requireTag 2 none :: lw_G) B.pre
  have hts : ∀ w ∈ lw_G, w.before _ s = true := fun w hw => hts0 w (List.mem_cons_of_mem _ hw)
  have hown : s.vm.findClass RX4 = some m.cls := findClass_of_methodNamed B.named
  have hlocks := B.notSynchronized
  have hC : CallFix p m c cX4_requireTag 2 s _ lw_G RX4 := ⟨hx, hb, hml, hown, hts⟩
  have hS : va_S (eA E) s.heap s.heap [] := va_S.rf
  have hl := lv_entry ([.ref this, .int a1]) (n := 2) (Nat.le_of_ble_eq_true rfl)
  rw [lg_entry_eq]
  generalize (lg_sl ([.ref this, .int a1]) ++ List.replicate (2 - (lg_sl ([.ref this, .int a1])).length) Slot.unset).toArray = ls at hl ⊢
  have hl : lv_has ls 2 [(0, .ref this), (1, .int a1)] := hl
  unfold f_X4_requireTag at h
  show W p l e rmq_X4_requireTag s m _ below meth c s.heap [] 0 0 _ _
  refine lv_iload_n hx hb dX4_requireTag_0 rfl (lv_at hl 1 rfl) ?_
  refine lv_if_lt (tgt := 10) hx hb dX4_requireTag_1 (by decide) (fun c1 => ?_) (fun c1 => ?_)
  · have h := ifp c1 h
    refine W.widen (k := 0) (n := 0) (Nat.le_of_ble_eq_true rfl) (Nat.le_of_ble_eq_true rfl) ?_
    exact tq_X4_requireTag_10  hC hr hlocks hE  h hM hS (lv_sub hl [] rfl)
  · have h := ifn c1 h
    refine lv_iload_n hx hb dX4_requireTag_4 rfl (lv_at hl 1 rfl) ?_
    refine lv_bipush (v := 16) hx hb dX4_requireTag_5 (by decide) ?_
    refine lv_icmp_lt (tgt := 20) hx hb dX4_requireTag_7 (by decide) (fun c1 => ?_) (fun c1 => ?_)
    · have h := ifp c1 h
      cases h
      exact eV_ hx hb hr hlocks hM hS dX4_requireTag_20 (Nat.le_of_ble_eq_true rfl) (Nat.le_of_ble_eq_true rfl)
    · have h := ifn c1 h
      refine W.widen (k := 0) (n := 0) (Nat.le_of_ble_eq_true rfl) (Nat.le_of_ble_eq_true rfl) ?_
      exact tq_X4_requireTag_10  hC hr hlocks hE  h hM hS (lv_sub hl [] rfl)

abbrev rmq_X4_liveDots : Room := ({ frames := 2, cells := 0, slots := 0, locals := 44 } : Room)
set_option maxHeartbeats 4000000 in
set_option maxRecDepth 100000 in
theorem mq_X4_liveDots (l : Launch) (E : KEnv) (this : Nat) (a1 : Int32) (a2 : Int32) (M M' : Mem) (v : Int32) (h : f_X4_liveDots this a1 a2 M = some (.inl v, M')) : Met l yX4_liveDots (Cond.code yX4_liveDots cX4_liveDots 4 (some .int) :: lw_G) rmq_X4_liveDots (cPc E [.ref this, .int a1, .int a2] M) (cQ E (some (.int v)) M') 0 0 (eA E) := by
  refine Met.ofW (cc := cX4_liveDots) (maxL := 4) (ret := (some .int)) (by decide) rfl ?_
  intro p e s m args below meth c s₁ B hml hv
  obtain ⟨rfl, hE, hM⟩ := hv
  have hx := B.exec
  have hb := B.bytes
  have hr := B.returns
  have hts0 := atoms_spec (ws := Cond.code yX4_liveDots cX4_liveDots 4 (some .int) :: lw_G) B.pre
  have hts : ∀ w ∈ lw_G, w.before _ s = true := fun w hw => hts0 w (List.mem_cons_of_mem _ hw)
  have hown : s.vm.findClass RX4 = some m.cls := findClass_of_methodNamed B.named
  have hlocks := B.notSynchronized
  have hC : CallFix p m c cX4_liveDots 4 s _ lw_G RX4 := ⟨hx, hb, hml, hown, hts⟩
  have hS : va_S (eA E) s.heap s.heap [] := va_S.rf
  have hl := lv_entry ([.ref this, .int a1, .int a2]) (n := 4) (Nat.le_of_ble_eq_true rfl)
  rw [lg_entry_eq]
  generalize (lg_sl ([.ref this, .int a1, .int a2]) ++ List.replicate (4 - (lg_sl ([.ref this, .int a1, .int a2])).length) Slot.unset).toArray = ls at hl ⊢
  have hl : lv_has ls 4 [(0, .ref this), (1, .int a1), (2, .int a2)] := hl
  unfold f_X4_liveDots at h
  show W p l e rmq_X4_liveDots s m _ below meth c s.heap [] 0 0 _ _
  refine lv_aload_n hx hb dX4_liveDots_0 rfl (lv_at hl 0 rfl) ?_
  refine lv_iload_n hx hb dX4_liveDots_1 rfl (lv_at hl 1 rfl) ?_
  rcases obx h with ⟨v1, M2, h1, h⟩ | ⟨ex, M9, h1, h⟩
  rotate_left
  · exfalso
    cases h
  obtain ⟨hk1, h1⟩ := ifg h1
  refine kV1 (ci := 4) (As := [.int a1]) (rest := []) hC hE hS hM (mq_X4_stateOf _ E this a1 _ _ _ h1) (gwV qw_619 qw_621 qw_25 qw_39 qw_622) ⟨rfl, rfl, (Nat.le_of_ble_eq_true rfl), (Nat.le_of_ble_eq_true rfl)⟩ dd_X4_stateOf rfl hk1 rfl rfl hl.1 (Nat.le_of_ble_eq_true rfl) dX4_liveDots_2 ⟨(Nat.le_of_ble_eq_true rfl), (Nat.le_of_ble_eq_true rfl)⟩ (fun H locs hM hS => ?_)
  refine lv_astore_n (lv' := [(3, .ref v1), (0, .ref this), (1, .int a1), (2, .int a2)]) hx hb dX4_liveDots_5 rfl hl (by decide) rfl (fun ls hl => ?_)
  refine lv_aload_n hx hb dX4_liveDots_6 rfl (lv_at hl 1 rfl) ?_
  refine lv_iload_n hx hb dX4_liveDots_7 rfl (lv_at hl 3 rfl) ?_
  rcases obx h with ⟨v3, M4, h1, h⟩ | ⟨ex, M9, h1, h⟩
  rotate_left
  · exfalso
    cases h
  obtain ⟨hk1, h1⟩ := ifg h1
  refine kV0 (ci := 4) (As := [.int a2]) (rest := []) hC hE hS hM (mq_X4_requireTag _ E this a2 _ _ h1) (gwV qw_652 qw_654 qw_28 qw_39 qw_655) ⟨rfl, rfl, (Nat.le_of_ble_eq_true rfl), (Nat.le_of_ble_eq_true rfl)⟩ dd_X4_requireTag rfl hk1 rfl rfl hl.1 (Nat.le_of_ble_eq_true rfl) dX4_liveDots_8 ⟨(Nat.le_of_ble_eq_true rfl), (Nat.le_of_ble_eq_true rfl)⟩ (fun H locs hM hS => ?_)
  refine lv_aload_n hx hb dX4_liveDots_11 rfl (lv_at hl 0 rfl) ?_
  refine lv_iload_n hx hb dX4_liveDots_12 rfl (lv_at hl 3 rfl) ?_
  obtain ⟨v5, M6, h1, h⟩ := ob2 h
  obtain ⟨hk1, h1⟩ := ifg h1
  refine kV1 (ci := 2) (As := [.int a2]) (rest := []) hC hE hS hM (mt_X2_dotsOfTag _ E v1 a2 _ _ _ h1) (gwV qw_669 qw_341 qw_342 qw_41 qw_343) ⟨rfl, rfl, (Nat.le_of_ble_eq_true rfl), (Nat.le_of_ble_eq_true rfl)⟩ dd_X2_dotsOfTag rfl hk1 rfl rfl hl.1 (Nat.le_of_ble_eq_true rfl) dX4_liveDots_13 ⟨(Nat.le_of_ble_eq_true rfl), (Nat.le_of_ble_eq_true rfl)⟩ (fun H locs hM hS => ?_)
  cases h
  exact eI hx hb hr hlocks hM hS dX4_liveDots_16 (Nat.le_of_ble_eq_true rfl) (Nat.le_of_ble_eq_true rfl)

abbrev rmq_X4_hasTag : Room := ({ frames := 3, cells := 0, slots := 0, locals := 67 } : Room)
set_option maxHeartbeats 4000000 in
set_option maxRecDepth 100000 in
theorem tq_X4_hasTag_14 {p : Program} {l : Launch} {e : Env} {s : State} {m : MethodId} {args : Array Value} {below : List Frame} {meth : Method} {c : Code} {E : KEnv} {H : Heap} {locs : List Loc} {ls : Array Slot} {s0 : Int32} {M : Mem} {v : Int32} {M' : Mem} (hC : CallFix p m c cX4_hasTag 3 s args lw_G RX4) (hr : meth.sig.returnType = (some .boolean)) (hlocks : meth.locks = false) (hE : EnvOK E s) (h : fj_X4_hasTag_14 s0 M = some (.inl v, M')) (hM : MOK E M H) (hS : va_S (eA E) s.heap H locs) (hl : lv_has ls 3 []) : W p l e rmq_X4_hasTag s m args below meth c H locs 0 0 (MQ below (cQ E (some (.int v)) M') args s 0 0 (eA E)) (F0 m 14 ls [.int s0]) := by
  obtain ⟨hx, hb, hml, hown, hts⟩ := id hC
  unfold fj_X4_hasTag_14 at h
  obtain ⟨h01, h⟩ := ifg h
  cases h
  exact eZ hx hb hr hlocks hM hS dX4_hasTag_14 (Nat.le_of_ble_eq_true rfl) (Nat.le_of_ble_eq_true rfl) h01
set_option maxHeartbeats 4000000 in
set_option maxRecDepth 100000 in
theorem mq_X4_hasTag (l : Launch) (E : KEnv) (this : Nat) (a1 : Int32) (a2 : Int32) (M M' : Mem) (v : Int32) (h : f_X4_hasTag this a1 a2 M = some (.inl v, M')) : Met l yX4_hasTag (Cond.code yX4_hasTag cX4_hasTag 3 (some .boolean) :: lw_G) rmq_X4_hasTag (cPc E [.ref this, .int a1, .int a2] M) (cQ E (some (.int v)) M') 0 0 (eA E) := by
  refine Met.ofW (cc := cX4_hasTag) (maxL := 3) (ret := (some .boolean)) (by decide) rfl ?_
  intro p e s m args below meth c s₁ B hml hv
  obtain ⟨rfl, hE, hM⟩ := hv
  have hx := B.exec
  have hb := B.bytes
  have hr := B.returns
  have hts0 := atoms_spec (ws := Cond.code yX4_hasTag cX4_hasTag 3 (some .boolean) :: lw_G) B.pre
  have hts : ∀ w ∈ lw_G, w.before _ s = true := fun w hw => hts0 w (List.mem_cons_of_mem _ hw)
  have hown : s.vm.findClass RX4 = some m.cls := findClass_of_methodNamed B.named
  have hlocks := B.notSynchronized
  have hC : CallFix p m c cX4_hasTag 3 s _ lw_G RX4 := ⟨hx, hb, hml, hown, hts⟩
  have hS : va_S (eA E) s.heap s.heap [] := va_S.rf
  have hl := lv_entry ([.ref this, .int a1, .int a2]) (n := 3) (Nat.le_of_ble_eq_true rfl)
  rw [lg_entry_eq]
  generalize (lg_sl ([.ref this, .int a1, .int a2]) ++ List.replicate (3 - (lg_sl ([.ref this, .int a1, .int a2])).length) Slot.unset).toArray = ls at hl ⊢
  have hl : lv_has ls 3 [(0, .ref this), (1, .int a1), (2, .int a2)] := hl
  unfold f_X4_hasTag at h
  show W p l e rmq_X4_hasTag s m _ below meth c s.heap [] 0 0 _ _
  refine lv_aload_n hx hb dX4_hasTag_0 rfl (lv_at hl 0 rfl) ?_
  refine lv_iload_n hx hb dX4_hasTag_1 rfl (lv_at hl 1 rfl) ?_
  refine lv_iload_n hx hb dX4_hasTag_2 rfl (lv_at hl 2 rfl) ?_
  rcases obx h with ⟨v1, M2, h1, h⟩ | ⟨ex, M9, h1, h⟩
  rotate_left
  · exfalso
    cases h
  obtain ⟨hk1, h1⟩ := ifg h1
  refine kV1 (ci := 4) (As := [.int a1, .int a2]) (rest := []) hC hE hS hM (mq_X4_liveDots _ E this a1 a2 _ _ _ h1) (gwV qw_1067 qw_1060 qw_1061 qw_39 qw_1062) ⟨rfl, rfl, (Nat.le_of_ble_eq_true rfl), (Nat.le_of_ble_eq_true rfl)⟩ dd_X4_liveDots rfl hk1 rfl rfl hl.1 (Nat.le_of_ble_eq_true rfl) dX4_hasTag_3 ⟨(Nat.le_of_ble_eq_true rfl), (Nat.le_of_ble_eq_true rfl)⟩ (fun H locs hM hS => ?_)
  refine lv_if_le (tgt := 13) hx hb dX4_hasTag_6 (by decide) (fun c1 => ?_) (fun c1 => ?_)
  · have h := ifp c1 h
    refine lv_iconst (v := 0) hx hb dX4_hasTag_13 (by decide) ?_
    refine W.widen (k := 0) (n := 0) (Nat.le_of_ble_eq_true rfl) (Nat.le_of_ble_eq_true rfl) ?_
    exact tq_X4_hasTag_14  hC hr hlocks hE  h hM hS (lv_sub hl [] rfl)
  · have h := ifn c1 h
    refine lv_iconst (v := 1) hx hb dX4_hasTag_9 (by decide) ?_
    refine lv_goto (tgt := 14) hx hb dX4_hasTag_10 (by decide) ?_
    refine W.widen (k := 0) (n := 0) (Nat.le_of_ble_eq_true rfl) (Nat.le_of_ble_eq_true rfl) ?_
    exact tq_X4_hasTag_14  hC hr hlocks hE  h hM hS (lv_sub hl [] rfl)

abbrev rmq_X4_tagDot : Room := ({ frames := 2, cells := 0, slots := 0, locals := 42 } : Room)
set_option maxHeartbeats 4000000 in
set_option maxRecDepth 100000 in
theorem mq_X4_tagDot (l : Launch) (E : KEnv) (this : Nat) (a1 : Int32) (a2 : Int32) (a3 : Int32) (M M' : Mem) (v : Int32) (h : f_X4_tagDot this a1 a2 a3 M = some (.inl v, M')) : Met l yX4_tagDot (Cond.code yX4_tagDot cX4_tagDot 5 (some .int) :: lw_G) rmq_X4_tagDot (cPc E [.ref this, .int a1, .int a2, .int a3] M) (cQ E (some (.int v)) M') 0 0 (eA E) := by
  refine Met.ofW (cc := cX4_tagDot) (maxL := 5) (ret := (some .int)) (by decide) rfl ?_
  intro p e s m args below meth c s₁ B hml hv
  obtain ⟨rfl, hE, hM⟩ := hv
  have hx := B.exec
  have hb := B.bytes
  have hr := B.returns
  have hts0 := atoms_spec (ws := Cond.code yX4_tagDot cX4_tagDot 5 (some .int) :: lw_G) B.pre
  have hts : ∀ w ∈ lw_G, w.before _ s = true := fun w hw => hts0 w (List.mem_cons_of_mem _ hw)
  have hown : s.vm.findClass RX4 = some m.cls := findClass_of_methodNamed B.named
  have hlocks := B.notSynchronized
  have hC : CallFix p m c cX4_tagDot 5 s _ lw_G RX4 := ⟨hx, hb, hml, hown, hts⟩
  have hS : va_S (eA E) s.heap s.heap [] := va_S.rf
  have hl := lv_entry ([.ref this, .int a1, .int a2, .int a3]) (n := 5) (Nat.le_of_ble_eq_true rfl)
  rw [lg_entry_eq]
  generalize (lg_sl ([.ref this, .int a1, .int a2, .int a3]) ++ List.replicate (5 - (lg_sl ([.ref this, .int a1, .int a2, .int a3])).length) Slot.unset).toArray = ls at hl ⊢
  have hl : lv_has ls 5 [(0, .ref this), (1, .int a1), (2, .int a2), (3, .int a3)] := hl
  unfold f_X4_tagDot at h
  show W p l e rmq_X4_tagDot s m _ below meth c s.heap [] 0 0 _ _
  refine lv_aload_n hx hb dX4_tagDot_0 rfl (lv_at hl 0 rfl) ?_
  refine lv_iload_n hx hb dX4_tagDot_1 rfl (lv_at hl 1 rfl) ?_
  rcases obx h with ⟨v1, M2, h1, h⟩ | ⟨ex, M9, h1, h⟩
  rotate_left
  · exfalso
    cases h
  obtain ⟨hk1, h1⟩ := ifg h1
  refine kV1 (ci := 4) (As := [.int a1]) (rest := []) hC hE hS hM (mq_X4_stateOf _ E this a1 _ _ _ h1) (gwV qw_619 qw_621 qw_25 qw_39 qw_622) ⟨rfl, rfl, (Nat.le_of_ble_eq_true rfl), (Nat.le_of_ble_eq_true rfl)⟩ dd_X4_stateOf rfl hk1 rfl rfl hl.1 (Nat.le_of_ble_eq_true rfl) dX4_tagDot_2 ⟨(Nat.le_of_ble_eq_true rfl), (Nat.le_of_ble_eq_true rfl)⟩ (fun H locs hM hS => ?_)
  refine lv_astore (lv' := [(4, .ref v1), (0, .ref this), (1, .int a1), (2, .int a2), (3, .int a3)]) hx hb dX4_tagDot_5 hl (by decide) rfl (fun ls hl => ?_)
  refine lv_aload_n hx hb dX4_tagDot_7 rfl (lv_at hl 1 rfl) ?_
  refine lv_iload_n hx hb dX4_tagDot_8 rfl (lv_at hl 3 rfl) ?_
  rcases obx h with ⟨v3, M4, h1, h⟩ | ⟨ex, M9, h1, h⟩
  rotate_left
  · exfalso
    cases h
  obtain ⟨hk1, h1⟩ := ifg h1
  refine kV0 (ci := 4) (As := [.int a2]) (rest := []) hC hE hS hM (mq_X4_requireTag _ E this a2 _ _ h1) (gwV qw_652 qw_654 qw_28 qw_39 qw_655) ⟨rfl, rfl, (Nat.le_of_ble_eq_true rfl), (Nat.le_of_ble_eq_true rfl)⟩ dd_X4_requireTag rfl hk1 rfl rfl hl.1 (Nat.le_of_ble_eq_true rfl) dX4_tagDot_9 ⟨(Nat.le_of_ble_eq_true rfl), (Nat.le_of_ble_eq_true rfl)⟩ (fun H locs hM hS => ?_)
  refine lv_aload_n hx hb dX4_tagDot_12 rfl (lv_at hl 1 rfl) ?_
  refine lv_iload_n hx hb dX4_tagDot_13 rfl (lv_at hl 4 rfl) ?_
  rcases obx h with ⟨v5, M6, h1, h⟩ | ⟨ex, M9, h1, h⟩
  rotate_left
  · exfalso
    cases h
  obtain ⟨hk1, h1⟩ := ifg h1
  refine kV0 (ci := 4) (As := [.int a3]) (rest := []) hC hE hS hM (mq_X4_requireReplica _ E this a3 _ _ h1) (gwV qw_623 qw_625 qw_26 qw_39 qw_626) ⟨rfl, rfl, (Nat.le_of_ble_eq_true rfl), (Nat.le_of_ble_eq_true rfl)⟩ dd_X4_requireReplica rfl hk1 rfl rfl hl.1 (Nat.le_of_ble_eq_true rfl) dX4_tagDot_14 ⟨(Nat.le_of_ble_eq_true rfl), (Nat.le_of_ble_eq_true rfl)⟩ (fun H locs hM hS => ?_)
  refine lv_aload hx hb dX4_tagDot_17 (lv_at hl 0 rfl) ?_
  refine lv_iload_n hx hb dX4_tagDot_19 rfl (lv_at hl 3 rfl) ?_
  refine lv_iload_n hx hb dX4_tagDot_20 rfl (lv_at hl 4 rfl) ?_
  obtain ⟨v7, M8, h1, h⟩ := ob2 h
  obtain ⟨hk1, h1⟩ := ifg h1
  refine kV1 (ci := 2) (As := [.int a2, .int a3]) (rest := []) hC hE hS hM (mt_X2_dotOfTag _ E v1 a2 a3 _ _ _ h1) (gwV qw_1019 qw_1020 qw_1021 qw_41 qw_1022) ⟨rfl, rfl, (Nat.le_of_ble_eq_true rfl), (Nat.le_of_ble_eq_true rfl)⟩ dd_X2_dotOfTag rfl hk1 rfl rfl hl.1 (Nat.le_of_ble_eq_true rfl) dX4_tagDot_21 ⟨(Nat.le_of_ble_eq_true rfl), (Nat.le_of_ble_eq_true rfl)⟩ (fun H locs hM hS => ?_)
  cases h
  exact eI hx hb hr hlocks hM hS dX4_tagDot_24 (Nat.le_of_ble_eq_true rfl) (Nat.le_of_ble_eq_true rfl)

abbrev rmq_X4_tagCount : Room := ({ frames := 3, cells := 0, slots := 0, locals := 66 } : Room)
set_option maxHeartbeats 4000000 in
set_option maxRecDepth 100000 in
theorem mq_X4_tagCount (l : Launch) (E : KEnv) (this : Nat) (a1 : Int32) (M M' : Mem) (v : Int32) (h : f_X4_tagCount this a1 M = some (.inl v, M')) : Met l yX4_tagCount (Cond.code yX4_tagCount cX4_tagCount 2 (some .int) :: lw_G) rmq_X4_tagCount (cPc E [.ref this, .int a1] M) (cQ E (some (.int v)) M') 0 0 (eA E) := by
  refine Met.ofW (cc := cX4_tagCount) (maxL := 2) (ret := (some .int)) (by decide) rfl ?_
  intro p e s m args below meth c s₁ B hml hv
  obtain ⟨rfl, hE, hM⟩ := hv
  have hx := B.exec
  have hb := B.bytes
  have hr := B.returns
  have hts0 := atoms_spec (ws := Cond.code yX4_tagCount cX4_tagCount 2 (some .int) :: lw_G) B.pre
  have hts : ∀ w ∈ lw_G, w.before _ s = true := fun w hw => hts0 w (List.mem_cons_of_mem _ hw)
  have hown : s.vm.findClass RX4 = some m.cls := findClass_of_methodNamed B.named
  have hlocks := B.notSynchronized
  have hC : CallFix p m c cX4_tagCount 2 s _ lw_G RX4 := ⟨hx, hb, hml, hown, hts⟩
  have hS : va_S (eA E) s.heap s.heap [] := va_S.rf
  have hl := lv_entry ([.ref this, .int a1]) (n := 2) (Nat.le_of_ble_eq_true rfl)
  rw [lg_entry_eq]
  generalize (lg_sl ([.ref this, .int a1]) ++ List.replicate (2 - (lg_sl ([.ref this, .int a1])).length) Slot.unset).toArray = ls at hl ⊢
  have hl : lv_has ls 2 [(0, .ref this), (1, .int a1)] := hl
  unfold f_X4_tagCount at h
  show W p l e rmq_X4_tagCount s m _ below meth c s.heap [] 0 0 _ _
  refine lv_aload_n hx hb dX4_tagCount_0 rfl (lv_at hl 0 rfl) ?_
  refine lv_iload_n hx hb dX4_tagCount_1 rfl (lv_at hl 1 rfl) ?_
  rcases obx h with ⟨v1, M2, h1, h⟩ | ⟨ex, M9, h1, h⟩
  rotate_left
  · exfalso
    cases h
  obtain ⟨hk1, h1⟩ := ifg h1
  refine kV1 (ci := 4) (As := [.int a1]) (rest := []) hC hE hS hM (mq_X4_stateOf _ E this a1 _ _ _ h1) (gwV qw_619 qw_621 qw_25 qw_39 qw_622) ⟨rfl, rfl, (Nat.le_of_ble_eq_true rfl), (Nat.le_of_ble_eq_true rfl)⟩ dd_X4_stateOf rfl hk1 rfl rfl hl.1 (Nat.le_of_ble_eq_true rfl) dX4_tagCount_2 ⟨(Nat.le_of_ble_eq_true rfl), (Nat.le_of_ble_eq_true rfl)⟩ (fun H locs hM hS => ?_)
  obtain ⟨v3, M4, h1, h⟩ := ob2 h
  obtain ⟨hk1, h1⟩ := ifg h1
  refine kV1 (ci := 2) (As := []) (rest := []) hC hE hS hM (mt_X2_presentTags _ E v1 _ _ _ h1) (gwV qw_1094 qw_1095 qw_1096 qw_41 qw_1097) ⟨rfl, rfl, (Nat.le_of_ble_eq_true rfl), (Nat.le_of_ble_eq_true rfl)⟩ dd_X2_presentTags rfl hk1 rfl rfl hl.1 (Nat.le_of_ble_eq_true rfl) dX4_tagCount_5 ⟨(Nat.le_of_ble_eq_true rfl), (Nat.le_of_ble_eq_true rfl)⟩ (fun H locs hM hS => ?_)
  cases h
  exact eI hx hb hr hlocks hM hS dX4_tagCount_8 (Nat.le_of_ble_eq_true rfl) (Nat.le_of_ble_eq_true rfl)

abbrev rmq_X4_tagAt : Room := ({ frames := 3, cells := 0, slots := 0, locals := 67 } : Room)
set_option maxHeartbeats 4000000 in
set_option maxRecDepth 100000 in
theorem mq_X4_tagAt (l : Launch) (E : KEnv) (this : Nat) (a1 : Int32) (a2 : Int32) (M M' : Mem) (v : Int32) (h : f_X4_tagAt this a1 a2 M = some (.inl v, M')) : Met l yX4_tagAt (Cond.code yX4_tagAt cX4_tagAt 4 (some .int) :: lw_G) rmq_X4_tagAt (cPc E [.ref this, .int a1, .int a2] M) (cQ E (some (.int v)) M') 0 0 (eA E) := by
  refine Met.ofW (cc := cX4_tagAt) (maxL := 4) (ret := (some .int)) (by decide) rfl ?_
  intro p e s m args below meth c s₁ B hml hv
  obtain ⟨rfl, hE, hM⟩ := hv
  have hx := B.exec
  have hb := B.bytes
  have hr := B.returns
  have hts0 := atoms_spec (ws := Cond.code yX4_tagAt cX4_tagAt 4 (some .int) :: lw_G) B.pre
  have hts : ∀ w ∈ lw_G, w.before _ s = true := fun w hw => hts0 w (List.mem_cons_of_mem _ hw)
  have hown : s.vm.findClass RX4 = some m.cls := findClass_of_methodNamed B.named
  have hlocks := B.notSynchronized
  have hC : CallFix p m c cX4_tagAt 4 s _ lw_G RX4 := ⟨hx, hb, hml, hown, hts⟩
  have hS : va_S (eA E) s.heap s.heap [] := va_S.rf
  have hl := lv_entry ([.ref this, .int a1, .int a2]) (n := 4) (Nat.le_of_ble_eq_true rfl)
  rw [lg_entry_eq]
  generalize (lg_sl ([.ref this, .int a1, .int a2]) ++ List.replicate (4 - (lg_sl ([.ref this, .int a1, .int a2])).length) Slot.unset).toArray = ls at hl ⊢
  have hl : lv_has ls 4 [(0, .ref this), (1, .int a1), (2, .int a2)] := hl
  unfold f_X4_tagAt at h
  show W p l e rmq_X4_tagAt s m _ below meth c s.heap [] 0 0 _ _
  refine lv_aload_n hx hb dX4_tagAt_0 rfl (lv_at hl 0 rfl) ?_
  refine lv_iload_n hx hb dX4_tagAt_1 rfl (lv_at hl 1 rfl) ?_
  rcases obx h with ⟨v1, M2, h1, h⟩ | ⟨ex, M9, h1, h⟩
  rotate_left
  · exfalso
    cases h
  obtain ⟨hk1, h1⟩ := ifg h1
  refine kV1 (ci := 4) (As := [.int a1]) (rest := []) hC hE hS hM (mq_X4_stateOf _ E this a1 _ _ _ h1) (gwV qw_619 qw_621 qw_25 qw_39 qw_622) ⟨rfl, rfl, (Nat.le_of_ble_eq_true rfl), (Nat.le_of_ble_eq_true rfl)⟩ dd_X4_stateOf rfl hk1 rfl rfl hl.1 (Nat.le_of_ble_eq_true rfl) dX4_tagAt_2 ⟨(Nat.le_of_ble_eq_true rfl), (Nat.le_of_ble_eq_true rfl)⟩ (fun H locs hM hS => ?_)
  refine lv_iload_n hx hb dX4_tagAt_5 rfl (lv_at hl 2 rfl) ?_
  obtain ⟨v3, M4, h1, h⟩ := ob2 h
  obtain ⟨hk1, h1⟩ := ifg h1
  refine kV1 (ci := 2) (As := [.int a2]) (rest := []) hC hE hS hM (mt_X2_presentTag _ E v1 a2 _ _ _ h1) (gwV qw_1075 qw_1076 qw_1077 qw_41 qw_1078) ⟨rfl, rfl, (Nat.le_of_ble_eq_true rfl), (Nat.le_of_ble_eq_true rfl)⟩ dd_X2_presentTag rfl hk1 rfl rfl hl.1 (Nat.le_of_ble_eq_true rfl) dX4_tagAt_6 ⟨(Nat.le_of_ble_eq_true rfl), (Nat.le_of_ble_eq_true rfl)⟩ (fun H locs hM hS => ?_)
  refine lv_istore_n (lv' := [(3, .int v3), (0, .ref this), (1, .int a1), (2, .int a2)]) hx hb dX4_tagAt_9 rfl hl (by decide) rfl (fun ls hl => ?_)
  refine lv_iload_n hx hb dX4_tagAt_10 rfl (lv_at hl 0 rfl) ?_
  refine lv_iconst (v := (-1)) hx hb dX4_tagAt_11 (by decide) ?_
  refine lv_icmp_ne (tgt := 25) hx hb dX4_tagAt_12 (by decide) (fun c1 => ?_) (fun c1 => ?_)
  · have h := ifn c1 h
    refine lv_iload_n hx hb dX4_tagAt_25 rfl (lv_at hl 0 rfl) ?_
    cases h
    exact eI hx hb hr hlocks hM hS dX4_tagAt_26 (Nat.le_of_ble_eq_true rfl) (Nat.le_of_ble_eq_true rfl)
  · have h := ifp c1 h
    cases h

abbrev rmq_X4_requireRegister : Room := ({ frames := 0, cells := 0, slots := 0, locals := 0 } : Room)
set_option maxHeartbeats 4000000 in
set_option maxRecDepth 100000 in
theorem tq_X4_requireRegister_15 {p : Program} {l : Launch} {e : Env} {s : State} {m : MethodId} {args : Array Value} {below : List Frame} {meth : Method} {c : Code} {E : KEnv} {H : Heap} {locs : List Loc} {ls : Array Slot}  {M : Mem} {M' : Mem} (hC : CallFix p m c cX4_requireRegister 2 s args lw_G RX4) (hr : meth.sig.returnType = none) (hlocks : meth.locks = false) (hE : EnvOK E s) (h : fj_X4_requireRegister_15  M = some (.inl (), M')) (hM : MOK E M H) (hS : va_S (eA E) s.heap H locs) (hl : lv_has ls 2 []) : W p l e rmq_X4_requireRegister s m args below meth c H locs 0 0 (MQ below (cQ E none M') args s 0 0 (eA E)) (F0 m 15 ls []) := by
  obtain ⟨hx, hb, hml, hown, hts⟩ := id hC
  unfold fj_X4_requireRegister_15 at h
  cases h
set_option maxHeartbeats 4000000 in
set_option maxRecDepth 100000 in
theorem mq_X4_requireRegister (l : Launch) (E : KEnv) (this : Nat) (a1 : Int32) (M M' : Mem) (h : f_X4_requireRegister this a1 M = some (.inl (), M')) : Met l yX4_requireRegister (Cond.code yX4_requireRegister cX4_requireRegister 2 none :: lw_G) rmq_X4_requireRegister (cPc E [.ref this, .int a1] M) (cQ E none M') 0 0 (eA E) := by
  refine Met.ofW (cc := cX4_requireRegister) (maxL := 2) (ret := none) (by decide) rfl ?_
  intro p e s m args below meth c s₁ B hml hv
  obtain ⟨rfl, hE, hM⟩ := hv
  have hx := B.exec
  have hb := B.bytes
  have hr := B.returns
  have hts0 := atoms_spec (ws := Cond.code yX4_requireRegister cX4_requireRegister 2 none :: lw_G) B.pre
  have hts : ∀ w ∈ lw_G, w.before _ s = true := fun w hw => hts0 w (List.mem_cons_of_mem _ hw)
  have hown : s.vm.findClass RX4 = some m.cls := findClass_of_methodNamed B.named
  have hlocks := B.notSynchronized
  have hC : CallFix p m c cX4_requireRegister 2 s _ lw_G RX4 := ⟨hx, hb, hml, hown, hts⟩
  have hS : va_S (eA E) s.heap s.heap [] := va_S.rf
  have hl := lv_entry ([.ref this, .int a1]) (n := 2) (Nat.le_of_ble_eq_true rfl)
  rw [lg_entry_eq]
  generalize (lg_sl ([.ref this, .int a1]) ++ List.replicate (2 - (lg_sl ([.ref this, .int a1])).length) Slot.unset).toArray = ls at hl ⊢
  have hl : lv_has ls 2 [(0, .ref this), (1, .int a1)] := hl
  unfold f_X4_requireRegister at h
  show W p l e rmq_X4_requireRegister s m _ below meth c s.heap [] 0 0 _ _
  refine lv_iload_n hx hb dX4_requireRegister_0 rfl (lv_at hl 1 rfl) ?_
  refine lv_if_lt (tgt := 15) hx hb dX4_requireRegister_1 (by decide) (fun c1 => ?_) (fun c1 => ?_)
  · have h := ifp c1 h
    refine W.widen (k := 0) (n := 0) (Nat.le_of_ble_eq_true rfl) (Nat.le_of_ble_eq_true rfl) ?_
    exact tq_X4_requireRegister_15  hC hr hlocks hE  h hM hS (lv_sub hl [] rfl)
  · have h := ifn c1 h
    refine lv_iload_n hx hb dX4_requireRegister_4 rfl (lv_at hl 1 rfl) ?_
    refine lv_aload_n hx hb dX4_requireRegister_5 rfl (lv_at hl 0 rfl) ?_
    obtain ⟨v1, h1, h⟩ := ob h
    refine rgn_4_6 hx hb hts hown hE hM qw_404 h1 dX4_requireRegister_6 ?_
    obtain ⟨v2, h1, h⟩ := ob h
    refine rg_3_2 hx hb hts hown hE hM qw_95 h1 dX4_requireRegister_9 ?_
    refine lv_icmp_lt (tgt := 26) hx hb dX4_requireRegister_12 (by decide) (fun c1 => ?_) (fun c1 => ?_)
    · have h := ifp c1 h
      cases h
      exact eV_ hx hb hr hlocks hM hS dX4_requireRegister_26 (Nat.le_of_ble_eq_true rfl) (Nat.le_of_ble_eq_true rfl)
    · have h := ifn c1 h
      refine W.widen (k := 0) (n := 0) (Nat.le_of_ble_eq_true rfl) (Nat.le_of_ble_eq_true rfl) ?_
      exact tq_X4_requireRegister_15  hC hr hlocks hE  h hM hS (lv_sub hl [] rfl)

abbrev rmq_X4_entryCount : Room := ({ frames := 2, cells := 0, slots := 0, locals := 44 } : Room)
set_option maxHeartbeats 4000000 in
set_option maxRecDepth 100000 in
theorem mq_X4_entryCount (l : Launch) (E : KEnv) (this : Nat) (a1 : Int32) (a2 : Int32) (M M' : Mem) (v : Int32) (h : f_X4_entryCount this a1 a2 M = some (.inl v, M')) : Met l yX4_entryCount (Cond.code yX4_entryCount cX4_entryCount 4 (some .int) :: lw_G) rmq_X4_entryCount (cPc E [.ref this, .int a1, .int a2] M) (cQ E (some (.int v)) M') 0 0 (eA E) := by
  refine Met.ofW (cc := cX4_entryCount) (maxL := 4) (ret := (some .int)) (by decide) rfl ?_
  intro p e s m args below meth c s₁ B hml hv
  obtain ⟨rfl, hE, hM⟩ := hv
  have hx := B.exec
  have hb := B.bytes
  have hr := B.returns
  have hts0 := atoms_spec (ws := Cond.code yX4_entryCount cX4_entryCount 4 (some .int) :: lw_G) B.pre
  have hts : ∀ w ∈ lw_G, w.before _ s = true := fun w hw => hts0 w (List.mem_cons_of_mem _ hw)
  have hown : s.vm.findClass RX4 = some m.cls := findClass_of_methodNamed B.named
  have hlocks := B.notSynchronized
  have hC : CallFix p m c cX4_entryCount 4 s _ lw_G RX4 := ⟨hx, hb, hml, hown, hts⟩
  have hS : va_S (eA E) s.heap s.heap [] := va_S.rf
  have hl := lv_entry ([.ref this, .int a1, .int a2]) (n := 4) (Nat.le_of_ble_eq_true rfl)
  rw [lg_entry_eq]
  generalize (lg_sl ([.ref this, .int a1, .int a2]) ++ List.replicate (4 - (lg_sl ([.ref this, .int a1, .int a2])).length) Slot.unset).toArray = ls at hl ⊢
  have hl : lv_has ls 4 [(0, .ref this), (1, .int a1), (2, .int a2)] := hl
  unfold f_X4_entryCount at h
  show W p l e rmq_X4_entryCount s m _ below meth c s.heap [] 0 0 _ _
  refine lv_aload_n hx hb dX4_entryCount_0 rfl (lv_at hl 0 rfl) ?_
  refine lv_iload_n hx hb dX4_entryCount_1 rfl (lv_at hl 1 rfl) ?_
  rcases obx h with ⟨v1, M2, h1, h⟩ | ⟨ex, M9, h1, h⟩
  rotate_left
  · exfalso
    cases h
  obtain ⟨hk1, h1⟩ := ifg h1
  refine kV1 (ci := 4) (As := [.int a1]) (rest := []) hC hE hS hM (mq_X4_stateOf _ E this a1 _ _ _ h1) (gwV qw_619 qw_621 qw_25 qw_39 qw_622) ⟨rfl, rfl, (Nat.le_of_ble_eq_true rfl), (Nat.le_of_ble_eq_true rfl)⟩ dd_X4_stateOf rfl hk1 rfl rfl hl.1 (Nat.le_of_ble_eq_true rfl) dX4_entryCount_2 ⟨(Nat.le_of_ble_eq_true rfl), (Nat.le_of_ble_eq_true rfl)⟩ (fun H locs hM hS => ?_)
  refine lv_astore_n (lv' := [(3, .ref v1), (0, .ref this), (1, .int a1), (2, .int a2)]) hx hb dX4_entryCount_5 rfl hl (by decide) rfl (fun ls hl => ?_)
  refine lv_aload_n hx hb dX4_entryCount_6 rfl (lv_at hl 1 rfl) ?_
  refine lv_iload_n hx hb dX4_entryCount_7 rfl (lv_at hl 3 rfl) ?_
  rcases obx h with ⟨v3, M4, h1, h⟩ | ⟨ex, M9, h1, h⟩
  rotate_left
  · exfalso
    cases h
  obtain ⟨hk1, h1⟩ := ifg h1
  refine kV0 (ci := 4) (As := [.int a2]) (rest := []) hC hE hS hM (mq_X4_requireRegister _ E this a2 _ _ h1) (gwV qw_679 qw_681 qw_29 qw_39 qw_682) ⟨rfl, rfl, (Nat.le_of_ble_eq_true rfl), (Nat.le_of_ble_eq_true rfl)⟩ dd_X4_requireRegister rfl hk1 rfl rfl hl.1 (Nat.le_of_ble_eq_true rfl) dX4_entryCount_8 ⟨(Nat.le_of_ble_eq_true rfl), (Nat.le_of_ble_eq_true rfl)⟩ (fun H locs hM hS => ?_)
  refine lv_aload_n hx hb dX4_entryCount_11 rfl (lv_at hl 0 rfl) ?_
  refine lv_iload_n hx hb dX4_entryCount_12 rfl (lv_at hl 3 rfl) ?_
  obtain ⟨v5, M6, h1, h⟩ := ob2 h
  obtain ⟨hk1, h1⟩ := ifg h1
  refine kV1 (ci := 2) (As := [.int a2]) (rest := []) hC hE hS hM (mt_X2_entries _ E v1 a2 _ _ _ h1) (gwV qw_685 qw_686 qw_687 qw_41 qw_688) ⟨rfl, rfl, (Nat.le_of_ble_eq_true rfl), (Nat.le_of_ble_eq_true rfl)⟩ dd_X2_entries rfl hk1 rfl rfl hl.1 (Nat.le_of_ble_eq_true rfl) dX4_entryCount_13 ⟨(Nat.le_of_ble_eq_true rfl), (Nat.le_of_ble_eq_true rfl)⟩ (fun H locs hM hS => ?_)
  cases h
  exact eI hx hb hr hlocks hM hS dX4_entryCount_16 (Nat.le_of_ble_eq_true rfl) (Nat.le_of_ble_eq_true rfl)

abbrev rmq_X4_entryValue : Room := ({ frames := 2, cells := 0, slots := 0, locals := 42 } : Room)
set_option maxHeartbeats 4000000 in
set_option maxRecDepth 100000 in
theorem mq_X4_entryValue (l : Launch) (E : KEnv) (this : Nat) (a1 : Int32) (a2 : Int32) (a3 : Int32) (M M' : Mem) (v : Int32) (h : f_X4_entryValue this a1 a2 a3 M = some (.inl v, M')) : Met l yX4_entryValue (Cond.code yX4_entryValue cX4_entryValue 5 (some .int) :: lw_G) rmq_X4_entryValue (cPc E [.ref this, .int a1, .int a2, .int a3] M) (cQ E (some (.int v)) M') 0 0 (eA E) := by
  refine Met.ofW (cc := cX4_entryValue) (maxL := 5) (ret := (some .int)) (by decide) rfl ?_
  intro p e s m args below meth c s₁ B hml hv
  obtain ⟨rfl, hE, hM⟩ := hv
  have hx := B.exec
  have hb := B.bytes
  have hr := B.returns
  have hts0 := atoms_spec (ws := Cond.code yX4_entryValue cX4_entryValue 5 (some .int) :: lw_G) B.pre
  have hts : ∀ w ∈ lw_G, w.before _ s = true := fun w hw => hts0 w (List.mem_cons_of_mem _ hw)
  have hown : s.vm.findClass RX4 = some m.cls := findClass_of_methodNamed B.named
  have hlocks := B.notSynchronized
  have hC : CallFix p m c cX4_entryValue 5 s _ lw_G RX4 := ⟨hx, hb, hml, hown, hts⟩
  have hS : va_S (eA E) s.heap s.heap [] := va_S.rf
  have hl := lv_entry ([.ref this, .int a1, .int a2, .int a3]) (n := 5) (Nat.le_of_ble_eq_true rfl)
  rw [lg_entry_eq]
  generalize (lg_sl ([.ref this, .int a1, .int a2, .int a3]) ++ List.replicate (5 - (lg_sl ([.ref this, .int a1, .int a2, .int a3])).length) Slot.unset).toArray = ls at hl ⊢
  have hl : lv_has ls 5 [(0, .ref this), (1, .int a1), (2, .int a2), (3, .int a3)] := hl
  unfold f_X4_entryValue at h
  show W p l e rmq_X4_entryValue s m _ below meth c s.heap [] 0 0 _ _
  refine lv_aload_n hx hb dX4_entryValue_0 rfl (lv_at hl 0 rfl) ?_
  refine lv_iload_n hx hb dX4_entryValue_1 rfl (lv_at hl 1 rfl) ?_
  rcases obx h with ⟨v1, M2, h1, h⟩ | ⟨ex, M9, h1, h⟩
  rotate_left
  · exfalso
    cases h
  obtain ⟨hk1, h1⟩ := ifg h1
  refine kV1 (ci := 4) (As := [.int a1]) (rest := []) hC hE hS hM (mq_X4_stateOf _ E this a1 _ _ _ h1) (gwV qw_619 qw_621 qw_25 qw_39 qw_622) ⟨rfl, rfl, (Nat.le_of_ble_eq_true rfl), (Nat.le_of_ble_eq_true rfl)⟩ dd_X4_stateOf rfl hk1 rfl rfl hl.1 (Nat.le_of_ble_eq_true rfl) dX4_entryValue_2 ⟨(Nat.le_of_ble_eq_true rfl), (Nat.le_of_ble_eq_true rfl)⟩ (fun H locs hM hS => ?_)
  refine lv_astore (lv' := [(4, .ref v1), (0, .ref this), (1, .int a1), (2, .int a2), (3, .int a3)]) hx hb dX4_entryValue_5 hl (by decide) rfl (fun ls hl => ?_)
  refine lv_aload_n hx hb dX4_entryValue_7 rfl (lv_at hl 1 rfl) ?_
  refine lv_iload_n hx hb dX4_entryValue_8 rfl (lv_at hl 3 rfl) ?_
  rcases obx h with ⟨v3, M4, h1, h⟩ | ⟨ex, M9, h1, h⟩
  rotate_left
  · exfalso
    cases h
  obtain ⟨hk1, h1⟩ := ifg h1
  refine kV0 (ci := 4) (As := [.int a2]) (rest := []) hC hE hS hM (mq_X4_requireRegister _ E this a2 _ _ h1) (gwV qw_679 qw_681 qw_29 qw_39 qw_682) ⟨rfl, rfl, (Nat.le_of_ble_eq_true rfl), (Nat.le_of_ble_eq_true rfl)⟩ dd_X4_requireRegister rfl hk1 rfl rfl hl.1 (Nat.le_of_ble_eq_true rfl) dX4_entryValue_9 ⟨(Nat.le_of_ble_eq_true rfl), (Nat.le_of_ble_eq_true rfl)⟩ (fun H locs hM hS => ?_)
  refine lv_aload_n hx hb dX4_entryValue_12 rfl (lv_at hl 1 rfl) ?_
  refine lv_iload_n hx hb dX4_entryValue_13 rfl (lv_at hl 4 rfl) ?_
  rcases obx h with ⟨v5, M6, h1, h⟩ | ⟨ex, M9, h1, h⟩
  rotate_left
  · exfalso
    cases h
  obtain ⟨hk1, h1⟩ := ifg h1
  refine kV0 (ci := 4) (As := [.int a3]) (rest := []) hC hE hS hM (mq_X4_requireReplica _ E this a3 _ _ h1) (gwV qw_623 qw_625 qw_26 qw_39 qw_626) ⟨rfl, rfl, (Nat.le_of_ble_eq_true rfl), (Nat.le_of_ble_eq_true rfl)⟩ dd_X4_requireReplica rfl hk1 rfl rfl hl.1 (Nat.le_of_ble_eq_true rfl) dX4_entryValue_14 ⟨(Nat.le_of_ble_eq_true rfl), (Nat.le_of_ble_eq_true rfl)⟩ (fun H locs hM hS => ?_)
  refine lv_aload hx hb dX4_entryValue_17 (lv_at hl 0 rfl) ?_
  refine lv_iload_n hx hb dX4_entryValue_19 rfl (lv_at hl 3 rfl) ?_
  refine lv_iload_n hx hb dX4_entryValue_20 rfl (lv_at hl 4 rfl) ?_
  obtain ⟨v7, M8, h1, h⟩ := ob2 h
  obtain ⟨hk1, h1⟩ := ifg h1
  refine kV1 (ci := 2) (As := [.int a2, .int a3]) (rest := []) hC hE hS hM (mt_X2_valueBy _ E v1 a2 a3 _ _ _ h1) (gwV qw_1031 qw_1032 qw_1033 qw_41 qw_1034) ⟨rfl, rfl, (Nat.le_of_ble_eq_true rfl), (Nat.le_of_ble_eq_true rfl)⟩ dd_X2_valueBy rfl hk1 rfl rfl hl.1 (Nat.le_of_ble_eq_true rfl) dX4_entryValue_21 ⟨(Nat.le_of_ble_eq_true rfl), (Nat.le_of_ble_eq_true rfl)⟩ (fun H locs hM hS => ?_)
  cases h
  exact eI hx hb hr hlocks hM hS dX4_entryValue_24 (Nat.le_of_ble_eq_true rfl) (Nat.le_of_ble_eq_true rfl)

abbrev rmq_X4_greatestValue : Room := ({ frames := 2, cells := 0, slots := 0, locals := 42 } : Room)
set_option maxHeartbeats 4000000 in
set_option maxRecDepth 100000 in
theorem tq_X4_greatestValue_43 {p : Program} {l : Launch} {e : Env} {s : State} {m : MethodId} {args : Array Value} {below : List Frame} {meth : Method} {c : Code} {E : KEnv} {H : Heap} {locs : List Loc} {ls : Array Slot} {x4 : Int32} {M : Mem} {v : Int32} {M' : Mem} (hC : CallFix p m c cX4_greatestValue 6 s args lw_G RX4) (hr : meth.sig.returnType = (some .int)) (hlocks : meth.locks = false) (hE : EnvOK E s) (h : fj_X4_greatestValue_43 x4 M = some (.inl v, M')) (hM : MOK E M H) (hS : va_S (eA E) s.heap H locs) (hl : lv_has ls 6 [(4, .int x4)]) : W p l e rmq_X4_greatestValue s m args below meth c H locs 0 0 (MQ below (cQ E (some (.int v)) M') args s 0 0 (eA E)) (F0 m 43 ls []) := by
  obtain ⟨hx, hb, hml, hown, hts⟩ := id hC
  unfold fj_X4_greatestValue_43 at h
  refine lv_iload hx hb dX4_greatestValue_43 (lv_at hl 0 rfl) ?_
  cases h
  exact eI hx hb hr hlocks hM hS dX4_greatestValue_45 (Nat.le_of_ble_eq_true rfl) (Nat.le_of_ble_eq_true rfl)
set_option maxHeartbeats 4000000 in
set_option maxRecDepth 100000 in
theorem tq_X4_greatestValue_17 {p : Program} {l : Launch} {e : Env} {s : State} {m : MethodId} {args : Array Value} {below : List Frame} {meth : Method} {c : Code} {E : KEnv} {H : Heap} {locs : List Loc} {ls : Array Slot} {x2 : Int32} {x3 : Nat} {x4 : Int32} {x5 : Int32} {M : Mem} {v : Int32} {M' : Mem} (hC : CallFix p m c cX4_greatestValue 6 s args lw_G RX4) (hr : meth.sig.returnType = (some .int)) (hlocks : meth.locks = false) (hE : EnvOK E s) (h : fj_X4_greatestValue_17 x2 x3 x4 x5 M = some (.inl v, M')) (hM : MOK E M H) (hS : va_S (eA E) s.heap H locs) (hl : lv_has ls 6 [(2, .int x2), (3, .ref x3), (4, .int x4), (5, .int x5)]) : W p l e rmq_X4_greatestValue s m args below meth c H locs 0 0 (MQ below (cQ E (some (.int v)) M') args s 0 0 (eA E)) (F0 m 17 ls []) := by
  refine loopM_ind (body := fun q : (Int32 × Int32 × Mem) => fc_X4_greatestValue_17 x2 x3 q.1 q.2.1 q.2.2) (x0 := (.inl v, M')) (Wd := fun q : (Int32 × Int32 × Mem) => ∀ (H : Heap) (locs : List Loc) (ls : Array Slot), MOK E (q.2.2) H → va_S (eA E) s.heap H locs → lv_has ls 6 [(2, .int x2), (3, .ref x3), (4, .int q.1), (5, .int q.2.1)] → W p l e rmq_X4_greatestValue s m args below meth c H locs 0 0 (MQ below (cQ E (some (.int v)) M') args s 0 0 (eA E)) (F0 m 17 ls [])) ?_ FU (x4, x5, M) h H locs ls hM hS hl
  clear h hM hS hl H locs ls M x4 x5
  obtain ⟨hx, hb, hml, hown, hts⟩ := id hC
  intro q y1 h hy1 H locs ls hM hS hl
  obtain ⟨x4, x5, M⟩ := q
  have h : fc_X4_greatestValue_17 x2 x3 x4 x5 M = some y1 := h
  have hM : MOK E M H := hM
  have hl : lv_has ls 6 [(2, .int x2), (3, .ref x3), (4, .int x4), (5, .int x5)] := hl
  unfold fc_X4_greatestValue_17 at h
  show W p l e rmq_X4_greatestValue s m args below meth c H locs _ _ _ _
  refine lv_iload hx hb dX4_greatestValue_17 (lv_at hl 3 rfl) ?_
  refine lv_iconst (v := 4) hx hb dX4_greatestValue_19 (by decide) ?_
  refine lv_icmp_ge (tgt := 43) hx hb dX4_greatestValue_20 (by decide) (fun c1 => ?_) (fun c1 => ?_)
  · have h := ifp c1 h
    obtain ⟨z0, h9, rfl⟩ := om h
    have e0 := hy1.2 _ rfl
    subst e0
    have h := h9
    refine W.widen (k := 0) (n := 0) (Nat.le_of_ble_eq_true rfl) (Nat.le_of_ble_eq_true rfl) ?_
    exact tq_X4_greatestValue_43  hC hr hlocks hE  h hM hS (lv_sub hl [2] rfl)
  · have h := ifn c1 h
    refine lv_iload hx hb dX4_greatestValue_23 (lv_at hl 2 rfl) ?_
    refine lv_aload_n hx hb dX4_greatestValue_25 rfl (lv_at hl 1 rfl) ?_
    refine lv_iload_n hx hb dX4_greatestValue_26 rfl (lv_at hl 0 rfl) ?_
    refine lv_iload hx hb dX4_greatestValue_27 (lv_at hl 3 rfl) ?_
    obtain ⟨v5, M6, h1, h⟩ := ob2 h
    obtain ⟨hk1, h1⟩ := ifg h1
    refine kV1 (ci := 2) (As := [.int x2, .int x5]) (rest := [.int x4]) hC hE hS hM (mt_X2_valueBy _ E x3 x2 x5 _ _ _ h1) (gwV qw_1031 qw_1032 qw_1033 qw_41 qw_1034) ⟨rfl, rfl, (Nat.le_of_ble_eq_true rfl), (Nat.le_of_ble_eq_true rfl)⟩ dd_X2_valueBy rfl hk1 rfl rfl hl.1 (Nat.le_of_ble_eq_true rfl) dX4_greatestValue_29 ⟨(Nat.le_of_ble_eq_true rfl), (Nat.le_of_ble_eq_true rfl)⟩ (fun H locs hM hS => ?_)
    refine va_mmax hx hb (hml.trans hl.1.symm) hown (hts _ qw_1089) (hts _ qw_375) (hts _ qw_48) (hts _ qw_376) (Nat.le_of_ble_eq_true rfl) (Nat.le_of_ble_eq_true rfl) (Nat.le_of_ble_eq_true rfl) (Nat.le_of_ble_eq_true rfl) dX4_greatestValue_32 ?_
    refine lv_istore (lv' := [(4, .int (if x4 < v5 then v5 else x4)), (2, .int x2), (3, .ref x3), (5, .int x5)]) hx hb dX4_greatestValue_35 hl (by decide) rfl (fun ls hl => ?_)
    refine lv_iinc (v := x5 + 1) (lv' := [(5, .int (x5 + 1)), (4, .int (if x4 < v5 then v5 else x4)), (2, .int x2), (3, .ref x3)]) hx hb dX4_greatestValue_37 hl (k := 3) rfl rfl (by decide) rfl (fun ls hl => ?_)
    refine lv_goto (tgt := 17) hx hb dX4_greatestValue_40 (by decide) ?_
    cases h
    exact hy1.1 _ rfl _ _ _ hM hS (lv_sub hl [2, 3, 1, 0] rfl)
set_option maxHeartbeats 4000000 in
set_option maxRecDepth 100000 in
theorem mq_X4_greatestValue (l : Launch) (E : KEnv) (this : Nat) (a1 : Int32) (a2 : Int32) (M M' : Mem) (v : Int32) (h : f_X4_greatestValue this a1 a2 M = some (.inl v, M')) : Met l yX4_greatestValue (Cond.code yX4_greatestValue cX4_greatestValue 6 (some .int) :: lw_G) rmq_X4_greatestValue (cPc E [.ref this, .int a1, .int a2] M) (cQ E (some (.int v)) M') 0 0 (eA E) := by
  refine Met.ofW (cc := cX4_greatestValue) (maxL := 6) (ret := (some .int)) (by decide) rfl ?_
  intro p e s m args below meth c s₁ B hml hv
  obtain ⟨rfl, hE, hM⟩ := hv
  have hx := B.exec
  have hb := B.bytes
  have hr := B.returns
  have hts0 := atoms_spec (ws := Cond.code yX4_greatestValue cX4_greatestValue 6 (some .int) :: lw_G) B.pre
  have hts : ∀ w ∈ lw_G, w.before _ s = true := fun w hw => hts0 w (List.mem_cons_of_mem _ hw)
  have hown : s.vm.findClass RX4 = some m.cls := findClass_of_methodNamed B.named
  have hlocks := B.notSynchronized
  have hC : CallFix p m c cX4_greatestValue 6 s _ lw_G RX4 := ⟨hx, hb, hml, hown, hts⟩
  have hS : va_S (eA E) s.heap s.heap [] := va_S.rf
  have hl := lv_entry ([.ref this, .int a1, .int a2]) (n := 6) (Nat.le_of_ble_eq_true rfl)
  rw [lg_entry_eq]
  generalize (lg_sl ([.ref this, .int a1, .int a2]) ++ List.replicate (6 - (lg_sl ([.ref this, .int a1, .int a2])).length) Slot.unset).toArray = ls at hl ⊢
  have hl : lv_has ls 6 [(0, .ref this), (1, .int a1), (2, .int a2)] := hl
  unfold f_X4_greatestValue at h
  show W p l e rmq_X4_greatestValue s m _ below meth c s.heap [] 0 0 _ _
  refine lv_aload_n hx hb dX4_greatestValue_0 rfl (lv_at hl 0 rfl) ?_
  refine lv_iload_n hx hb dX4_greatestValue_1 rfl (lv_at hl 1 rfl) ?_
  rcases obx h with ⟨v1, M2, h1, h⟩ | ⟨ex, M9, h1, h⟩
  rotate_left
  · exfalso
    cases h
  obtain ⟨hk1, h1⟩ := ifg h1
  refine kV1 (ci := 4) (As := [.int a1]) (rest := []) hC hE hS hM (mq_X4_stateOf _ E this a1 _ _ _ h1) (gwV qw_619 qw_621 qw_25 qw_39 qw_622) ⟨rfl, rfl, (Nat.le_of_ble_eq_true rfl), (Nat.le_of_ble_eq_true rfl)⟩ dd_X4_stateOf rfl hk1 rfl rfl hl.1 (Nat.le_of_ble_eq_true rfl) dX4_greatestValue_2 ⟨(Nat.le_of_ble_eq_true rfl), (Nat.le_of_ble_eq_true rfl)⟩ (fun H locs hM hS => ?_)
  refine lv_astore_n (lv' := [(3, .ref v1), (0, .ref this), (1, .int a1), (2, .int a2)]) hx hb dX4_greatestValue_5 rfl hl (by decide) rfl (fun ls hl => ?_)
  refine lv_aload_n hx hb dX4_greatestValue_6 rfl (lv_at hl 1 rfl) ?_
  refine lv_iload_n hx hb dX4_greatestValue_7 rfl (lv_at hl 3 rfl) ?_
  rcases obx h with ⟨v3, M4, h1, h⟩ | ⟨ex, M9, h1, h⟩
  rotate_left
  · exfalso
    cases h
  obtain ⟨hk1, h1⟩ := ifg h1
  refine kV0 (ci := 4) (As := [.int a2]) (rest := []) hC hE hS hM (mq_X4_requireRegister _ E this a2 _ _ h1) (gwV qw_679 qw_681 qw_29 qw_39 qw_682) ⟨rfl, rfl, (Nat.le_of_ble_eq_true rfl), (Nat.le_of_ble_eq_true rfl)⟩ dd_X4_requireRegister rfl hk1 rfl rfl hl.1 (Nat.le_of_ble_eq_true rfl) dX4_greatestValue_8 ⟨(Nat.le_of_ble_eq_true rfl), (Nat.le_of_ble_eq_true rfl)⟩ (fun H locs hM hS => ?_)
  refine lv_iconst (v := (-1)) hx hb dX4_greatestValue_11 (by decide) ?_
  refine lv_istore (lv' := [(4, .int (-1)), (3, .ref v1), (0, .ref this), (1, .int a1), (2, .int a2)]) hx hb dX4_greatestValue_12 hl (by decide) rfl (fun ls hl => ?_)
  refine lv_iconst (v := 0) hx hb dX4_greatestValue_14 (by decide) ?_
  refine lv_istore (lv' := [(5, .int 0), (4, .int (-1)), (3, .ref v1), (0, .ref this), (1, .int a1), (2, .int a2)]) hx hb dX4_greatestValue_15 hl (by decide) rfl (fun ls hl => ?_)
  refine W.widen (k := 0) (n := 0) (Nat.le_of_ble_eq_true rfl) (Nat.le_of_ble_eq_true rfl) ?_
  exact tq_X4_greatestValue_17  hC hr hlocks hE  h hM hS (lv_sub hl [5, 2, 1, 0] rfl)

abbrev rmq_X4_conflicts : Room := ({ frames := 3, cells := 0, slots := 0, locals := 66 } : Room)
set_option maxHeartbeats 4000000 in
set_option maxRecDepth 100000 in
theorem mq_X4_conflicts (l : Launch) (E : KEnv) (this : Nat) (a1 : Int32) (M M' : Mem) (v : Int32) (h : f_X4_conflicts this a1 M = some (.inl v, M')) : Met l yX4_conflicts (Cond.code yX4_conflicts cX4_conflicts 2 (some .int) :: lw_G) rmq_X4_conflicts (cPc E [.ref this, .int a1] M) (cQ E (some (.int v)) M') 0 0 (eA E) := by
  refine Met.ofW (cc := cX4_conflicts) (maxL := 2) (ret := (some .int)) (by decide) rfl ?_
  intro p e s m args below meth c s₁ B hml hv
  obtain ⟨rfl, hE, hM⟩ := hv
  have hx := B.exec
  have hb := B.bytes
  have hr := B.returns
  have hts0 := atoms_spec (ws := Cond.code yX4_conflicts cX4_conflicts 2 (some .int) :: lw_G) B.pre
  have hts : ∀ w ∈ lw_G, w.before _ s = true := fun w hw => hts0 w (List.mem_cons_of_mem _ hw)
  have hown : s.vm.findClass RX4 = some m.cls := findClass_of_methodNamed B.named
  have hlocks := B.notSynchronized
  have hC : CallFix p m c cX4_conflicts 2 s _ lw_G RX4 := ⟨hx, hb, hml, hown, hts⟩
  have hS : va_S (eA E) s.heap s.heap [] := va_S.rf
  have hl := lv_entry ([.ref this, .int a1]) (n := 2) (Nat.le_of_ble_eq_true rfl)
  rw [lg_entry_eq]
  generalize (lg_sl ([.ref this, .int a1]) ++ List.replicate (2 - (lg_sl ([.ref this, .int a1])).length) Slot.unset).toArray = ls at hl ⊢
  have hl : lv_has ls 2 [(0, .ref this), (1, .int a1)] := hl
  unfold f_X4_conflicts at h
  show W p l e rmq_X4_conflicts s m _ below meth c s.heap [] 0 0 _ _
  refine lv_aload_n hx hb dX4_conflicts_0 rfl (lv_at hl 0 rfl) ?_
  refine lv_iload_n hx hb dX4_conflicts_1 rfl (lv_at hl 1 rfl) ?_
  rcases obx h with ⟨v1, M2, h1, h⟩ | ⟨ex, M9, h1, h⟩
  rotate_left
  · exfalso
    cases h
  obtain ⟨hk1, h1⟩ := ifg h1
  refine kV1 (ci := 4) (As := [.int a1]) (rest := []) hC hE hS hM (mq_X4_stateOf _ E this a1 _ _ _ h1) (gwV qw_619 qw_621 qw_25 qw_39 qw_622) ⟨rfl, rfl, (Nat.le_of_ble_eq_true rfl), (Nat.le_of_ble_eq_true rfl)⟩ dd_X4_stateOf rfl hk1 rfl rfl hl.1 (Nat.le_of_ble_eq_true rfl) dX4_conflicts_2 ⟨(Nat.le_of_ble_eq_true rfl), (Nat.le_of_ble_eq_true rfl)⟩ (fun H locs hM hS => ?_)
  obtain ⟨v3, M4, h1, h⟩ := ob2 h
  obtain ⟨hk1, h1⟩ := ifg h1
  refine kV1 (ci := 2) (As := []) (rest := []) hC hE hS hM (mt_X2_registersInConflict _ E v1 _ _ _ h1) (gwV qw_1102 qw_1103 qw_1104 qw_41 qw_1105) ⟨rfl, rfl, (Nat.le_of_ble_eq_true rfl), (Nat.le_of_ble_eq_true rfl)⟩ dd_X2_registersInConflict rfl hk1 rfl rfl hl.1 (Nat.le_of_ble_eq_true rfl) dX4_conflicts_5 ⟨(Nat.le_of_ble_eq_true rfl), (Nat.le_of_ble_eq_true rfl)⟩ (fun H locs hM hS => ?_)
  cases h
  exact eI hx hb hr hlocks hM hS dX4_conflicts_8 (Nat.le_of_ble_eq_true rfl) (Nat.le_of_ble_eq_true rfl)

abbrev rmq_X4_unseenDots : Room := ({ frames := 2, cells := 0, slots := 0, locals := 42 } : Room)
set_option maxHeartbeats 4000000 in
set_option maxRecDepth 100000 in
theorem tq_X4_unseenDots_54 {p : Program} {l : Launch} {e : Env} {s : State} {m : MethodId} {args : Array Value} {below : List Frame} {meth : Method} {c : Code} {E : KEnv} {H : Heap} {locs : List Loc} {ls : Array Slot} {x5 : Int32} {M : Mem} {v : Int32} {M' : Mem} (hC : CallFix p m c cX4_unseenDots 7 s args lw_G RX4) (hr : meth.sig.returnType = (some .int)) (hlocks : meth.locks = false) (hE : EnvOK E s) (h : fj_X4_unseenDots_54 x5 M = some (.inl v, M')) (hM : MOK E M H) (hS : va_S (eA E) s.heap H locs) (hl : lv_has ls 7 [(5, .int x5)]) : W p l e rmq_X4_unseenDots s m args below meth c H locs 0 0 (MQ below (cQ E (some (.int v)) M') args s 0 0 (eA E)) (F0 m 54 ls []) := by
  obtain ⟨hx, hb, hml, hown, hts⟩ := id hC
  unfold fj_X4_unseenDots_54 at h
  refine lv_iload hx hb dX4_unseenDots_54 (lv_at hl 0 rfl) ?_
  cases h
  exact eI hx hb hr hlocks hM hS dX4_unseenDots_56 (Nat.le_of_ble_eq_true rfl) (Nat.le_of_ble_eq_true rfl)
set_option maxHeartbeats 4000000 in
set_option maxRecDepth 100000 in
theorem tq_X4_unseenDots_19 {p : Program} {l : Launch} {e : Env} {s : State} {m : MethodId} {args : Array Value} {below : List Frame} {meth : Method} {c : Code} {E : KEnv} {H : Heap} {locs : List Loc} {ls : Array Slot} {x3 : Nat} {x4 : Nat} {x5 : Int32} {x6 : Int32} {M : Mem} {v : Int32} {M' : Mem} (hC : CallFix p m c cX4_unseenDots 7 s args lw_G RX4) (hr : meth.sig.returnType = (some .int)) (hlocks : meth.locks = false) (hE : EnvOK E s) (h : fj_X4_unseenDots_19 x3 x4 x5 x6 M = some (.inl v, M')) (hM : MOK E M H) (hS : va_S (eA E) s.heap H locs) (hl : lv_has ls 7 [(3, .ref x3), (4, .ref x4), (5, .int x5), (6, .int x6)]) : W p l e rmq_X4_unseenDots s m args below meth c H locs 0 0 (MQ below (cQ E (some (.int v)) M') args s 0 0 (eA E)) (F0 m 19 ls []) := by
  refine loopM_ind (body := fun q : (Int32 × Int32 × Mem) => fc_X4_unseenDots_19 x3 x4 q.1 q.2.1 q.2.2) (x0 := (.inl v, M')) (Wd := fun q : (Int32 × Int32 × Mem) => ∀ (H : Heap) (locs : List Loc) (ls : Array Slot), MOK E (q.2.2) H → va_S (eA E) s.heap H locs → lv_has ls 7 [(3, .ref x3), (4, .ref x4), (5, .int q.1), (6, .int q.2.1)] → W p l e rmq_X4_unseenDots s m args below meth c H locs 0 0 (MQ below (cQ E (some (.int v)) M') args s 0 0 (eA E)) (F0 m 19 ls [])) ?_ FU (x5, x6, M) h H locs ls hM hS hl
  clear h hM hS hl H locs ls M x5 x6
  obtain ⟨hx, hb, hml, hown, hts⟩ := id hC
  intro q y1 h hy1 H locs ls hM hS hl
  obtain ⟨x5, x6, M⟩ := q
  have h : fc_X4_unseenDots_19 x3 x4 x5 x6 M = some y1 := h
  have hM : MOK E M H := hM
  have hl : lv_has ls 7 [(3, .ref x3), (4, .ref x4), (5, .int x5), (6, .int x6)] := hl
  unfold fc_X4_unseenDots_19 at h
  show W p l e rmq_X4_unseenDots s m args below meth c H locs _ _ _ _
  refine lv_iload hx hb dX4_unseenDots_19 (lv_at hl 3 rfl) ?_
  refine lv_iconst (v := 4) hx hb dX4_unseenDots_21 (by decide) ?_
  refine lv_icmp_ge (tgt := 54) hx hb dX4_unseenDots_22 (by decide) (fun c1 => ?_) (fun c1 => ?_)
  · have h := ifp c1 h
    obtain ⟨z0, h9, rfl⟩ := om h
    have e0 := hy1.2 _ rfl
    subst e0
    have h := h9
    refine W.widen (k := 0) (n := 0) (Nat.le_of_ble_eq_true rfl) (Nat.le_of_ble_eq_true rfl) ?_
    exact tq_X4_unseenDots_54  hC hr hlocks hE  h hM hS (lv_sub hl [2] rfl)
  · have h := ifn c1 h
    refine lv_iload hx hb dX4_unseenDots_25 (lv_at hl 2 rfl) ?_
    refine lv_iconst (v := 0) hx hb dX4_unseenDots_27 (by decide) ?_
    refine lv_aload_n hx hb dX4_unseenDots_28 rfl (lv_at hl 0 rfl) ?_
    refine lv_iload hx hb dX4_unseenDots_29 (lv_at hl 3 rfl) ?_
    obtain ⟨v5, M6, h1, h⟩ := ob2 h
    obtain ⟨hk1, h1⟩ := ifg h1
    refine kV1 (ci := 2) (As := [.int x6]) (rest := [.int 0, .int x5]) hC hE hS hM (mt_X2_version _ E x3 x6 _ _ _ h1) (gwV qw_658 qw_659 qw_660 qw_41 qw_661) ⟨rfl, rfl, (Nat.le_of_ble_eq_true rfl), (Nat.le_of_ble_eq_true rfl)⟩ dd_X2_version rfl hk1 rfl rfl hl.1 (Nat.le_of_ble_eq_true rfl) dX4_unseenDots_31 ⟨(Nat.le_of_ble_eq_true rfl), (Nat.le_of_ble_eq_true rfl)⟩ (fun H locs hM hS => ?_)
    refine lv_aload hx hb dX4_unseenDots_34 (lv_at hl 1 rfl) ?_
    refine lv_iload hx hb dX4_unseenDots_36 (lv_at hl 3 rfl) ?_
    obtain ⟨v7, M8, h1, h⟩ := ob2 h
    obtain ⟨hk1, h1⟩ := ifg h1
    refine kV1 (ci := 2) (As := [.int x6]) (rest := [.int v5, .int 0, .int x5]) hC hE hS hM (mt_X2_version _ E x4 x6 _ _ _ h1) (gwV qw_658 qw_659 qw_660 qw_41 qw_661) ⟨rfl, rfl, (Nat.le_of_ble_eq_true rfl), (Nat.le_of_ble_eq_true rfl)⟩ dd_X2_version rfl hk1 rfl rfl hl.1 (Nat.le_of_ble_eq_true rfl) dX4_unseenDots_38 ⟨(Nat.le_of_ble_eq_true rfl), (Nat.le_of_ble_eq_true rfl)⟩ (fun H locs hM hS => ?_)
    refine lv_isub hx hb dX4_unseenDots_41 ?_
    refine va_mmax hx hb (hml.trans hl.1.symm) hown (hts _ qw_1089) (hts _ qw_375) (hts _ qw_48) (hts _ qw_376) (Nat.le_of_ble_eq_true rfl) (Nat.le_of_ble_eq_true rfl) (Nat.le_of_ble_eq_true rfl) (Nat.le_of_ble_eq_true rfl) dX4_unseenDots_42 ?_
    refine lv_iadd hx hb dX4_unseenDots_45 ?_
    refine lv_istore (lv' := [(5, .int (x5 + (if 0 < (v5 - v7) then (v5 - v7) else 0))), (3, .ref x3), (4, .ref x4), (6, .int x6)]) hx hb dX4_unseenDots_46 hl (by decide) rfl (fun ls hl => ?_)
    refine lv_iinc (v := x6 + 1) (lv' := [(6, .int (x6 + 1)), (5, .int (x5 + (if 0 < (v5 - v7) then (v5 - v7) else 0))), (3, .ref x3), (4, .ref x4)]) hx hb dX4_unseenDots_48 hl (k := 3) rfl rfl (by decide) rfl (fun ls hl => ?_)
    refine lv_goto (tgt := 19) hx hb dX4_unseenDots_51 (by decide) ?_
    cases h
    exact hy1.1 _ rfl _ _ _ hM hS (lv_sub hl [2, 3, 1, 0] rfl)
set_option maxHeartbeats 4000000 in
set_option maxRecDepth 100000 in
theorem mq_X4_unseenDots (l : Launch) (E : KEnv) (this : Nat) (a1 : Int32) (a2 : Int32) (M M' : Mem) (v : Int32) (h : f_X4_unseenDots this a1 a2 M = some (.inl v, M')) : Met l yX4_unseenDots (Cond.code yX4_unseenDots cX4_unseenDots 7 (some .int) :: lw_G) rmq_X4_unseenDots (cPc E [.ref this, .int a1, .int a2] M) (cQ E (some (.int v)) M') 0 0 (eA E) := by
  refine Met.ofW (cc := cX4_unseenDots) (maxL := 7) (ret := (some .int)) (by decide) rfl ?_
  intro p e s m args below meth c s₁ B hml hv
  obtain ⟨rfl, hE, hM⟩ := hv
  have hx := B.exec
  have hb := B.bytes
  have hr := B.returns
  have hts0 := atoms_spec (ws := Cond.code yX4_unseenDots cX4_unseenDots 7 (some .int) :: lw_G) B.pre
  have hts : ∀ w ∈ lw_G, w.before _ s = true := fun w hw => hts0 w (List.mem_cons_of_mem _ hw)
  have hown : s.vm.findClass RX4 = some m.cls := findClass_of_methodNamed B.named
  have hlocks := B.notSynchronized
  have hC : CallFix p m c cX4_unseenDots 7 s _ lw_G RX4 := ⟨hx, hb, hml, hown, hts⟩
  have hS : va_S (eA E) s.heap s.heap [] := va_S.rf
  have hl := lv_entry ([.ref this, .int a1, .int a2]) (n := 7) (Nat.le_of_ble_eq_true rfl)
  rw [lg_entry_eq]
  generalize (lg_sl ([.ref this, .int a1, .int a2]) ++ List.replicate (7 - (lg_sl ([.ref this, .int a1, .int a2])).length) Slot.unset).toArray = ls at hl ⊢
  have hl : lv_has ls 7 [(0, .ref this), (1, .int a1), (2, .int a2)] := hl
  unfold f_X4_unseenDots at h
  show W p l e rmq_X4_unseenDots s m _ below meth c s.heap [] 0 0 _ _
  refine lv_aload_n hx hb dX4_unseenDots_0 rfl (lv_at hl 0 rfl) ?_
  refine lv_iload_n hx hb dX4_unseenDots_1 rfl (lv_at hl 1 rfl) ?_
  rcases obx h with ⟨v1, M2, h1, h⟩ | ⟨ex, M9, h1, h⟩
  rotate_left
  · exfalso
    cases h
  obtain ⟨hk1, h1⟩ := ifg h1
  refine kV1 (ci := 4) (As := [.int a1]) (rest := []) hC hE hS hM (mq_X4_stateOf _ E this a1 _ _ _ h1) (gwV qw_619 qw_621 qw_25 qw_39 qw_622) ⟨rfl, rfl, (Nat.le_of_ble_eq_true rfl), (Nat.le_of_ble_eq_true rfl)⟩ dd_X4_stateOf rfl hk1 rfl rfl hl.1 (Nat.le_of_ble_eq_true rfl) dX4_unseenDots_2 ⟨(Nat.le_of_ble_eq_true rfl), (Nat.le_of_ble_eq_true rfl)⟩ (fun H locs hM hS => ?_)
  refine lv_astore_n (lv' := [(3, .ref v1), (0, .ref this), (1, .int a1), (2, .int a2)]) hx hb dX4_unseenDots_5 rfl hl (by decide) rfl (fun ls hl => ?_)
  refine lv_aload_n hx hb dX4_unseenDots_6 rfl (lv_at hl 1 rfl) ?_
  refine lv_iload_n hx hb dX4_unseenDots_7 rfl (lv_at hl 3 rfl) ?_
  rcases obx h with ⟨v3, M4, h1, h⟩ | ⟨ex, M9, h1, h⟩
  rotate_left
  · exfalso
    cases h
  obtain ⟨hk1, h1⟩ := ifg h1
  refine kV1 (ci := 4) (As := [.int a2]) (rest := []) hC hE hS hM (mq_X4_stateOf _ E this a2 _ _ _ h1) (gwV qw_619 qw_621 qw_25 qw_39 qw_622) ⟨rfl, rfl, (Nat.le_of_ble_eq_true rfl), (Nat.le_of_ble_eq_true rfl)⟩ dd_X4_stateOf rfl hk1 rfl rfl hl.1 (Nat.le_of_ble_eq_true rfl) dX4_unseenDots_8 ⟨(Nat.le_of_ble_eq_true rfl), (Nat.le_of_ble_eq_true rfl)⟩ (fun H locs hM hS => ?_)
  refine lv_astore (lv' := [(4, .ref v3), (3, .ref v1), (0, .ref this), (1, .int a1), (2, .int a2)]) hx hb dX4_unseenDots_11 hl (by decide) rfl (fun ls hl => ?_)
  refine lv_iconst (v := 0) hx hb dX4_unseenDots_13 (by decide) ?_
  refine lv_istore (lv' := [(5, .int 0), (4, .ref v3), (3, .ref v1), (0, .ref this), (1, .int a1), (2, .int a2)]) hx hb dX4_unseenDots_14 hl (by decide) rfl (fun ls hl => ?_)
  refine lv_iconst (v := 0) hx hb dX4_unseenDots_16 (by decide) ?_
  refine lv_istore (lv' := [(6, .int 0), (5, .int 0), (4, .ref v3), (3, .ref v1), (0, .ref this), (1, .int a1), (2, .int a2)]) hx hb dX4_unseenDots_17 hl (by decide) rfl (fun ls hl => ?_)
  refine W.widen (k := 0) (n := 0) (Nat.le_of_ble_eq_true rfl) (Nat.le_of_ble_eq_true rfl) ?_
  exact tq_X4_unseenDots_19  hC hr hlocks hE  h hM hS (lv_sub hl [3, 2, 1, 0] rfl)

abbrev rmq_X4_deltaSize : Room := ({ frames := 2, cells := 0, slots := 0, locals := 42 } : Room)
set_option maxHeartbeats 4000000 in
set_option maxRecDepth 100000 in
theorem mq_X4_deltaSize (l : Launch) (E : KEnv) (this : Nat) (a1 : Int32) (a2 : Int32) (M M' : Mem) (v : Int32) (h : f_X4_deltaSize this a1 a2 M = some (.inl v, M')) : Met l yX4_deltaSize (Cond.code yX4_deltaSize cX4_deltaSize 3 (some .int) :: lw_G) rmq_X4_deltaSize (cPc E [.ref this, .int a1, .int a2] M) (cQ E (some (.int v)) M') 0 0 (eA E) := by
  refine Met.ofW (cc := cX4_deltaSize) (maxL := 3) (ret := (some .int)) (by decide) rfl ?_
  intro p e s m args below meth c s₁ B hml hv
  obtain ⟨rfl, hE, hM⟩ := hv
  have hx := B.exec
  have hb := B.bytes
  have hr := B.returns
  have hts0 := atoms_spec (ws := Cond.code yX4_deltaSize cX4_deltaSize 3 (some .int) :: lw_G) B.pre
  have hts : ∀ w ∈ lw_G, w.before _ s = true := fun w hw => hts0 w (List.mem_cons_of_mem _ hw)
  have hown : s.vm.findClass RX4 = some m.cls := findClass_of_methodNamed B.named
  have hlocks := B.notSynchronized
  have hC : CallFix p m c cX4_deltaSize 3 s _ lw_G RX4 := ⟨hx, hb, hml, hown, hts⟩
  have hS : va_S (eA E) s.heap s.heap [] := va_S.rf
  have hl := lv_entry ([.ref this, .int a1, .int a2]) (n := 3) (Nat.le_of_ble_eq_true rfl)
  rw [lg_entry_eq]
  generalize (lg_sl ([.ref this, .int a1, .int a2]) ++ List.replicate (3 - (lg_sl ([.ref this, .int a1, .int a2])).length) Slot.unset).toArray = ls at hl ⊢
  have hl : lv_has ls 3 [(0, .ref this), (1, .int a1), (2, .int a2)] := hl
  unfold f_X4_deltaSize at h
  show W p l e rmq_X4_deltaSize s m _ below meth c s.heap [] 0 0 _ _
  refine lv_aload_n hx hb dX4_deltaSize_0 rfl (lv_at hl 0 rfl) ?_
  refine lv_iload_n hx hb dX4_deltaSize_1 rfl (lv_at hl 1 rfl) ?_
  rcases obx h with ⟨v1, M2, h1, h⟩ | ⟨ex, M9, h1, h⟩
  rotate_left
  · exfalso
    cases h
  obtain ⟨hk1, h1⟩ := ifg h1
  refine kV1 (ci := 4) (As := [.int a1]) (rest := []) hC hE hS hM (mq_X4_stateOf _ E this a1 _ _ _ h1) (gwV qw_619 qw_621 qw_25 qw_39 qw_622) ⟨rfl, rfl, (Nat.le_of_ble_eq_true rfl), (Nat.le_of_ble_eq_true rfl)⟩ dd_X4_stateOf rfl hk1 rfl rfl hl.1 (Nat.le_of_ble_eq_true rfl) dX4_deltaSize_2 ⟨(Nat.le_of_ble_eq_true rfl), (Nat.le_of_ble_eq_true rfl)⟩ (fun H locs hM hS => ?_)
  refine lv_aload_n hx hb dX4_deltaSize_5 rfl (lv_at hl 0 rfl) ?_
  refine lv_iload_n hx hb dX4_deltaSize_6 rfl (lv_at hl 2 rfl) ?_
  rcases obx h with ⟨v3, M4, h1, h⟩ | ⟨ex, M9, h1, h⟩
  rotate_left
  · exfalso
    cases h
  obtain ⟨hk1, h1⟩ := ifg h1
  refine kV1 (ci := 4) (As := [.int a2]) (rest := [.ref v1]) hC hE hS hM (mq_X4_stateOf _ E this a2 _ _ _ h1) (gwV qw_619 qw_621 qw_25 qw_39 qw_622) ⟨rfl, rfl, (Nat.le_of_ble_eq_true rfl), (Nat.le_of_ble_eq_true rfl)⟩ dd_X4_stateOf rfl hk1 rfl rfl hl.1 (Nat.le_of_ble_eq_true rfl) dX4_deltaSize_7 ⟨(Nat.le_of_ble_eq_true rfl), (Nat.le_of_ble_eq_true rfl)⟩ (fun H locs hM hS => ?_)
  obtain ⟨v5, M6, h1, h⟩ := ob2 h
  obtain ⟨hk1, h1⟩ := ifg h1
  refine kV1 (ci := 2) (As := [.ref v3]) (rest := []) hC hE hS hM (mt_X2_newsFor _ E v1 v3 _ _ _ h1) (gwV qw_1131 qw_1132 qw_1133 qw_41 qw_1134) ⟨rfl, rfl, (Nat.le_of_ble_eq_true rfl), (Nat.le_of_ble_eq_true rfl)⟩ dd_X2_newsFor rfl hk1 rfl rfl hl.1 (Nat.le_of_ble_eq_true rfl) dX4_deltaSize_10 ⟨(Nat.le_of_ble_eq_true rfl), (Nat.le_of_ble_eq_true rfl)⟩ (fun H locs hM hS => ?_)
  cases h
  exact eI hx hb hr hlocks hM hS dX4_deltaSize_13 (Nat.le_of_ble_eq_true rfl) (Nat.le_of_ble_eq_true rfl)

abbrev rmq_X4_tagsGained : Room := ({ frames := 4, cells := 0, slots := 0, locals := 103 } : Room)
set_option maxHeartbeats 4000000 in
set_option maxRecDepth 100000 in
theorem mq_X4_tagsGained (l : Launch) (E : KEnv) (this : Nat) (a1 : Int32) (a2 : Int32) (M M' : Mem) (v : Int32) (h : f_X4_tagsGained this a1 a2 M = some (.inl v, M')) : Met l yX4_tagsGained (Cond.code yX4_tagsGained cX4_tagsGained 5 (some .int) :: lw_G) rmq_X4_tagsGained (cPc E [.ref this, .int a1, .int a2] M) (cQ E (some (.int v)) M') 0 0 (eA E) := by
  refine Met.ofW (cc := cX4_tagsGained) (maxL := 5) (ret := (some .int)) (by decide) rfl ?_
  intro p e s m args below meth c s₁ B hml hv
  obtain ⟨rfl, hE, hM⟩ := hv
  have hx := B.exec
  have hb := B.bytes
  have hr := B.returns
  have hts0 := atoms_spec (ws := Cond.code yX4_tagsGained cX4_tagsGained 5 (some .int) :: lw_G) B.pre
  have hts : ∀ w ∈ lw_G, w.before _ s = true := fun w hw => hts0 w (List.mem_cons_of_mem _ hw)
  have hown : s.vm.findClass RX4 = some m.cls := findClass_of_methodNamed B.named
  have hlocks := B.notSynchronized
  have hC : CallFix p m c cX4_tagsGained 5 s _ lw_G RX4 := ⟨hx, hb, hml, hown, hts⟩
  have hS : va_S (eA E) s.heap s.heap [] := va_S.rf
  have hl := lv_entry ([.ref this, .int a1, .int a2]) (n := 5) (Nat.le_of_ble_eq_true rfl)
  rw [lg_entry_eq]
  generalize (lg_sl ([.ref this, .int a1, .int a2]) ++ List.replicate (5 - (lg_sl ([.ref this, .int a1, .int a2])).length) Slot.unset).toArray = ls at hl ⊢
  have hl : lv_has ls 5 [(0, .ref this), (1, .int a1), (2, .int a2)] := hl
  unfold f_X4_tagsGained at h
  show W p l e rmq_X4_tagsGained s m _ below meth c s.heap [] 0 0 _ _
  refine lv_aload_n hx hb dX4_tagsGained_0 rfl (lv_at hl 0 rfl) ?_
  refine lv_iload_n hx hb dX4_tagsGained_1 rfl (lv_at hl 1 rfl) ?_
  rcases obx h with ⟨v1, M2, h1, h⟩ | ⟨ex, M9, h1, h⟩
  rotate_left
  · exfalso
    cases h
  obtain ⟨hk1, h1⟩ := ifg h1
  refine kV1 (ci := 4) (As := [.int a1]) (rest := []) hC hE hS hM (mq_X4_stateOf _ E this a1 _ _ _ h1) (gwV qw_619 qw_621 qw_25 qw_39 qw_622) ⟨rfl, rfl, (Nat.le_of_ble_eq_true rfl), (Nat.le_of_ble_eq_true rfl)⟩ dd_X4_stateOf rfl hk1 rfl rfl hl.1 (Nat.le_of_ble_eq_true rfl) dX4_tagsGained_2 ⟨(Nat.le_of_ble_eq_true rfl), (Nat.le_of_ble_eq_true rfl)⟩ (fun H locs hM hS => ?_)
  refine lv_astore_n (lv' := [(3, .ref v1), (0, .ref this), (1, .int a1), (2, .int a2)]) hx hb dX4_tagsGained_5 rfl hl (by decide) rfl (fun ls hl => ?_)
  refine lv_aload_n hx hb dX4_tagsGained_6 rfl (lv_at hl 1 rfl) ?_
  refine lv_aload_n hx hb dX4_tagsGained_7 rfl (lv_at hl 0 rfl) ?_
  refine lv_aload_n hx hb dX4_tagsGained_8 rfl (lv_at hl 1 rfl) ?_
  refine lv_iload_n hx hb dX4_tagsGained_9 rfl (lv_at hl 3 rfl) ?_
  rcases obx h with ⟨v3, M4, h1, h⟩ | ⟨ex, M9, h1, h⟩
  rotate_left
  · exfalso
    cases h
  obtain ⟨hk1, h1⟩ := ifg h1
  refine kV1 (ci := 4) (As := [.int a2]) (rest := [.ref v1, .ref this]) hC hE hS hM (mq_X4_stateOf _ E this a2 _ _ _ h1) (gwV qw_619 qw_621 qw_25 qw_39 qw_622) ⟨rfl, rfl, (Nat.le_of_ble_eq_true rfl), (Nat.le_of_ble_eq_true rfl)⟩ dd_X4_stateOf rfl hk1 rfl rfl hl.1 (Nat.le_of_ble_eq_true rfl) dX4_tagsGained_10 ⟨(Nat.le_of_ble_eq_true rfl), (Nat.le_of_ble_eq_true rfl)⟩ (fun H locs hM hS => ?_)
  obtain ⟨v5, M6, h1, h⟩ := ob2 h
  obtain ⟨hk1, h1⟩ := ifg h1
  refine kV1 (ci := 4) (As := [.ref v1, .ref v3]) (rest := []) hC hE hS hM (mt_X4_mergedOnTrial _ E this v1 v3 _ _ _ h1) (gwV qw_1048 qw_1050 qw_34 qw_39 qw_1051) ⟨rfl, rfl, (Nat.le_of_ble_eq_true rfl), (Nat.le_of_ble_eq_true rfl)⟩ dd_X4_mergedOnTrial rfl hk1 rfl rfl hl.1 (Nat.le_of_ble_eq_true rfl) dX4_tagsGained_13 ⟨(Nat.le_of_ble_eq_true rfl), (Nat.le_of_ble_eq_true rfl)⟩ (fun H locs hM hS => ?_)
  refine lv_astore (lv' := [(4, .ref v5), (3, .ref v1), (0, .ref this), (1, .int a1), (2, .int a2)]) hx hb dX4_tagsGained_16 hl (by decide) rfl (fun ls hl => ?_)
  refine lv_aload hx hb dX4_tagsGained_18 (lv_at hl 0 rfl) ?_
  refine lv_aload_n hx hb dX4_tagsGained_20 rfl (lv_at hl 1 rfl) ?_
  obtain ⟨v7, M8, h1, h⟩ := ob2 h
  obtain ⟨hk1, h1⟩ := ifg h1
  refine kV1 (ci := 2) (As := [.ref v1]) (rest := []) hC hE hS hM (mt_X2_tagsMissingIn _ E v5 v1 _ _ _ h1) (gwV qw_1139 qw_1140 qw_1141 qw_41 qw_1142) ⟨rfl, rfl, (Nat.le_of_ble_eq_true rfl), (Nat.le_of_ble_eq_true rfl)⟩ dd_X2_tagsMissingIn rfl hk1 rfl rfl hl.1 (Nat.le_of_ble_eq_true rfl) dX4_tagsGained_21 ⟨(Nat.le_of_ble_eq_true rfl), (Nat.le_of_ble_eq_true rfl)⟩ (fun H locs hM hS => ?_)
  cases h
  exact eI hx hb hr hlocks hM hS dX4_tagsGained_24 (Nat.le_of_ble_eq_true rfl) (Nat.le_of_ble_eq_true rfl)

abbrev rmq_X4_tagsLost : Room := ({ frames := 4, cells := 0, slots := 0, locals := 103 } : Room)
set_option maxHeartbeats 4000000 in
set_option maxRecDepth 100000 in
theorem mq_X4_tagsLost (l : Launch) (E : KEnv) (this : Nat) (a1 : Int32) (a2 : Int32) (M M' : Mem) (v : Int32) (h : f_X4_tagsLost this a1 a2 M = some (.inl v, M')) : Met l yX4_tagsLost (Cond.code yX4_tagsLost cX4_tagsLost 5 (some .int) :: lw_G) rmq_X4_tagsLost (cPc E [.ref this, .int a1, .int a2] M) (cQ E (some (.int v)) M') 0 0 (eA E) := by
  refine Met.ofW (cc := cX4_tagsLost) (maxL := 5) (ret := (some .int)) (by decide) rfl ?_
  intro p e s m args below meth c s₁ B hml hv
  obtain ⟨rfl, hE, hM⟩ := hv
  have hx := B.exec
  have hb := B.bytes
  have hr := B.returns
  have hts0 := atoms_spec (ws := Cond.code yX4_tagsLost cX4_tagsLost 5 (some .int) :: lw_G) B.pre
  have hts : ∀ w ∈ lw_G, w.before _ s = true := fun w hw => hts0 w (List.mem_cons_of_mem _ hw)
  have hown : s.vm.findClass RX4 = some m.cls := findClass_of_methodNamed B.named
  have hlocks := B.notSynchronized
  have hC : CallFix p m c cX4_tagsLost 5 s _ lw_G RX4 := ⟨hx, hb, hml, hown, hts⟩
  have hS : va_S (eA E) s.heap s.heap [] := va_S.rf
  have hl := lv_entry ([.ref this, .int a1, .int a2]) (n := 5) (Nat.le_of_ble_eq_true rfl)
  rw [lg_entry_eq]
  generalize (lg_sl ([.ref this, .int a1, .int a2]) ++ List.replicate (5 - (lg_sl ([.ref this, .int a1, .int a2])).length) Slot.unset).toArray = ls at hl ⊢
  have hl : lv_has ls 5 [(0, .ref this), (1, .int a1), (2, .int a2)] := hl
  unfold f_X4_tagsLost at h
  show W p l e rmq_X4_tagsLost s m _ below meth c s.heap [] 0 0 _ _
  refine lv_aload_n hx hb dX4_tagsLost_0 rfl (lv_at hl 0 rfl) ?_
  refine lv_iload_n hx hb dX4_tagsLost_1 rfl (lv_at hl 1 rfl) ?_
  rcases obx h with ⟨v1, M2, h1, h⟩ | ⟨ex, M9, h1, h⟩
  rotate_left
  · exfalso
    cases h
  obtain ⟨hk1, h1⟩ := ifg h1
  refine kV1 (ci := 4) (As := [.int a1]) (rest := []) hC hE hS hM (mq_X4_stateOf _ E this a1 _ _ _ h1) (gwV qw_619 qw_621 qw_25 qw_39 qw_622) ⟨rfl, rfl, (Nat.le_of_ble_eq_true rfl), (Nat.le_of_ble_eq_true rfl)⟩ dd_X4_stateOf rfl hk1 rfl rfl hl.1 (Nat.le_of_ble_eq_true rfl) dX4_tagsLost_2 ⟨(Nat.le_of_ble_eq_true rfl), (Nat.le_of_ble_eq_true rfl)⟩ (fun H locs hM hS => ?_)
  refine lv_astore_n (lv' := [(3, .ref v1), (0, .ref this), (1, .int a1), (2, .int a2)]) hx hb dX4_tagsLost_5 rfl hl (by decide) rfl (fun ls hl => ?_)
  refine lv_aload_n hx hb dX4_tagsLost_6 rfl (lv_at hl 1 rfl) ?_
  refine lv_aload_n hx hb dX4_tagsLost_7 rfl (lv_at hl 0 rfl) ?_
  refine lv_aload_n hx hb dX4_tagsLost_8 rfl (lv_at hl 1 rfl) ?_
  refine lv_iload_n hx hb dX4_tagsLost_9 rfl (lv_at hl 3 rfl) ?_
  rcases obx h with ⟨v3, M4, h1, h⟩ | ⟨ex, M9, h1, h⟩
  rotate_left
  · exfalso
    cases h
  obtain ⟨hk1, h1⟩ := ifg h1
  refine kV1 (ci := 4) (As := [.int a2]) (rest := [.ref v1, .ref this]) hC hE hS hM (mq_X4_stateOf _ E this a2 _ _ _ h1) (gwV qw_619 qw_621 qw_25 qw_39 qw_622) ⟨rfl, rfl, (Nat.le_of_ble_eq_true rfl), (Nat.le_of_ble_eq_true rfl)⟩ dd_X4_stateOf rfl hk1 rfl rfl hl.1 (Nat.le_of_ble_eq_true rfl) dX4_tagsLost_10 ⟨(Nat.le_of_ble_eq_true rfl), (Nat.le_of_ble_eq_true rfl)⟩ (fun H locs hM hS => ?_)
  obtain ⟨v5, M6, h1, h⟩ := ob2 h
  obtain ⟨hk1, h1⟩ := ifg h1
  refine kV1 (ci := 4) (As := [.ref v1, .ref v3]) (rest := []) hC hE hS hM (mt_X4_mergedOnTrial _ E this v1 v3 _ _ _ h1) (gwV qw_1048 qw_1050 qw_34 qw_39 qw_1051) ⟨rfl, rfl, (Nat.le_of_ble_eq_true rfl), (Nat.le_of_ble_eq_true rfl)⟩ dd_X4_mergedOnTrial rfl hk1 rfl rfl hl.1 (Nat.le_of_ble_eq_true rfl) dX4_tagsLost_13 ⟨(Nat.le_of_ble_eq_true rfl), (Nat.le_of_ble_eq_true rfl)⟩ (fun H locs hM hS => ?_)
  refine lv_astore (lv' := [(4, .ref v5), (3, .ref v1), (0, .ref this), (1, .int a1), (2, .int a2)]) hx hb dX4_tagsLost_16 hl (by decide) rfl (fun ls hl => ?_)
  refine lv_aload_n hx hb dX4_tagsLost_18 rfl (lv_at hl 1 rfl) ?_
  refine lv_aload hx hb dX4_tagsLost_19 (lv_at hl 0 rfl) ?_
  obtain ⟨v7, M8, h1, h⟩ := ob2 h
  obtain ⟨hk1, h1⟩ := ifg h1
  refine kV1 (ci := 2) (As := [.ref v5]) (rest := []) hC hE hS hM (mt_X2_tagsMissingIn _ E v1 v5 _ _ _ h1) (gwV qw_1139 qw_1140 qw_1141 qw_41 qw_1142) ⟨rfl, rfl, (Nat.le_of_ble_eq_true rfl), (Nat.le_of_ble_eq_true rfl)⟩ dd_X2_tagsMissingIn rfl hk1 rfl rfl hl.1 (Nat.le_of_ble_eq_true rfl) dX4_tagsLost_21 ⟨(Nat.le_of_ble_eq_true rfl), (Nat.le_of_ble_eq_true rfl)⟩ (fun H locs hM hS => ?_)
  cases h
  exact eI hx hb hr hlocks hM hS dX4_tagsLost_24 (Nat.le_of_ble_eq_true rfl) (Nat.le_of_ble_eq_true rfl)

abbrev rmq_X4_mergedValue : Room := ({ frames := 4, cells := 0, slots := 0, locals := 91 } : Room)
set_option maxHeartbeats 4000000 in
set_option maxRecDepth 100000 in
theorem mq_X4_mergedValue (l : Launch) (E : KEnv) (this : Nat) (a1 : Int32) (M M' : Mem) (v : Int32) (h : f_X4_mergedValue this a1 M = some (.inl v, M')) : Met l yX4_mergedValue (Cond.code yX4_mergedValue cX4_mergedValue 2 (some .int) :: lw_G) rmq_X4_mergedValue (cPc E [.ref this, .int a1] M) (cQ E (some (.int v)) M') 0 0 (eA E) := by
  refine Met.ofW (cc := cX4_mergedValue) (maxL := 2) (ret := (some .int)) (by decide) rfl ?_
  intro p e s m args below meth c s₁ B hml hv
  obtain ⟨rfl, hE, hM⟩ := hv
  have hx := B.exec
  have hb := B.bytes
  have hr := B.returns
  have hts0 := atoms_spec (ws := Cond.code yX4_mergedValue cX4_mergedValue 2 (some .int) :: lw_G) B.pre
  have hts : ∀ w ∈ lw_G, w.before _ s = true := fun w hw => hts0 w (List.mem_cons_of_mem _ hw)
  have hown : s.vm.findClass RX4 = some m.cls := findClass_of_methodNamed B.named
  have hlocks := B.notSynchronized
  have hC : CallFix p m c cX4_mergedValue 2 s _ lw_G RX4 := ⟨hx, hb, hml, hown, hts⟩
  have hS : va_S (eA E) s.heap s.heap [] := va_S.rf
  have hl := lv_entry ([.ref this, .int a1]) (n := 2) (Nat.le_of_ble_eq_true rfl)
  rw [lg_entry_eq]
  generalize (lg_sl ([.ref this, .int a1]) ++ List.replicate (2 - (lg_sl ([.ref this, .int a1])).length) Slot.unset).toArray = ls at hl ⊢
  have hl : lv_has ls 2 [(0, .ref this), (1, .int a1)] := hl
  unfold f_X4_mergedValue at h
  show W p l e rmq_X4_mergedValue s m _ below meth c s.heap [] 0 0 _ _
  refine lv_aload_n hx hb dX4_mergedValue_0 rfl (lv_at hl 0 rfl) ?_
  refine lv_iload_n hx hb dX4_mergedValue_1 rfl (lv_at hl 1 rfl) ?_
  rcases obx h with ⟨v1, M2, h1, h⟩ | ⟨ex, M9, h1, h⟩
  rotate_left
  · exfalso
    cases h
  obtain ⟨hk1, h1⟩ := ifg h1
  refine kV0 (ci := 4) (As := [.int a1]) (rest := []) hC hE hS hM (mq_X4_requireCounter _ E this a1 _ _ h1) (gwV qw_628 qw_630 qw_27 qw_39 qw_631) ⟨rfl, rfl, (Nat.le_of_ble_eq_true rfl), (Nat.le_of_ble_eq_true rfl)⟩ dd_X4_requireCounter rfl hk1 rfl rfl hl.1 (Nat.le_of_ble_eq_true rfl) dX4_mergedValue_2 ⟨(Nat.le_of_ble_eq_true rfl), (Nat.le_of_ble_eq_true rfl)⟩ (fun H locs hM hS => ?_)
  refine lv_aload_n hx hb dX4_mergedValue_5 rfl (lv_at hl 0 rfl) ?_
  obtain ⟨v3, M4, h1, h⟩ := ob2 h
  obtain ⟨hk1, h1⟩ := ifg h1
  refine kV1 (ci := 4) (As := []) (rest := []) hC hE hS hM (mt_X4_allMergedOnTrial _ E this _ _ _ h1) (gwV qw_1114 qw_1116 qw_35 qw_39 qw_1117) ⟨rfl, rfl, (Nat.le_of_ble_eq_true rfl), (Nat.le_of_ble_eq_true rfl)⟩ dd_X4_allMergedOnTrial rfl hk1 rfl rfl hl.1 (Nat.le_of_ble_eq_true rfl) dX4_mergedValue_6 ⟨(Nat.le_of_ble_eq_true rfl), (Nat.le_of_ble_eq_true rfl)⟩ (fun H locs hM hS => ?_)
  refine lv_iload_n hx hb dX4_mergedValue_9 rfl (lv_at hl 1 rfl) ?_
  obtain ⟨v5, M6, h1, h⟩ := ob2 h
  obtain ⟨hk1, h1⟩ := ifg h1
  refine kV1 (ci := 2) (As := [.int a1]) (rest := []) hC hE hS hM (mt_X2_total _ E v3 a1 _ _ _ h1) (gwV qw_635 qw_636 qw_637 qw_41 qw_638) ⟨rfl, rfl, (Nat.le_of_ble_eq_true rfl), (Nat.le_of_ble_eq_true rfl)⟩ dd_X2_total rfl hk1 rfl rfl hl.1 (Nat.le_of_ble_eq_true rfl) dX4_mergedValue_10 ⟨(Nat.le_of_ble_eq_true rfl), (Nat.le_of_ble_eq_true rfl)⟩ (fun H locs hM hS => ?_)
  cases h
  exact eI hx hb hr hlocks hM hS dX4_mergedValue_13 (Nat.le_of_ble_eq_true rfl) (Nat.le_of_ble_eq_true rfl)

abbrev rmq_X4_requireMessage : Room := ({ frames := 0, cells := 0, slots := 0, locals := 0 } : Room)
set_option maxHeartbeats 4000000 in
set_option maxRecDepth 100000 in
theorem tq_X4_requireMessage_15 {p : Program} {l : Launch} {e : Env} {s : State} {m : MethodId} {args : Array Value} {below : List Frame} {meth : Method} {c : Code} {E : KEnv} {H : Heap} {locs : List Loc} {ls : Array Slot}  {M : Mem} {M' : Mem} (hC : CallFix p m c cX4_requireMessage 2 s args lw_G RX4) (hr : meth.sig.returnType = none) (hlocks : meth.locks = false) (hE : EnvOK E s) (h : fj_X4_requireMessage_15  M = some (.inl (), M')) (hM : MOK E M H) (hS : va_S (eA E) s.heap H locs) (hl : lv_has ls 2 []) : W p l e rmq_X4_requireMessage s m args below meth c H locs 0 0 (MQ below (cQ E none M') args s 0 0 (eA E)) (F0 m 15 ls []) := by
  obtain ⟨hx, hb, hml, hown, hts⟩ := id hC
  unfold fj_X4_requireMessage_15 at h
  cases h
set_option maxHeartbeats 4000000 in
set_option maxRecDepth 100000 in
theorem mq_X4_requireMessage (l : Launch) (E : KEnv) (this : Nat) (a1 : Int32) (M M' : Mem) (h : f_X4_requireMessage this a1 M = some (.inl (), M')) : Met l yX4_requireMessage (Cond.code yX4_requireMessage cX4_requireMessage 2 none :: lw_G) rmq_X4_requireMessage (cPc E [.ref this, .int a1] M) (cQ E none M') 0 0 (eA E) := by
  refine Met.ofW (cc := cX4_requireMessage) (maxL := 2) (ret := none) (by decide) rfl ?_
  intro p e s m args below meth c s₁ B hml hv
  obtain ⟨rfl, hE, hM⟩ := hv
  have hx := B.exec
  have hb := B.bytes
  have hr := B.returns
  have hts0 := atoms_spec (ws := Cond.code yX4_requireMessage cX4_requireMessage 2 none :: lw_G) B.pre
  have hts : ∀ w ∈ lw_G, w.before _ s = true := fun w hw => hts0 w (List.mem_cons_of_mem _ hw)
  have hown : s.vm.findClass RX4 = some m.cls := findClass_of_methodNamed B.named
  have hlocks := B.notSynchronized
  have hC : CallFix p m c cX4_requireMessage 2 s _ lw_G RX4 := ⟨hx, hb, hml, hown, hts⟩
  have hS : va_S (eA E) s.heap s.heap [] := va_S.rf
  have hl := lv_entry ([.ref this, .int a1]) (n := 2) (Nat.le_of_ble_eq_true rfl)
  rw [lg_entry_eq]
  generalize (lg_sl ([.ref this, .int a1]) ++ List.replicate (2 - (lg_sl ([.ref this, .int a1])).length) Slot.unset).toArray = ls at hl ⊢
  have hl : lv_has ls 2 [(0, .ref this), (1, .int a1)] := hl
  unfold f_X4_requireMessage at h
  show W p l e rmq_X4_requireMessage s m _ below meth c s.heap [] 0 0 _ _
  refine lv_iload_n hx hb dX4_requireMessage_0 rfl (lv_at hl 1 rfl) ?_
  refine lv_if_lt (tgt := 15) hx hb dX4_requireMessage_1 (by decide) (fun c1 => ?_) (fun c1 => ?_)
  · have h := ifp c1 h
    refine W.widen (k := 0) (n := 0) (Nat.le_of_ble_eq_true rfl) (Nat.le_of_ble_eq_true rfl) ?_
    exact tq_X4_requireMessage_15  hC hr hlocks hE  h hM hS (lv_sub hl [] rfl)
  · have h := ifn c1 h
    refine lv_iload_n hx hb dX4_requireMessage_4 rfl (lv_at hl 1 rfl) ?_
    refine lv_aload_n hx hb dX4_requireMessage_5 rfl (lv_at hl 0 rfl) ?_
    obtain ⟨v1, h1, h⟩ := ob h
    refine rgn_4_6 hx hb hts hown hE hM qw_404 h1 dX4_requireMessage_6 ?_
    obtain ⟨v2, h1, h⟩ := ob h
    refine rg_3_3 hx hb hts hown hE hM qw_99 h1 dX4_requireMessage_9 ?_
    refine lv_icmp_lt (tgt := 26) hx hb dX4_requireMessage_12 (by decide) (fun c1 => ?_) (fun c1 => ?_)
    · have h := ifp c1 h
      cases h
      exact eV_ hx hb hr hlocks hM hS dX4_requireMessage_26 (Nat.le_of_ble_eq_true rfl) (Nat.le_of_ble_eq_true rfl)
    · have h := ifn c1 h
      refine W.widen (k := 0) (n := 0) (Nat.le_of_ble_eq_true rfl) (Nat.le_of_ble_eq_true rfl) ?_
      exact tq_X4_requireMessage_15  hC hr hlocks hE  h hM hS (lv_sub hl [] rfl)

abbrev rmq_X4_senderOf : Room := ({ frames := 1, cells := 0, slots := 0, locals := 21 } : Room)
set_option maxHeartbeats 4000000 in
set_option maxRecDepth 100000 in
theorem mq_X4_senderOf (l : Launch) (E : KEnv) (this : Nat) (a1 : Int32) (M M' : Mem) (v : Int32) (h : f_X4_senderOf this a1 M = some (.inl v, M')) : Met l yX4_senderOf (Cond.code yX4_senderOf cX4_senderOf 2 (some .int) :: lw_G) rmq_X4_senderOf (cPc E [.ref this, .int a1] M) (cQ E (some (.int v)) M') 0 0 (eA E) := by
  refine Met.ofW (cc := cX4_senderOf) (maxL := 2) (ret := (some .int)) (by decide) rfl ?_
  intro p e s m args below meth c s₁ B hml hv
  obtain ⟨rfl, hE, hM⟩ := hv
  have hx := B.exec
  have hb := B.bytes
  have hr := B.returns
  have hts0 := atoms_spec (ws := Cond.code yX4_senderOf cX4_senderOf 2 (some .int) :: lw_G) B.pre
  have hts : ∀ w ∈ lw_G, w.before _ s = true := fun w hw => hts0 w (List.mem_cons_of_mem _ hw)
  have hown : s.vm.findClass RX4 = some m.cls := findClass_of_methodNamed B.named
  have hlocks := B.notSynchronized
  have hC : CallFix p m c cX4_senderOf 2 s _ lw_G RX4 := ⟨hx, hb, hml, hown, hts⟩
  have hS : va_S (eA E) s.heap s.heap [] := va_S.rf
  have hl := lv_entry ([.ref this, .int a1]) (n := 2) (Nat.le_of_ble_eq_true rfl)
  rw [lg_entry_eq]
  generalize (lg_sl ([.ref this, .int a1]) ++ List.replicate (2 - (lg_sl ([.ref this, .int a1])).length) Slot.unset).toArray = ls at hl ⊢
  have hl : lv_has ls 2 [(0, .ref this), (1, .int a1)] := hl
  unfold f_X4_senderOf at h
  show W p l e rmq_X4_senderOf s m _ below meth c s.heap [] 0 0 _ _
  refine lv_aload_n hx hb dX4_senderOf_0 rfl (lv_at hl 0 rfl) ?_
  refine lv_iload_n hx hb dX4_senderOf_1 rfl (lv_at hl 1 rfl) ?_
  rcases obx h with ⟨v1, M2, h1, h⟩ | ⟨ex, M9, h1, h⟩
  rotate_left
  · exfalso
    cases h
  obtain ⟨hk1, h1⟩ := ifg h1
  refine kV0 (ci := 4) (As := [.int a1]) (rest := []) hC hE hS hM (mq_X4_requireMessage _ E this a1 _ _ h1) (gwV qw_723 qw_725 qw_31 qw_39 qw_726) ⟨rfl, rfl, (Nat.le_of_ble_eq_true rfl), (Nat.le_of_ble_eq_true rfl)⟩ dd_X4_requireMessage rfl hk1 rfl rfl hl.1 (Nat.le_of_ble_eq_true rfl) dX4_senderOf_2 ⟨(Nat.le_of_ble_eq_true rfl), (Nat.le_of_ble_eq_true rfl)⟩ (fun H locs hM hS => ?_)
  refine lv_aload_n hx hb dX4_senderOf_5 rfl (lv_at hl 0 rfl) ?_
  obtain ⟨v3, h1, h⟩ := ob h
  refine rgn_4_6 hx hb hts hown hE hM qw_404 h1 dX4_senderOf_6 ?_
  obtain ⟨v4, h1, h⟩ := ob h
  refine rgn_3_6 hx hb hts hown hE hM qw_107 h1 dX4_senderOf_9 ?_
  refine lv_iload_n hx hb dX4_senderOf_12 rfl (lv_at hl 1 rfl) ?_
  obtain ⟨v5, h1, h⟩ := ob h
  refine r_iald hx hb hE hM h1 dX4_senderOf_13 ?_
  cases h
  exact eI hx hb hr hlocks hM hS dX4_senderOf_14 (Nat.le_of_ble_eq_true rfl) (Nat.le_of_ble_eq_true rfl)

abbrev rmq_X4_isNews : Room := ({ frames := 5, cells := 0, slots := 0, locals := 125 } : Room)
set_option maxHeartbeats 4000000 in
set_option maxRecDepth 100000 in
theorem tq_X4_isNews_31 {p : Program} {l : Launch} {e : Env} {s : State} {m : MethodId} {args : Array Value} {below : List Frame} {meth : Method} {c : Code} {E : KEnv} {H : Heap} {locs : List Loc} {ls : Array Slot} {s0 : Int32} {M : Mem} {v : Int32} {M' : Mem} (hC : CallFix p m c cX4_isNews 3 s args lw_G RX4) (hr : meth.sig.returnType = (some .boolean)) (hlocks : meth.locks = false) (hE : EnvOK E s) (h : fj_X4_isNews_31 s0 M = some (.inl v, M')) (hM : MOK E M H) (hS : va_S (eA E) s.heap H locs) (hl : lv_has ls 3 []) : W p l e rmq_X4_isNews s m args below meth c H locs 0 0 (MQ below (cQ E (some (.int v)) M') args s 0 0 (eA E)) (F0 m 31 ls [.int s0]) := by
  obtain ⟨hx, hb, hml, hown, hts⟩ := id hC
  unfold fj_X4_isNews_31 at h
  obtain ⟨h01, h⟩ := ifg h
  cases h
  exact eZ hx hb hr hlocks hM hS dX4_isNews_31 (Nat.le_of_ble_eq_true rfl) (Nat.le_of_ble_eq_true rfl) h01
set_option maxHeartbeats 4000000 in
set_option maxRecDepth 100000 in
theorem mq_X4_isNews (l : Launch) (E : KEnv) (this : Nat) (a1 : Int32) (a2 : Int32) (M M' : Mem) (v : Int32) (h : f_X4_isNews this a1 a2 M = some (.inl v, M')) : Met l yX4_isNews (Cond.code yX4_isNews cX4_isNews 3 (some .boolean) :: lw_G) rmq_X4_isNews (cPc E [.ref this, .int a1, .int a2] M) (cQ E (some (.int v)) M') 0 0 (eA E) := by
  refine Met.ofW (cc := cX4_isNews) (maxL := 3) (ret := (some .boolean)) (by decide) rfl ?_
  intro p e s m args below meth c s₁ B hml hv
  obtain ⟨rfl, hE, hM⟩ := hv
  have hx := B.exec
  have hb := B.bytes
  have hr := B.returns
  have hts0 := atoms_spec (ws := Cond.code yX4_isNews cX4_isNews 3 (some .boolean) :: lw_G) B.pre
  have hts : ∀ w ∈ lw_G, w.before _ s = true := fun w hw => hts0 w (List.mem_cons_of_mem _ hw)
  have hown : s.vm.findClass RX4 = some m.cls := findClass_of_methodNamed B.named
  have hlocks := B.notSynchronized
  have hC : CallFix p m c cX4_isNews 3 s _ lw_G RX4 := ⟨hx, hb, hml, hown, hts⟩
  have hS : va_S (eA E) s.heap s.heap [] := va_S.rf
  have hl := lv_entry ([.ref this, .int a1, .int a2]) (n := 3) (Nat.le_of_ble_eq_true rfl)
  rw [lg_entry_eq]
  generalize (lg_sl ([.ref this, .int a1, .int a2]) ++ List.replicate (3 - (lg_sl ([.ref this, .int a1, .int a2])).length) Slot.unset).toArray = ls at hl ⊢
  have hl : lv_has ls 3 [(0, .ref this), (1, .int a1), (2, .int a2)] := hl
  unfold f_X4_isNews at h
  show W p l e rmq_X4_isNews s m _ below meth c s.heap [] 0 0 _ _
  refine lv_aload_n hx hb dX4_isNews_0 rfl (lv_at hl 0 rfl) ?_
  refine lv_iload_n hx hb dX4_isNews_1 rfl (lv_at hl 1 rfl) ?_
  rcases obx h with ⟨v1, M2, h1, h⟩ | ⟨ex, M9, h1, h⟩
  rotate_left
  · exfalso
    cases h
  obtain ⟨hk1, h1⟩ := ifg h1
  refine kV0 (ci := 4) (As := [.int a1]) (rest := []) hC hE hS hM (mq_X4_requireMessage _ E this a1 _ _ h1) (gwV qw_723 qw_725 qw_31 qw_39 qw_726) ⟨rfl, rfl, (Nat.le_of_ble_eq_true rfl), (Nat.le_of_ble_eq_true rfl)⟩ dd_X4_requireMessage rfl hk1 rfl rfl hl.1 (Nat.le_of_ble_eq_true rfl) dX4_isNews_2 ⟨(Nat.le_of_ble_eq_true rfl), (Nat.le_of_ble_eq_true rfl)⟩ (fun H locs hM hS => ?_)
  refine lv_aload_n hx hb dX4_isNews_5 rfl (lv_at hl 0 rfl) ?_
  refine lv_aload_n hx hb dX4_isNews_6 rfl (lv_at hl 0 rfl) ?_
  refine lv_iload_n hx hb dX4_isNews_7 rfl (lv_at hl 2 rfl) ?_
  rcases obx h with ⟨v3, M4, h1, h⟩ | ⟨ex, M9, h1, h⟩
  rotate_left
  · exfalso
    cases h
  obtain ⟨hk1, h1⟩ := ifg h1
  refine kV1 (ci := 4) (As := [.int a2]) (rest := [.ref this]) hC hE hS hM (mq_X4_stateOf _ E this a2 _ _ _ h1) (gwV qw_619 qw_621 qw_25 qw_39 qw_622) ⟨rfl, rfl, (Nat.le_of_ble_eq_true rfl), (Nat.le_of_ble_eq_true rfl)⟩ dd_X4_stateOf rfl hk1 rfl rfl hl.1 (Nat.le_of_ble_eq_true rfl) dX4_isNews_8 ⟨(Nat.le_of_ble_eq_true rfl), (Nat.le_of_ble_eq_true rfl)⟩ (fun H locs hM hS => ?_)
  refine lv_aload_n hx hb dX4_isNews_11 rfl (lv_at hl 0 rfl) ?_
  obtain ⟨v5, h1, h⟩ := ob h
  refine rgn_4_6 hx hb hts hown hE hM qw_404 h1 dX4_isNews_12 ?_
  obtain ⟨v6, h1, h⟩ := ob h
  refine rgn_3_5 hx hb hts hown hE hM qw_105 h1 dX4_isNews_15 ?_
  refine lv_iload_n hx hb dX4_isNews_18 rfl (lv_at hl 1 rfl) ?_
  obtain ⟨v7, h1, h⟩ := ob h
  refine r_aldnS hx hb hE hM h1 dX4_isNews_19 ?_
  obtain ⟨v8, M9, h1, h⟩ := ob2 h
  obtain ⟨hk1, h1⟩ := ifg h1
  refine kV1 (ci := 4) (As := [.ref v3, .ref v7]) (rest := []) hC hE hS hM (mt_X4_knowsAllOf _ E this v3 v7 _ _ _ h1) (gwV qw_1044 qw_1046 qw_33 qw_39 qw_1047) ⟨rfl, rfl, (Nat.le_of_ble_eq_true rfl), (Nat.le_of_ble_eq_true rfl)⟩ dd_X4_knowsAllOf rfl hk1 rfl rfl hl.1 (Nat.le_of_ble_eq_true rfl) dX4_isNews_20 ⟨(Nat.le_of_ble_eq_true rfl), (Nat.le_of_ble_eq_true rfl)⟩ (fun H locs hM hS => ?_)
  refine lv_if_ne (tgt := 30) hx hb dX4_isNews_23 (by decide) (fun c1 => ?_) (fun c1 => ?_)
  · have h := ifn c1 h
    refine lv_iconst (v := 0) hx hb dX4_isNews_30 (by decide) ?_
    refine W.widen (k := 0) (n := 0) (Nat.le_of_ble_eq_true rfl) (Nat.le_of_ble_eq_true rfl) ?_
    exact tq_X4_isNews_31  hC hr hlocks hE  h hM hS (lv_sub hl [] rfl)
  · have h := ifp c1 h
    refine lv_iconst (v := 1) hx hb dX4_isNews_26 (by decide) ?_
    refine lv_goto (tgt := 31) hx hb dX4_isNews_27 (by decide) ?_
    refine W.widen (k := 0) (n := 0) (Nat.le_of_ble_eq_true rfl) (Nat.le_of_ble_eq_true rfl) ?_
    exact tq_X4_isNews_31  hC hr hlocks hE  h hM hS (lv_sub hl [] rfl)

abbrev rmq_X4_changeCounter : Room := ({ frames := 5, cells := 24, slots := 1353, locals := 124 } : Room)
set_option maxHeartbeats 4000000 in
set_option maxRecDepth 100000 in
theorem tq_X4_changeCounter_25 {p : Program} {l : Launch} {e : Env} {s : State} {m : MethodId} {args : Array Value} {below : List Frame} {meth : Method} {c : Code} {E : KEnv} {H : Heap} {locs : List Loc} {ls : Array Slot}  {M : Mem} {v : Int32} {M' : Mem} (hC : CallFix p m c cX4_changeCounter 6 s args lw_G RX4) (hr : meth.sig.returnType = (some .int)) (hlocks : meth.locks = false) (hE : EnvOK E s) (h : fj_X4_changeCounter_25  M = some (.inl v, M')) (hM : MOK E M H) (hS : va_S (eA E) s.heap H locs) (hl : lv_has ls 6 []) : W p l e rmq_X4_changeCounter s m args below meth c H locs 0 0 (MQ below (cQ E (some (.int v)) M') args s 24 1353 (eA E)) (F0 m 25 ls []) := by
  obtain ⟨hx, hb, hml, hown, hts⟩ := id hC
  unfold fj_X4_changeCounter_25 at h
  cases h
set_option maxHeartbeats 4000000 in
set_option maxRecDepth 100000 in
theorem mq_X4_changeCounter (l : Launch) (E : KEnv) (this : Nat) (a1 : Int32) (a2 : Int32) (a3 : Int32) (a4 : Int32) (M M' : Mem) (v : Int32) (h : f_X4_changeCounter this a1 a2 a3 a4 M = some (.inl v, M')) : Met l yX4_changeCounter (Cond.code yX4_changeCounter cX4_changeCounter 6 (some .int) :: lw_G) rmq_X4_changeCounter (cPc E [.ref this, .int a1, .int a2, .int a3, .int a4] M) (cQ E (some (.int v)) M') 24 1353 (eA E) := by
  refine Met.ofW (cc := cX4_changeCounter) (maxL := 6) (ret := (some .int)) (by decide) rfl ?_
  intro p e s m args below meth c s₁ B hml hv
  obtain ⟨rfl, hE, hM⟩ := hv
  have hx := B.exec
  have hb := B.bytes
  have hr := B.returns
  have hts0 := atoms_spec (ws := Cond.code yX4_changeCounter cX4_changeCounter 6 (some .int) :: lw_G) B.pre
  have hts : ∀ w ∈ lw_G, w.before _ s = true := fun w hw => hts0 w (List.mem_cons_of_mem _ hw)
  have hown : s.vm.findClass RX4 = some m.cls := findClass_of_methodNamed B.named
  have hlocks := B.notSynchronized
  have hC : CallFix p m c cX4_changeCounter 6 s _ lw_G RX4 := ⟨hx, hb, hml, hown, hts⟩
  have hS : va_S (eA E) s.heap s.heap [] := va_S.rf
  have hl := lv_entry ([.ref this, .int a1, .int a2, .int a3, .int a4]) (n := 6) (Nat.le_of_ble_eq_true rfl)
  rw [lg_entry_eq]
  generalize (lg_sl ([.ref this, .int a1, .int a2, .int a3, .int a4]) ++ List.replicate (6 - (lg_sl ([.ref this, .int a1, .int a2, .int a3, .int a4])).length) Slot.unset).toArray = ls at hl ⊢
  have hl : lv_has ls 6 [(0, .ref this), (1, .int a1), (2, .int a2), (3, .int a3), (4, .int a4)] := hl
  unfold f_X4_changeCounter at h
  show W p l e rmq_X4_changeCounter s m _ below meth c s.heap [] 0 0 _ _
  refine lv_aload_n hx hb dX4_changeCounter_0 rfl (lv_at hl 0 rfl) ?_
  refine lv_iload_n hx hb dX4_changeCounter_1 rfl (lv_at hl 2 rfl) ?_
  rcases obx h with ⟨v1, M2, h1, h⟩ | ⟨ex, M9, h1, h⟩
  rotate_left
  · exfalso
    cases h
  obtain ⟨hk1, h1⟩ := ifg h1
  refine kV1 (ci := 4) (As := [.int a2]) (rest := []) hC hE hS hM (mq_X4_stateOf _ E this a2 _ _ _ h1) (gwV qw_619 qw_621 qw_25 qw_39 qw_622) ⟨rfl, rfl, (Nat.le_of_ble_eq_true rfl), (Nat.le_of_ble_eq_true rfl)⟩ dd_X4_stateOf rfl hk1 rfl rfl hl.1 (Nat.le_of_ble_eq_true rfl) dX4_changeCounter_2 ⟨(Nat.le_of_ble_eq_true rfl), (Nat.le_of_ble_eq_true rfl)⟩ (fun H locs hM hS => ?_)
  refine lv_astore (lv' := [(5, .ref v1), (0, .ref this), (1, .int a1), (2, .int a2), (3, .int a3), (4, .int a4)]) hx hb dX4_changeCounter_5 hl (by decide) rfl (fun ls hl => ?_)
  refine lv_aload_n hx hb dX4_changeCounter_7 rfl (lv_at hl 1 rfl) ?_
  refine lv_iload_n hx hb dX4_changeCounter_8 rfl (lv_at hl 4 rfl) ?_
  rcases obx h with ⟨v3, M4, h1, h⟩ | ⟨ex, M9, h1, h⟩
  rotate_left
  · exfalso
    cases h
  obtain ⟨hk1, h1⟩ := ifg h1
  refine kV0 (ci := 4) (As := [.int a3]) (rest := []) hC hE hS hM (mq_X4_requireCounter _ E this a3 _ _ h1) (gwV qw_628 qw_630 qw_27 qw_39 qw_631) ⟨rfl, rfl, (Nat.le_of_ble_eq_true rfl), (Nat.le_of_ble_eq_true rfl)⟩ dd_X4_requireCounter rfl hk1 rfl rfl hl.1 (Nat.le_of_ble_eq_true rfl) dX4_changeCounter_9 ⟨(Nat.le_of_ble_eq_true rfl), (Nat.le_of_ble_eq_true rfl)⟩ (fun H locs hM hS => ?_)
  refine lv_iload hx hb dX4_changeCounter_12 (lv_at hl 5 rfl) ?_
  refine lv_iconst (v := 1) hx hb dX4_changeCounter_14 (by decide) ?_
  refine lv_icmp_lt (tgt := 25) hx hb dX4_changeCounter_15 (by decide) (fun c1 => ?_) (fun c1 => ?_)
  · have h := ifp c1 h
    refine W.widen (k := 0) (n := 0) (Nat.le_of_ble_eq_true rfl) (Nat.le_of_ble_eq_true rfl) ?_
    exact tq_X4_changeCounter_25  hC hr hlocks hE  h hM hS (lv_sub hl [] rfl)
  · have h := ifn c1 h
    refine lv_iload hx hb dX4_changeCounter_18 (lv_at hl 5 rfl) ?_
    refine lv_bipush (v := 99) hx hb dX4_changeCounter_20 (by decide) ?_
    refine lv_icmp_le (tgt := 35) hx hb dX4_changeCounter_22 (by decide) (fun c1 => ?_) (fun c1 => ?_)
    · have h := ifp c1 h
      refine lv_aload_n hx hb dX4_changeCounter_35 rfl (lv_at hl 1 rfl) ?_
      obtain ⟨v5, h1, h⟩ := ob h
      refine rgn_4_8 hx hb hts hown hE hM qw_406 h1 dX4_changeCounter_36 ?_
      refine lv_aload_n hx hb dX4_changeCounter_39 rfl (lv_at hl 1 rfl) ?_
      obtain ⟨v6, h1, h⟩ := ob h
      refine rgn_4_6 hx hb hts hown hE hM qw_404 h1 dX4_changeCounter_40 ?_
      obtain ⟨M8, h1, h⟩ := ob h
      obtain ⟨hk1, h1⟩ := ifg h1
      refine kV0 (ci := 0) (As := [.ref v6]) (rest := []) hC hE hS hM (mt_X0_record _ E v5 v6 _ _ h1) (gwV qw_526 qw_527 qw_528 qw_42 qw_529) ⟨rfl, rfl, (Nat.le_of_ble_eq_true rfl), (Nat.le_of_ble_eq_true rfl)⟩ dd_X0_record rfl hk1 rfl rfl hl.1 (Nat.le_of_ble_eq_true rfl) dX4_changeCounter_43 ⟨(Nat.le_of_ble_eq_true rfl), (Nat.le_of_ble_eq_true rfl)⟩ (fun H locs hM hS => ?_)
      refine lv_aload hx hb dX4_changeCounter_46 (lv_at hl 0 rfl) ?_
      refine lv_iload_n hx hb dX4_changeCounter_48 rfl (lv_at hl 2 rfl) ?_
      refine lv_iload_n hx hb dX4_changeCounter_49 rfl (lv_at hl 4 rfl) ?_
      refine lv_iload_n hx hb dX4_changeCounter_50 rfl (lv_at hl 3 rfl) ?_
      refine lv_iload hx hb dX4_changeCounter_51 (lv_at hl 5 rfl) ?_
      obtain ⟨M10, h1, h⟩ := ob h
      obtain ⟨hk1, h1⟩ := ifg h1
      refine kV0 (ci := 2) (As := [.int a1, .int a3, .int a2, .int a4]) (rest := []) hC hE hS hM (mt_X2_addToSum _ E v1 a1 a3 a2 a4 _ _ h1) (gwV qw_634 qw_310 qw_311 qw_41 qw_312) ⟨rfl, rfl, (Nat.le_of_ble_eq_true rfl), (Nat.le_of_ble_eq_true rfl)⟩ dd_X2_addToSum rfl hk1 rfl rfl hl.1 (Nat.le_of_ble_eq_true rfl) dX4_changeCounter_53 ⟨(Nat.le_of_ble_eq_true rfl), (Nat.le_of_ble_eq_true rfl)⟩ (fun H locs hM hS => ?_)
      refine lv_aload hx hb dX4_changeCounter_56 (lv_at hl 0 rfl) ?_
      refine lv_iload_n hx hb dX4_changeCounter_58 rfl (lv_at hl 4 rfl) ?_
      obtain ⟨v11, M12, h1, h⟩ := ob2 h
      obtain ⟨hk1, h1⟩ := ifg h1
      refine kV1 (ci := 2) (As := [.int a3]) (rest := []) hC hE hS hM (mt_X2_total _ E v1 a3 _ _ _ h1) (gwV qw_635 qw_636 qw_637 qw_41 qw_638) ⟨rfl, rfl, (Nat.le_of_ble_eq_true rfl), (Nat.le_of_ble_eq_true rfl)⟩ dd_X2_total rfl hk1 rfl rfl hl.1 (Nat.le_of_ble_eq_true rfl) dX4_changeCounter_59 ⟨(Nat.le_of_ble_eq_true rfl), (Nat.le_of_ble_eq_true rfl)⟩ (fun H locs hM hS => ?_)
      cases h
      exact eI hx hb hr hlocks hM hS dX4_changeCounter_62 (Nat.le_of_ble_eq_true rfl) (Nat.le_of_ble_eq_true rfl)
    · have h := ifn c1 h
      refine W.widen (k := 0) (n := 0) (Nat.le_of_ble_eq_true rfl) (Nat.le_of_ble_eq_true rfl) ?_
      exact tq_X4_changeCounter_25  hC hr hlocks hE  h hM hS (lv_sub hl [] rfl)

abbrev rmq_X4_increment : Room := ({ frames := 6, cells := 24, slots := 1353, locals := 149 } : Room)
set_option maxHeartbeats 4000000 in
set_option maxRecDepth 100000 in
theorem mq_X4_increment (l : Launch) (E : KEnv) (this : Nat) (a1 : Int32) (a2 : Int32) (a3 : Int32) (M M' : Mem) (v : Int32) (h : f_X4_increment this a1 a2 a3 M = some (.inl v, M')) : Met l yX4_increment (Cond.code yX4_increment cX4_increment 4 (some .int) :: lw_G) rmq_X4_increment (cPc E [.ref this, .int a1, .int a2, .int a3] M) (cQ E (some (.int v)) M') 24 1353 (eA E) := by
  refine Met.ofW (cc := cX4_increment) (maxL := 4) (ret := (some .int)) (by decide) rfl ?_
  intro p e s m args below meth c s₁ B hml hv
  obtain ⟨rfl, hE, hM⟩ := hv
  have hx := B.exec
  have hb := B.bytes
  have hr := B.returns
  have hts0 := atoms_spec (ws := Cond.code yX4_increment cX4_increment 4 (some .int) :: lw_G) B.pre
  have hts : ∀ w ∈ lw_G, w.before _ s = true := fun w hw => hts0 w (List.mem_cons_of_mem _ hw)
  have hown : s.vm.findClass RX4 = some m.cls := findClass_of_methodNamed B.named
  have hlocks := B.notSynchronized
  have hC : CallFix p m c cX4_increment 4 s _ lw_G RX4 := ⟨hx, hb, hml, hown, hts⟩
  have hS : va_S (eA E) s.heap s.heap [] := va_S.rf
  have hl := lv_entry ([.ref this, .int a1, .int a2, .int a3]) (n := 4) (Nat.le_of_ble_eq_true rfl)
  rw [lg_entry_eq]
  generalize (lg_sl ([.ref this, .int a1, .int a2, .int a3]) ++ List.replicate (4 - (lg_sl ([.ref this, .int a1, .int a2, .int a3])).length) Slot.unset).toArray = ls at hl ⊢
  have hl : lv_has ls 4 [(0, .ref this), (1, .int a1), (2, .int a2), (3, .int a3)] := hl
  unfold f_X4_increment at h
  show W p l e rmq_X4_increment s m _ below meth c s.heap [] 0 0 _ _
  refine lv_aload_n hx hb dX4_increment_0 rfl (lv_at hl 0 rfl) ?_
  refine lv_iconst (v := 4) hx hb dX4_increment_1 (by decide) ?_
  refine lv_iload_n hx hb dX4_increment_2 rfl (lv_at hl 1 rfl) ?_
  refine lv_iload_n hx hb dX4_increment_3 rfl (lv_at hl 2 rfl) ?_
  refine lv_iload_n hx hb dX4_increment_4 rfl (lv_at hl 3 rfl) ?_
  rcases obx h with ⟨v1, M2, h1, h⟩ | ⟨ex, M9, h1, h⟩
  rotate_left
  · exfalso
    cases h
  obtain ⟨hk1, h1⟩ := ifg h1
  refine kV1 (ci := 4) (As := [.int 4, .int a1, .int a2, .int a3]) (rest := []) hC hE hS hM (mq_X4_changeCounter _ E this 4 a1 a2 a3 _ _ _ h1) (gwV qw_615 qw_617 qw_24 qw_39 qw_618) ⟨rfl, rfl, (Nat.le_of_ble_eq_true rfl), (Nat.le_of_ble_eq_true rfl)⟩ dd_X4_changeCounter rfl hk1 rfl rfl hl.1 (Nat.le_of_ble_eq_true rfl) dX4_increment_5 ⟨(Nat.le_of_ble_eq_true rfl), (Nat.le_of_ble_eq_true rfl)⟩ (fun H locs hM hS => ?_)
  cases h
  exact eI hx hb hr hlocks hM hS dX4_increment_8 (Nat.le_of_ble_eq_true rfl) (Nat.le_of_ble_eq_true rfl)

abbrev rmq_X4_decrement : Room := ({ frames := 6, cells := 24, slots := 1353, locals := 149 } : Room)
set_option maxHeartbeats 4000000 in
set_option maxRecDepth 100000 in
theorem mq_X4_decrement (l : Launch) (E : KEnv) (this : Nat) (a1 : Int32) (a2 : Int32) (a3 : Int32) (M M' : Mem) (v : Int32) (h : f_X4_decrement this a1 a2 a3 M = some (.inl v, M')) : Met l yX4_decrement (Cond.code yX4_decrement cX4_decrement 4 (some .int) :: lw_G) rmq_X4_decrement (cPc E [.ref this, .int a1, .int a2, .int a3] M) (cQ E (some (.int v)) M') 24 1353 (eA E) := by
  refine Met.ofW (cc := cX4_decrement) (maxL := 4) (ret := (some .int)) (by decide) rfl ?_
  intro p e s m args below meth c s₁ B hml hv
  obtain ⟨rfl, hE, hM⟩ := hv
  have hx := B.exec
  have hb := B.bytes
  have hr := B.returns
  have hts0 := atoms_spec (ws := Cond.code yX4_decrement cX4_decrement 4 (some .int) :: lw_G) B.pre
  have hts : ∀ w ∈ lw_G, w.before _ s = true := fun w hw => hts0 w (List.mem_cons_of_mem _ hw)
  have hown : s.vm.findClass RX4 = some m.cls := findClass_of_methodNamed B.named
  have hlocks := B.notSynchronized
  have hC : CallFix p m c cX4_decrement 4 s _ lw_G RX4 := ⟨hx, hb, hml, hown, hts⟩
  have hS : va_S (eA E) s.heap s.heap [] := va_S.rf
  have hl := lv_entry ([.ref this, .int a1, .int a2, .int a3]) (n := 4) (Nat.le_of_ble_eq_true rfl)
  rw [lg_entry_eq]
  generalize (lg_sl ([.ref this, .int a1, .int a2, .int a3]) ++ List.replicate (4 - (lg_sl ([.ref this, .int a1, .int a2, .int a3])).length) Slot.unset).toArray = ls at hl ⊢
  have hl : lv_has ls 4 [(0, .ref this), (1, .int a1), (2, .int a2), (3, .int a3)] := hl
  unfold f_X4_decrement at h
  show W p l e rmq_X4_decrement s m _ below meth c s.heap [] 0 0 _ _
  refine lv_aload_n hx hb dX4_decrement_0 rfl (lv_at hl 0 rfl) ?_
  refine lv_bipush (v := 20) hx hb dX4_decrement_1 (by decide) ?_
  refine lv_iload_n hx hb dX4_decrement_3 rfl (lv_at hl 1 rfl) ?_
  refine lv_iload_n hx hb dX4_decrement_4 rfl (lv_at hl 2 rfl) ?_
  refine lv_iload_n hx hb dX4_decrement_5 rfl (lv_at hl 3 rfl) ?_
  rcases obx h with ⟨v1, M2, h1, h⟩ | ⟨ex, M9, h1, h⟩
  rotate_left
  · exfalso
    cases h
  obtain ⟨hk1, h1⟩ := ifg h1
  refine kV1 (ci := 4) (As := [.int 20, .int a1, .int a2, .int a3]) (rest := []) hC hE hS hM (mq_X4_changeCounter _ E this 20 a1 a2 a3 _ _ _ h1) (gwV qw_615 qw_617 qw_24 qw_39 qw_618) ⟨rfl, rfl, (Nat.le_of_ble_eq_true rfl), (Nat.le_of_ble_eq_true rfl)⟩ dd_X4_changeCounter rfl hk1 rfl rfl hl.1 (Nat.le_of_ble_eq_true rfl) dX4_decrement_6 ⟨(Nat.le_of_ble_eq_true rfl), (Nat.le_of_ble_eq_true rfl)⟩ (fun H locs hM hS => ?_)
  cases h
  exact eI hx hb hr hlocks hM hS dX4_decrement_9 (Nat.le_of_ble_eq_true rfl) (Nat.le_of_ble_eq_true rfl)

abbrev rmq_X4_addTag : Room := ({ frames := 5, cells := 24, slots := 1353, locals := 124 } : Room)
set_option maxHeartbeats 4000000 in
set_option maxRecDepth 100000 in
theorem mq_X4_addTag (l : Launch) (E : KEnv) (this : Nat) (a1 : Int32) (a2 : Int32) (M M' : Mem) (v : Int32) (h : f_X4_addTag this a1 a2 M = some (.inl v, M')) : Met l yX4_addTag (Cond.code yX4_addTag cX4_addTag 4 (some .int) :: lw_G) rmq_X4_addTag (cPc E [.ref this, .int a1, .int a2] M) (cQ E (some (.int v)) M') 24 1353 (eA E) := by
  refine Met.ofW (cc := cX4_addTag) (maxL := 4) (ret := (some .int)) (by decide) rfl ?_
  intro p e s m args below meth c s₁ B hml hv
  obtain ⟨rfl, hE, hM⟩ := hv
  have hx := B.exec
  have hb := B.bytes
  have hr := B.returns
  have hts0 := atoms_spec (ws := Cond.code yX4_addTag cX4_addTag 4 (some .int) :: lw_G) B.pre
  have hts : ∀ w ∈ lw_G, w.before _ s = true := fun w hw => hts0 w (List.mem_cons_of_mem _ hw)
  have hown : s.vm.findClass RX4 = some m.cls := findClass_of_methodNamed B.named
  have hlocks := B.notSynchronized
  have hC : CallFix p m c cX4_addTag 4 s _ lw_G RX4 := ⟨hx, hb, hml, hown, hts⟩
  have hS : va_S (eA E) s.heap s.heap [] := va_S.rf
  have hl := lv_entry ([.ref this, .int a1, .int a2]) (n := 4) (Nat.le_of_ble_eq_true rfl)
  rw [lg_entry_eq]
  generalize (lg_sl ([.ref this, .int a1, .int a2]) ++ List.replicate (4 - (lg_sl ([.ref this, .int a1, .int a2])).length) Slot.unset).toArray = ls at hl ⊢
  have hl : lv_has ls 4 [(0, .ref this), (1, .int a1), (2, .int a2)] := hl
  unfold f_X4_addTag at h
  show W p l e rmq_X4_addTag s m _ below meth c s.heap [] 0 0 _ _
  refine lv_aload_n hx hb dX4_addTag_0 rfl (lv_at hl 0 rfl) ?_
  refine lv_iload_n hx hb dX4_addTag_1 rfl (lv_at hl 1 rfl) ?_
  rcases obx h with ⟨v1, M2, h1, h⟩ | ⟨ex, M9, h1, h⟩
  rotate_left
  · exfalso
    cases h
  obtain ⟨hk1, h1⟩ := ifg h1
  refine kV1 (ci := 4) (As := [.int a1]) (rest := []) hC hE hS hM (mq_X4_stateOf _ E this a1 _ _ _ h1) (gwV qw_619 qw_621 qw_25 qw_39 qw_622) ⟨rfl, rfl, (Nat.le_of_ble_eq_true rfl), (Nat.le_of_ble_eq_true rfl)⟩ dd_X4_stateOf rfl hk1 rfl rfl hl.1 (Nat.le_of_ble_eq_true rfl) dX4_addTag_2 ⟨(Nat.le_of_ble_eq_true rfl), (Nat.le_of_ble_eq_true rfl)⟩ (fun H locs hM hS => ?_)
  refine lv_astore_n (lv' := [(3, .ref v1), (0, .ref this), (1, .int a1), (2, .int a2)]) hx hb dX4_addTag_5 rfl hl (by decide) rfl (fun ls hl => ?_)
  refine lv_aload_n hx hb dX4_addTag_6 rfl (lv_at hl 1 rfl) ?_
  refine lv_iload_n hx hb dX4_addTag_7 rfl (lv_at hl 3 rfl) ?_
  rcases obx h with ⟨v3, M4, h1, h⟩ | ⟨ex, M9, h1, h⟩
  rotate_left
  · exfalso
    cases h
  obtain ⟨hk1, h1⟩ := ifg h1
  refine kV0 (ci := 4) (As := [.int a2]) (rest := []) hC hE hS hM (mq_X4_requireTag _ E this a2 _ _ h1) (gwV qw_652 qw_654 qw_28 qw_39 qw_655) ⟨rfl, rfl, (Nat.le_of_ble_eq_true rfl), (Nat.le_of_ble_eq_true rfl)⟩ dd_X4_requireTag rfl hk1 rfl rfl hl.1 (Nat.le_of_ble_eq_true rfl) dX4_addTag_8 ⟨(Nat.le_of_ble_eq_true rfl), (Nat.le_of_ble_eq_true rfl)⟩ (fun H locs hM hS => ?_)
  refine lv_aload_n hx hb dX4_addTag_11 rfl (lv_at hl 1 rfl) ?_
  obtain ⟨v5, h1, h⟩ := ob h
  refine rgn_4_8 hx hb hts hown hE hM qw_406 h1 dX4_addTag_12 ?_
  refine lv_aload_n hx hb dX4_addTag_15 rfl (lv_at hl 1 rfl) ?_
  obtain ⟨v6, h1, h⟩ := ob h
  refine rgn_4_6 hx hb hts hown hE hM qw_404 h1 dX4_addTag_16 ?_
  obtain ⟨M8, h1, h⟩ := ob h
  obtain ⟨hk1, h1⟩ := ifg h1
  refine kV0 (ci := 0) (As := [.ref v6]) (rest := []) hC hE hS hM (mt_X0_record _ E v5 v6 _ _ h1) (gwV qw_526 qw_527 qw_528 qw_42 qw_529) ⟨rfl, rfl, (Nat.le_of_ble_eq_true rfl), (Nat.le_of_ble_eq_true rfl)⟩ dd_X0_record rfl hk1 rfl rfl hl.1 (Nat.le_of_ble_eq_true rfl) dX4_addTag_19 ⟨(Nat.le_of_ble_eq_true rfl), (Nat.le_of_ble_eq_true rfl)⟩ (fun H locs hM hS => ?_)
  refine lv_aload_n hx hb dX4_addTag_22 rfl (lv_at hl 0 rfl) ?_
  refine lv_iload_n hx hb dX4_addTag_23 rfl (lv_at hl 2 rfl) ?_
  refine lv_iload_n hx hb dX4_addTag_24 rfl (lv_at hl 3 rfl) ?_
  obtain ⟨M10, h1, h⟩ := ob h
  obtain ⟨hk1, h1⟩ := ifg h1
  refine kV0 (ci := 2) (As := [.int a1, .int a2]) (rest := []) hC hE hS hM (mt_X2_putTag _ E v1 a1 a2 _ _ h1) (gwV qw_657 qw_324 qw_325 qw_41 qw_326) ⟨rfl, rfl, (Nat.le_of_ble_eq_true rfl), (Nat.le_of_ble_eq_true rfl)⟩ dd_X2_putTag rfl hk1 rfl rfl hl.1 (Nat.le_of_ble_eq_true rfl) dX4_addTag_25 ⟨(Nat.le_of_ble_eq_true rfl), (Nat.le_of_ble_eq_true rfl)⟩ (fun H locs hM hS => ?_)
  refine lv_aload_n hx hb dX4_addTag_28 rfl (lv_at hl 0 rfl) ?_
  refine lv_iload_n hx hb dX4_addTag_29 rfl (lv_at hl 2 rfl) ?_
  obtain ⟨v11, M12, h1, h⟩ := ob2 h
  obtain ⟨hk1, h1⟩ := ifg h1
  refine kV1 (ci := 2) (As := [.int a1]) (rest := []) hC hE hS hM (mt_X2_version _ E v1 a1 _ _ _ h1) (gwV qw_658 qw_659 qw_660 qw_41 qw_661) ⟨rfl, rfl, (Nat.le_of_ble_eq_true rfl), (Nat.le_of_ble_eq_true rfl)⟩ dd_X2_version rfl hk1 rfl rfl hl.1 (Nat.le_of_ble_eq_true rfl) dX4_addTag_30 ⟨(Nat.le_of_ble_eq_true rfl), (Nat.le_of_ble_eq_true rfl)⟩ (fun H locs hM hS => ?_)
  cases h
  exact eI hx hb hr hlocks hM hS dX4_addTag_33 (Nat.le_of_ble_eq_true rfl) (Nat.le_of_ble_eq_true rfl)

abbrev rmq_X4_removeTag : Room := ({ frames := 5, cells := 24, slots := 1353, locals := 124 } : Room)
set_option maxHeartbeats 4000000 in
set_option maxRecDepth 100000 in
theorem mq_X4_removeTag (l : Launch) (E : KEnv) (this : Nat) (a1 : Int32) (a2 : Int32) (M M' : Mem) (v : Int32) (h : f_X4_removeTag this a1 a2 M = some (.inl v, M')) : Met l yX4_removeTag (Cond.code yX4_removeTag cX4_removeTag 5 (some .int) :: lw_G) rmq_X4_removeTag (cPc E [.ref this, .int a1, .int a2] M) (cQ E (some (.int v)) M') 24 1353 (eA E) := by
  refine Met.ofW (cc := cX4_removeTag) (maxL := 5) (ret := (some .int)) (by decide) rfl ?_
  intro p e s m args below meth c s₁ B hml hv
  obtain ⟨rfl, hE, hM⟩ := hv
  have hx := B.exec
  have hb := B.bytes
  have hr := B.returns
  have hts0 := atoms_spec (ws := Cond.code yX4_removeTag cX4_removeTag 5 (some .int) :: lw_G) B.pre
  have hts : ∀ w ∈ lw_G, w.before _ s = true := fun w hw => hts0 w (List.mem_cons_of_mem _ hw)
  have hown : s.vm.findClass RX4 = some m.cls := findClass_of_methodNamed B.named
  have hlocks := B.notSynchronized
  have hC : CallFix p m c cX4_removeTag 5 s _ lw_G RX4 := ⟨hx, hb, hml, hown, hts⟩
  have hS : va_S (eA E) s.heap s.heap [] := va_S.rf
  have hl := lv_entry ([.ref this, .int a1, .int a2]) (n := 5) (Nat.le_of_ble_eq_true rfl)
  rw [lg_entry_eq]
  generalize (lg_sl ([.ref this, .int a1, .int a2]) ++ List.replicate (5 - (lg_sl ([.ref this, .int a1, .int a2])).length) Slot.unset).toArray = ls at hl ⊢
  have hl : lv_has ls 5 [(0, .ref this), (1, .int a1), (2, .int a2)] := hl
  unfold f_X4_removeTag at h
  show W p l e rmq_X4_removeTag s m _ below meth c s.heap [] 0 0 _ _
  refine lv_aload_n hx hb dX4_removeTag_0 rfl (lv_at hl 0 rfl) ?_
  refine lv_iload_n hx hb dX4_removeTag_1 rfl (lv_at hl 1 rfl) ?_
  rcases obx h with ⟨v1, M2, h1, h⟩ | ⟨ex, M9, h1, h⟩
  rotate_left
  · exfalso
    cases h
  obtain ⟨hk1, h1⟩ := ifg h1
  refine kV1 (ci := 4) (As := [.int a1]) (rest := []) hC hE hS hM (mq_X4_stateOf _ E this a1 _ _ _ h1) (gwV qw_619 qw_621 qw_25 qw_39 qw_622) ⟨rfl, rfl, (Nat.le_of_ble_eq_true rfl), (Nat.le_of_ble_eq_true rfl)⟩ dd_X4_stateOf rfl hk1 rfl rfl hl.1 (Nat.le_of_ble_eq_true rfl) dX4_removeTag_2 ⟨(Nat.le_of_ble_eq_true rfl), (Nat.le_of_ble_eq_true rfl)⟩ (fun H locs hM hS => ?_)
  refine lv_astore_n (lv' := [(3, .ref v1), (0, .ref this), (1, .int a1), (2, .int a2)]) hx hb dX4_removeTag_5 rfl hl (by decide) rfl (fun ls hl => ?_)
  refine lv_aload_n hx hb dX4_removeTag_6 rfl (lv_at hl 1 rfl) ?_
  refine lv_iload_n hx hb dX4_removeTag_7 rfl (lv_at hl 3 rfl) ?_
  rcases obx h with ⟨v3, M4, h1, h⟩ | ⟨ex, M9, h1, h⟩
  rotate_left
  · exfalso
    cases h
  obtain ⟨hk1, h1⟩ := ifg h1
  refine kV0 (ci := 4) (As := [.int a2]) (rest := []) hC hE hS hM (mq_X4_requireTag _ E this a2 _ _ h1) (gwV qw_652 qw_654 qw_28 qw_39 qw_655) ⟨rfl, rfl, (Nat.le_of_ble_eq_true rfl), (Nat.le_of_ble_eq_true rfl)⟩ dd_X4_requireTag rfl hk1 rfl rfl hl.1 (Nat.le_of_ble_eq_true rfl) dX4_removeTag_8 ⟨(Nat.le_of_ble_eq_true rfl), (Nat.le_of_ble_eq_true rfl)⟩ (fun H locs hM hS => ?_)
  refine lv_aload_n hx hb dX4_removeTag_11 rfl (lv_at hl 0 rfl) ?_
  refine lv_iload_n hx hb dX4_removeTag_12 rfl (lv_at hl 3 rfl) ?_
  obtain ⟨v5, M6, h1, h⟩ := ob2 h
  obtain ⟨hk1, h1⟩ := ifg h1
  refine kV1 (ci := 2) (As := [.int a2]) (rest := []) hC hE hS hM (mt_X2_dotsOfTag _ E v1 a2 _ _ _ h1) (gwV qw_669 qw_341 qw_342 qw_41 qw_343) ⟨rfl, rfl, (Nat.le_of_ble_eq_true rfl), (Nat.le_of_ble_eq_true rfl)⟩ dd_X2_dotsOfTag rfl hk1 rfl rfl hl.1 (Nat.le_of_ble_eq_true rfl) dX4_removeTag_13 ⟨(Nat.le_of_ble_eq_true rfl), (Nat.le_of_ble_eq_true rfl)⟩ (fun H locs hM hS => ?_)
  refine lv_istore (lv' := [(4, .int v5), (3, .ref v1), (0, .ref this), (1, .int a1), (2, .int a2)]) hx hb dX4_removeTag_16 hl (by decide) rfl (fun ls hl => ?_)
  refine lv_iload hx hb dX4_removeTag_18 (lv_at hl 0 rfl) ?_
  refine lv_if_ne (tgt := 33) hx hb dX4_removeTag_20 (by decide) (fun c1 => ?_) (fun c1 => ?_)
  · have h := ifn c1 h
    refine lv_aload_n hx hb dX4_removeTag_33 rfl (lv_at hl 2 rfl) ?_
    obtain ⟨v7, h1, h⟩ := ob h
    refine rgn_4_8 hx hb hts hown hE hM qw_406 h1 dX4_removeTag_34 ?_
    refine lv_aload_n hx hb dX4_removeTag_37 rfl (lv_at hl 2 rfl) ?_
    obtain ⟨v8, h1, h⟩ := ob h
    refine rgn_4_6 hx hb hts hown hE hM qw_404 h1 dX4_removeTag_38 ?_
    obtain ⟨M10, h1, h⟩ := ob h
    obtain ⟨hk1, h1⟩ := ifg h1
    refine kV0 (ci := 0) (As := [.ref v8]) (rest := []) hC hE hS hM (mt_X0_record _ E v7 v8 _ _ h1) (gwV qw_526 qw_527 qw_528 qw_42 qw_529) ⟨rfl, rfl, (Nat.le_of_ble_eq_true rfl), (Nat.le_of_ble_eq_true rfl)⟩ dd_X0_record rfl hk1 rfl rfl hl.1 (Nat.le_of_ble_eq_true rfl) dX4_removeTag_41 ⟨(Nat.le_of_ble_eq_true rfl), (Nat.le_of_ble_eq_true rfl)⟩ (fun H locs hM hS => ?_)
    refine lv_aload_n hx hb dX4_removeTag_44 rfl (lv_at hl 1 rfl) ?_
    refine lv_iload_n hx hb dX4_removeTag_45 rfl (lv_at hl 4 rfl) ?_
    obtain ⟨M12, h1, h⟩ := ob h
    obtain ⟨hk1, h1⟩ := ifg h1
    refine kV0 (ci := 2) (As := [.int a2]) (rest := []) hC hE hS hM (mt_X2_clearTag _ E v1 a2 _ _ h1) (gwV qw_671 qw_349 qw_350 qw_41 qw_351) ⟨rfl, rfl, (Nat.le_of_ble_eq_true rfl), (Nat.le_of_ble_eq_true rfl)⟩ dd_X2_clearTag rfl hk1 rfl rfl hl.1 (Nat.le_of_ble_eq_true rfl) dX4_removeTag_46 ⟨(Nat.le_of_ble_eq_true rfl), (Nat.le_of_ble_eq_true rfl)⟩ (fun H locs hM hS => ?_)
    refine lv_iload hx hb dX4_removeTag_49 (lv_at hl 0 rfl) ?_
    cases h
    exact eI hx hb hr hlocks hM hS dX4_removeTag_51 (Nat.le_of_ble_eq_true rfl) (Nat.le_of_ble_eq_true rfl)
  · have h := ifp c1 h
    cases h

abbrev rmq_X4_write : Room := ({ frames := 5, cells := 24, slots := 1353, locals := 124 } : Room)
set_option maxHeartbeats 4000000 in
set_option maxRecDepth 100000 in
theorem tq_X4_write_22 {p : Program} {l : Launch} {e : Env} {s : State} {m : MethodId} {args : Array Value} {below : List Frame} {meth : Method} {c : Code} {E : KEnv} {H : Heap} {locs : List Loc} {ls : Array Slot}  {M : Mem} {v : Int32} {M' : Mem} (hC : CallFix p m c cX4_write 6 s args lw_G RX4) (hr : meth.sig.returnType = (some .int)) (hlocks : meth.locks = false) (hE : EnvOK E s) (h : fj_X4_write_22  M = some (.inl v, M')) (hM : MOK E M H) (hS : va_S (eA E) s.heap H locs) (hl : lv_has ls 6 []) : W p l e rmq_X4_write s m args below meth c H locs 0 0 (MQ below (cQ E (some (.int v)) M') args s 24 1353 (eA E)) (F0 m 22 ls []) := by
  obtain ⟨hx, hb, hml, hown, hts⟩ := id hC
  unfold fj_X4_write_22 at h
  cases h
set_option maxHeartbeats 4000000 in
set_option maxRecDepth 100000 in
theorem mq_X4_write (l : Launch) (E : KEnv) (this : Nat) (a1 : Int32) (a2 : Int32) (a3 : Int32) (M M' : Mem) (v : Int32) (h : f_X4_write this a1 a2 a3 M = some (.inl v, M')) : Met l yX4_write (Cond.code yX4_write cX4_write 6 (some .int) :: lw_G) rmq_X4_write (cPc E [.ref this, .int a1, .int a2, .int a3] M) (cQ E (some (.int v)) M') 24 1353 (eA E) := by
  refine Met.ofW (cc := cX4_write) (maxL := 6) (ret := (some .int)) (by decide) rfl ?_
  intro p e s m args below meth c s₁ B hml hv
  obtain ⟨rfl, hE, hM⟩ := hv
  have hx := B.exec
  have hb := B.bytes
  have hr := B.returns
  have hts0 := atoms_spec (ws := Cond.code yX4_write cX4_write 6 (some .int) :: lw_G) B.pre
  have hts : ∀ w ∈ lw_G, w.before _ s = true := fun w hw => hts0 w (List.mem_cons_of_mem _ hw)
  have hown : s.vm.findClass RX4 = some m.cls := findClass_of_methodNamed B.named
  have hlocks := B.notSynchronized
  have hC : CallFix p m c cX4_write 6 s _ lw_G RX4 := ⟨hx, hb, hml, hown, hts⟩
  have hS : va_S (eA E) s.heap s.heap [] := va_S.rf
  have hl := lv_entry ([.ref this, .int a1, .int a2, .int a3]) (n := 6) (Nat.le_of_ble_eq_true rfl)
  rw [lg_entry_eq]
  generalize (lg_sl ([.ref this, .int a1, .int a2, .int a3]) ++ List.replicate (6 - (lg_sl ([.ref this, .int a1, .int a2, .int a3])).length) Slot.unset).toArray = ls at hl ⊢
  have hl : lv_has ls 6 [(0, .ref this), (1, .int a1), (2, .int a2), (3, .int a3)] := hl
  unfold f_X4_write at h
  show W p l e rmq_X4_write s m _ below meth c s.heap [] 0 0 _ _
  refine lv_aload_n hx hb dX4_write_0 rfl (lv_at hl 0 rfl) ?_
  refine lv_iload_n hx hb dX4_write_1 rfl (lv_at hl 1 rfl) ?_
  rcases obx h with ⟨v1, M2, h1, h⟩ | ⟨ex, M9, h1, h⟩
  rotate_left
  · exfalso
    cases h
  obtain ⟨hk1, h1⟩ := ifg h1
  refine kV1 (ci := 4) (As := [.int a1]) (rest := []) hC hE hS hM (mq_X4_stateOf _ E this a1 _ _ _ h1) (gwV qw_619 qw_621 qw_25 qw_39 qw_622) ⟨rfl, rfl, (Nat.le_of_ble_eq_true rfl), (Nat.le_of_ble_eq_true rfl)⟩ dd_X4_stateOf rfl hk1 rfl rfl hl.1 (Nat.le_of_ble_eq_true rfl) dX4_write_2 ⟨(Nat.le_of_ble_eq_true rfl), (Nat.le_of_ble_eq_true rfl)⟩ (fun H locs hM hS => ?_)
  refine lv_astore (lv' := [(4, .ref v1), (0, .ref this), (1, .int a1), (2, .int a2), (3, .int a3)]) hx hb dX4_write_5 hl (by decide) rfl (fun ls hl => ?_)
  refine lv_aload_n hx hb dX4_write_7 rfl (lv_at hl 1 rfl) ?_
  refine lv_iload_n hx hb dX4_write_8 rfl (lv_at hl 3 rfl) ?_
  rcases obx h with ⟨v3, M4, h1, h⟩ | ⟨ex, M9, h1, h⟩
  rotate_left
  · exfalso
    cases h
  obtain ⟨hk1, h1⟩ := ifg h1
  refine kV0 (ci := 4) (As := [.int a2]) (rest := []) hC hE hS hM (mq_X4_requireRegister _ E this a2 _ _ h1) (gwV qw_679 qw_681 qw_29 qw_39 qw_682) ⟨rfl, rfl, (Nat.le_of_ble_eq_true rfl), (Nat.le_of_ble_eq_true rfl)⟩ dd_X4_requireRegister rfl hk1 rfl rfl hl.1 (Nat.le_of_ble_eq_true rfl) dX4_write_9 ⟨(Nat.le_of_ble_eq_true rfl), (Nat.le_of_ble_eq_true rfl)⟩ (fun H locs hM hS => ?_)
  refine lv_iload_n hx hb dX4_write_12 rfl (lv_at hl 4 rfl) ?_
  refine lv_if_lt (tgt := 22) hx hb dX4_write_13 (by decide) (fun c1 => ?_) (fun c1 => ?_)
  · have h := ifp c1 h
    refine W.widen (k := 0) (n := 0) (Nat.le_of_ble_eq_true rfl) (Nat.le_of_ble_eq_true rfl) ?_
    exact tq_X4_write_22  hC hr hlocks hE  h hM hS (lv_sub hl [] rfl)
  · have h := ifn c1 h
    refine lv_iload_n hx hb dX4_write_16 rfl (lv_at hl 4 rfl) ?_
    refine lv_bipush (v := 99) hx hb dX4_write_17 (by decide) ?_
    refine lv_icmp_le (tgt := 32) hx hb dX4_write_19 (by decide) (fun c1 => ?_) (fun c1 => ?_)
    · have h := ifp c1 h
      refine lv_aload_n hx hb dX4_write_32 rfl (lv_at hl 1 rfl) ?_
      obtain ⟨v5, h1, h⟩ := ob h
      refine rgn_4_8 hx hb hts hown hE hM qw_406 h1 dX4_write_33 ?_
      refine lv_aload_n hx hb dX4_write_36 rfl (lv_at hl 1 rfl) ?_
      obtain ⟨v6, h1, h⟩ := ob h
      refine rgn_4_6 hx hb hts hown hE hM qw_404 h1 dX4_write_37 ?_
      obtain ⟨M8, h1, h⟩ := ob h
      obtain ⟨hk1, h1⟩ := ifg h1
      refine kV0 (ci := 0) (As := [.ref v6]) (rest := []) hC hE hS hM (mt_X0_record _ E v5 v6 _ _ h1) (gwV qw_526 qw_527 qw_528 qw_42 qw_529) ⟨rfl, rfl, (Nat.le_of_ble_eq_true rfl), (Nat.le_of_ble_eq_true rfl)⟩ dd_X0_record rfl hk1 rfl rfl hl.1 (Nat.le_of_ble_eq_true rfl) dX4_write_40 ⟨(Nat.le_of_ble_eq_true rfl), (Nat.le_of_ble_eq_true rfl)⟩ (fun H locs hM hS => ?_)
      refine lv_aload hx hb dX4_write_43 (lv_at hl 0 rfl) ?_
      refine lv_iload_n hx hb dX4_write_45 rfl (lv_at hl 3 rfl) ?_
      obtain ⟨v9, M10, h1, h⟩ := ob2 h
      obtain ⟨hk1, h1⟩ := ifg h1
      refine kV1 (ci := 2) (As := [.int a2]) (rest := []) hC hE hS hM (mt_X2_entries _ E v1 a2 _ _ _ h1) (gwV qw_685 qw_686 qw_687 qw_41 qw_688) ⟨rfl, rfl, (Nat.le_of_ble_eq_true rfl), (Nat.le_of_ble_eq_true rfl)⟩ dd_X2_entries rfl hk1 rfl rfl hl.1 (Nat.le_of_ble_eq_true rfl) dX4_write_46 ⟨(Nat.le_of_ble_eq_true rfl), (Nat.le_of_ble_eq_true rfl)⟩ (fun H locs hM hS => ?_)
      refine lv_istore (lv' := [(5, .int v9), (4, .ref v1), (0, .ref this), (1, .int a1), (2, .int a2), (3, .int a3)]) hx hb dX4_write_49 hl (by decide) rfl (fun ls hl => ?_)
      refine lv_aload hx hb dX4_write_51 (lv_at hl 1 rfl) ?_
      refine lv_iload_n hx hb dX4_write_53 rfl (lv_at hl 3 rfl) ?_
      refine lv_iload_n hx hb dX4_write_54 rfl (lv_at hl 4 rfl) ?_
      refine lv_iload_n hx hb dX4_write_55 rfl (lv_at hl 5 rfl) ?_
      obtain ⟨M12, h1, h⟩ := ob h
      obtain ⟨hk1, h1⟩ := ifg h1
      refine kV0 (ci := 2) (As := [.int a1, .int a2, .int a3]) (rest := []) hC hE hS hM (mt_X2_putEntry _ E v1 a1 a2 a3 _ _ h1) (gwV qw_689 qw_358 qw_359 qw_41 qw_360) ⟨rfl, rfl, (Nat.le_of_ble_eq_true rfl), (Nat.le_of_ble_eq_true rfl)⟩ dd_X2_putEntry rfl hk1 rfl rfl hl.1 (Nat.le_of_ble_eq_true rfl) dX4_write_56 ⟨(Nat.le_of_ble_eq_true rfl), (Nat.le_of_ble_eq_true rfl)⟩ (fun H locs hM hS => ?_)
      refine lv_iload hx hb dX4_write_59 (lv_at hl 0 rfl) ?_
      cases h
      exact eI hx hb hr hlocks hM hS dX4_write_61 (Nat.le_of_ble_eq_true rfl) (Nat.le_of_ble_eq_true rfl)
    · have h := ifn c1 h
      refine W.widen (k := 0) (n := 0) (Nat.le_of_ble_eq_true rfl) (Nat.le_of_ble_eq_true rfl) ?_
      exact tq_X4_write_22  hC hr hlocks hE  h hM hS (lv_sub hl [] rfl)

abbrev rmq_X4_merge : Room := ({ frames := 6, cells := 24, slots := 1353, locals := 146 } : Room)
set_option maxHeartbeats 4000000 in
set_option maxRecDepth 100000 in
theorem mq_X4_merge (l : Launch) (E : KEnv) (this : Nat) (a1 : Int32) (a2 : Int32) (M M' : Mem) (v : Int32) (h : f_X4_merge this a1 a2 M = some (.inl v, M')) : Met l yX4_merge (Cond.code yX4_merge cX4_merge 3 (some .boolean) :: lw_G) rmq_X4_merge (cPc E [.ref this, .int a1, .int a2] M) (cQ E (some (.int v)) M') 24 1353 (eA E) := by
  refine Met.ofW (cc := cX4_merge) (maxL := 3) (ret := (some .boolean)) (by decide) rfl ?_
  intro p e s m args below meth c s₁ B hml hv
  obtain ⟨rfl, hE, hM⟩ := hv
  have hx := B.exec
  have hb := B.bytes
  have hr := B.returns
  have hts0 := atoms_spec (ws := Cond.code yX4_merge cX4_merge 3 (some .boolean) :: lw_G) B.pre
  have hts : ∀ w ∈ lw_G, w.before _ s = true := fun w hw => hts0 w (List.mem_cons_of_mem _ hw)
  have hown : s.vm.findClass RX4 = some m.cls := findClass_of_methodNamed B.named
  have hlocks := B.notSynchronized
  have hC : CallFix p m c cX4_merge 3 s _ lw_G RX4 := ⟨hx, hb, hml, hown, hts⟩
  have hS : va_S (eA E) s.heap s.heap [] := va_S.rf
  have hl := lv_entry ([.ref this, .int a1, .int a2]) (n := 3) (Nat.le_of_ble_eq_true rfl)
  rw [lg_entry_eq]
  generalize (lg_sl ([.ref this, .int a1, .int a2]) ++ List.replicate (3 - (lg_sl ([.ref this, .int a1, .int a2])).length) Slot.unset).toArray = ls at hl ⊢
  have hl : lv_has ls 3 [(0, .ref this), (1, .int a1), (2, .int a2)] := hl
  unfold f_X4_merge at h
  show W p l e rmq_X4_merge s m _ below meth c s.heap [] 0 0 _ _
  refine lv_aload_n hx hb dX4_merge_0 rfl (lv_at hl 0 rfl) ?_
  refine lv_aload_n hx hb dX4_merge_1 rfl (lv_at hl 0 rfl) ?_
  refine lv_iload_n hx hb dX4_merge_2 rfl (lv_at hl 1 rfl) ?_
  rcases obx h with ⟨v1, M2, h1, h⟩ | ⟨ex, M9, h1, h⟩
  rotate_left
  · exfalso
    cases h
  obtain ⟨hk1, h1⟩ := ifg h1
  refine kV1 (ci := 4) (As := [.int a1]) (rest := [.ref this]) hC hE hS hM (mq_X4_stateOf _ E this a1 _ _ _ h1) (gwV qw_619 qw_621 qw_25 qw_39 qw_622) ⟨rfl, rfl, (Nat.le_of_ble_eq_true rfl), (Nat.le_of_ble_eq_true rfl)⟩ dd_X4_stateOf rfl hk1 rfl rfl hl.1 (Nat.le_of_ble_eq_true rfl) dX4_merge_3 ⟨(Nat.le_of_ble_eq_true rfl), (Nat.le_of_ble_eq_true rfl)⟩ (fun H locs hM hS => ?_)
  refine lv_aload_n hx hb dX4_merge_6 rfl (lv_at hl 0 rfl) ?_
  refine lv_iload_n hx hb dX4_merge_7 rfl (lv_at hl 2 rfl) ?_
  rcases obx h with ⟨v3, M4, h1, h⟩ | ⟨ex, M9, h1, h⟩
  rotate_left
  · exfalso
    cases h
  obtain ⟨hk1, h1⟩ := ifg h1
  refine kV1 (ci := 4) (As := [.int a2]) (rest := [.ref v1, .ref this]) hC hE hS hM (mq_X4_stateOf _ E this a2 _ _ _ h1) (gwV qw_619 qw_621 qw_25 qw_39 qw_622) ⟨rfl, rfl, (Nat.le_of_ble_eq_true rfl), (Nat.le_of_ble_eq_true rfl)⟩ dd_X4_stateOf rfl hk1 rfl rfl hl.1 (Nat.le_of_ble_eq_true rfl) dX4_merge_8 ⟨(Nat.le_of_ble_eq_true rfl), (Nat.le_of_ble_eq_true rfl)⟩ (fun H locs hM hS => ?_)
  obtain ⟨v5, M6, h1, h⟩ := ob2 h
  obtain ⟨hk1, h1⟩ := ifg h1
  refine kV1 (ci := 4) (As := [.ref v1, .ref v3]) (rest := []) hC hE hS hM (mt_X4_mergeAndRecord _ E this v1 v3 _ _ _ h1) (gwV qw_697 qw_699 qw_30 qw_39 qw_700) ⟨rfl, rfl, (Nat.le_of_ble_eq_true rfl), (Nat.le_of_ble_eq_true rfl)⟩ dd_X4_mergeAndRecord rfl hk1 rfl rfl hl.1 (Nat.le_of_ble_eq_true rfl) dX4_merge_11 ⟨(Nat.le_of_ble_eq_true rfl), (Nat.le_of_ble_eq_true rfl)⟩ (fun H locs hM hS => ?_)
  obtain ⟨h01, h⟩ := ifg h
  cases h
  exact eZ hx hb hr hlocks hM hS dX4_merge_14 (Nat.le_of_ble_eq_true rfl) (Nat.le_of_ble_eq_true rfl) h01

abbrev rmq_X4_send : Room := ({ frames := 5, cells := 24, slots := 1353, locals := 124 } : Room)
set_option maxHeartbeats 4000000 in
set_option maxRecDepth 100000 in
theorem mq_X4_send (l : Launch) (E : KEnv) (this : Nat) (a1 : Int32) (M M' : Mem) (v : Int32) (h : f_X4_send this a1 M = some (.inl v, M')) : Met l yX4_send (Cond.code yX4_send cX4_send 2 (some .int) :: lw_G) rmq_X4_send (cPc E [.ref this, .int a1] M) (cQ E (some (.int v)) M') 24 1353 (eA E) := by
  refine Met.ofW (cc := cX4_send) (maxL := 2) (ret := (some .int)) (by decide) rfl ?_
  intro p e s m args below meth c s₁ B hml hv
  obtain ⟨rfl, hE, hM⟩ := hv
  have hx := B.exec
  have hb := B.bytes
  have hr := B.returns
  have hts0 := atoms_spec (ws := Cond.code yX4_send cX4_send 2 (some .int) :: lw_G) B.pre
  have hts : ∀ w ∈ lw_G, w.before _ s = true := fun w hw => hts0 w (List.mem_cons_of_mem _ hw)
  have hown : s.vm.findClass RX4 = some m.cls := findClass_of_methodNamed B.named
  have hlocks := B.notSynchronized
  have hC : CallFix p m c cX4_send 2 s _ lw_G RX4 := ⟨hx, hb, hml, hown, hts⟩
  have hS : va_S (eA E) s.heap s.heap [] := va_S.rf
  have hl := lv_entry ([.ref this, .int a1]) (n := 2) (Nat.le_of_ble_eq_true rfl)
  rw [lg_entry_eq]
  generalize (lg_sl ([.ref this, .int a1]) ++ List.replicate (2 - (lg_sl ([.ref this, .int a1])).length) Slot.unset).toArray = ls at hl ⊢
  have hl : lv_has ls 2 [(0, .ref this), (1, .int a1)] := hl
  unfold f_X4_send at h
  show W p l e rmq_X4_send s m _ below meth c s.heap [] 0 0 _ _
  refine lv_aload_n hx hb dX4_send_0 rfl (lv_at hl 0 rfl) ?_
  refine lv_iload_n hx hb dX4_send_1 rfl (lv_at hl 1 rfl) ?_
  rcases obx h with ⟨v1, M2, h1, h⟩ | ⟨ex, M9, h1, h⟩
  rotate_left
  · exfalso
    cases h
  obtain ⟨hk1, h1⟩ := ifg h1
  refine kV0 (ci := 4) (As := [.int a1]) (rest := []) hC hE hS hM (mq_X4_requireReplica _ E this a1 _ _ h1) (gwV qw_623 qw_625 qw_26 qw_39 qw_626) ⟨rfl, rfl, (Nat.le_of_ble_eq_true rfl), (Nat.le_of_ble_eq_true rfl)⟩ dd_X4_requireReplica rfl hk1 rfl rfl hl.1 (Nat.le_of_ble_eq_true rfl) dX4_send_2 ⟨(Nat.le_of_ble_eq_true rfl), (Nat.le_of_ble_eq_true rfl)⟩ (fun H locs hM hS => ?_)
  refine lv_aload_n hx hb dX4_send_5 rfl (lv_at hl 0 rfl) ?_
  obtain ⟨v3, h1, h⟩ := ob h
  refine rgn_4_6 hx hb hts hown hE hM qw_404 h1 dX4_send_6 ?_
  obtain ⟨v4, h1, h⟩ := ob h
  refine rg_3_3 hx hb hts hown hE hM qw_99 h1 dX4_send_9 ?_
  refine lv_bipush (v := 6) hx hb dX4_send_12 (by decide) ?_
  refine lv_icmp_lt (tgt := 28) hx hb dX4_send_14 (by decide) (fun c1 => ?_) (fun c1 => ?_)
  · have h := ifp c1 h
    refine lv_aload_n hx hb dX4_send_28 rfl (lv_at hl 0 rfl) ?_
    obtain ⟨v5, h1, h⟩ := ob h
    refine rgn_4_8 hx hb hts hown hE hM qw_406 h1 dX4_send_29 ?_
    refine lv_aload_n hx hb dX4_send_32 rfl (lv_at hl 0 rfl) ?_
    obtain ⟨v6, h1, h⟩ := ob h
    refine rgn_4_6 hx hb hts hown hE hM qw_404 h1 dX4_send_33 ?_
    obtain ⟨M8, h1, h⟩ := ob h
    obtain ⟨hk1, h1⟩ := ifg h1
    refine kV0 (ci := 0) (As := [.ref v6]) (rest := []) hC hE hS hM (mt_X0_record _ E v5 v6 _ _ h1) (gwV qw_526 qw_527 qw_528 qw_42 qw_529) ⟨rfl, rfl, (Nat.le_of_ble_eq_true rfl), (Nat.le_of_ble_eq_true rfl)⟩ dd_X0_record rfl hk1 rfl rfl hl.1 (Nat.le_of_ble_eq_true rfl) dX4_send_36 ⟨(Nat.le_of_ble_eq_true rfl), (Nat.le_of_ble_eq_true rfl)⟩ (fun H locs hM hS => ?_)
    refine lv_aload_n hx hb dX4_send_39 rfl (lv_at hl 0 rfl) ?_
    obtain ⟨v9, h1, h⟩ := ob h
    refine rgn_4_6 hx hb hts hown hE hM qw_404 h1 dX4_send_40 ?_
    refine lv_iload_n hx hb dX4_send_43 rfl (lv_at hl 1 rfl) ?_
    obtain ⟨M11, h1, h⟩ := ob h
    obtain ⟨hk1, h1⟩ := ifg h1
    refine kV0 (ci := 3) (As := [.int a1]) (rest := []) hC hE hS hM (mt_X3_addMessage _ E v9 a1 _ _ h1) (gwV qw_715 qw_383 qw_384 qw_40 qw_385) ⟨rfl, rfl, (Nat.le_of_ble_eq_true rfl), (Nat.le_of_ble_eq_true rfl)⟩ dd_X3_addMessage rfl hk1 rfl rfl hl.1 (Nat.le_of_ble_eq_true rfl) dX4_send_44 ⟨(Nat.le_of_ble_eq_true rfl), (Nat.le_of_ble_eq_true rfl)⟩ (fun H locs hM hS => ?_)
    refine lv_aload_n hx hb dX4_send_47 rfl (lv_at hl 0 rfl) ?_
    obtain ⟨v12, h1, h⟩ := ob h
    refine rgn_4_6 hx hb hts hown hE hM qw_404 h1 dX4_send_48 ?_
    obtain ⟨v13, h1, h⟩ := ob h
    refine rg_3_3 hx hb hts hown hE hM qw_99 h1 dX4_send_51 ?_
    refine lv_iconst (v := 1) hx hb dX4_send_54 (by decide) ?_
    refine lv_isub hx hb dX4_send_55 ?_
    cases h
    exact eI hx hb hr hlocks hM hS dX4_send_56 (Nat.le_of_ble_eq_true rfl) (Nat.le_of_ble_eq_true rfl)
  · have h := ifn c1 h
    cases h

abbrev rmq_X4_deliver : Room := ({ frames := 6, cells := 24, slots := 1353, locals := 146 } : Room)
set_option maxHeartbeats 4000000 in
set_option maxRecDepth 100000 in
theorem mq_X4_deliver (l : Launch) (E : KEnv) (this : Nat) (a1 : Int32) (a2 : Int32) (M M' : Mem) (v : Int32) (h : f_X4_deliver this a1 a2 M = some (.inl v, M')) : Met l yX4_deliver (Cond.code yX4_deliver cX4_deliver 3 (some .boolean) :: lw_G) rmq_X4_deliver (cPc E [.ref this, .int a1, .int a2] M) (cQ E (some (.int v)) M') 24 1353 (eA E) := by
  refine Met.ofW (cc := cX4_deliver) (maxL := 3) (ret := (some .boolean)) (by decide) rfl ?_
  intro p e s m args below meth c s₁ B hml hv
  obtain ⟨rfl, hE, hM⟩ := hv
  have hx := B.exec
  have hb := B.bytes
  have hr := B.returns
  have hts0 := atoms_spec (ws := Cond.code yX4_deliver cX4_deliver 3 (some .boolean) :: lw_G) B.pre
  have hts : ∀ w ∈ lw_G, w.before _ s = true := fun w hw => hts0 w (List.mem_cons_of_mem _ hw)
  have hown : s.vm.findClass RX4 = some m.cls := findClass_of_methodNamed B.named
  have hlocks := B.notSynchronized
  have hC : CallFix p m c cX4_deliver 3 s _ lw_G RX4 := ⟨hx, hb, hml, hown, hts⟩
  have hS : va_S (eA E) s.heap s.heap [] := va_S.rf
  have hl := lv_entry ([.ref this, .int a1, .int a2]) (n := 3) (Nat.le_of_ble_eq_true rfl)
  rw [lg_entry_eq]
  generalize (lg_sl ([.ref this, .int a1, .int a2]) ++ List.replicate (3 - (lg_sl ([.ref this, .int a1, .int a2])).length) Slot.unset).toArray = ls at hl ⊢
  have hl : lv_has ls 3 [(0, .ref this), (1, .int a1), (2, .int a2)] := hl
  unfold f_X4_deliver at h
  show W p l e rmq_X4_deliver s m _ below meth c s.heap [] 0 0 _ _
  refine lv_aload_n hx hb dX4_deliver_0 rfl (lv_at hl 0 rfl) ?_
  refine lv_iload_n hx hb dX4_deliver_1 rfl (lv_at hl 1 rfl) ?_
  rcases obx h with ⟨v1, M2, h1, h⟩ | ⟨ex, M9, h1, h⟩
  rotate_left
  · exfalso
    cases h
  obtain ⟨hk1, h1⟩ := ifg h1
  refine kV0 (ci := 4) (As := [.int a1]) (rest := []) hC hE hS hM (mq_X4_requireMessage _ E this a1 _ _ h1) (gwV qw_723 qw_725 qw_31 qw_39 qw_726) ⟨rfl, rfl, (Nat.le_of_ble_eq_true rfl), (Nat.le_of_ble_eq_true rfl)⟩ dd_X4_requireMessage rfl hk1 rfl rfl hl.1 (Nat.le_of_ble_eq_true rfl) dX4_deliver_2 ⟨(Nat.le_of_ble_eq_true rfl), (Nat.le_of_ble_eq_true rfl)⟩ (fun H locs hM hS => ?_)
  refine lv_aload_n hx hb dX4_deliver_5 rfl (lv_at hl 0 rfl) ?_
  refine lv_aload_n hx hb dX4_deliver_6 rfl (lv_at hl 0 rfl) ?_
  refine lv_iload_n hx hb dX4_deliver_7 rfl (lv_at hl 2 rfl) ?_
  rcases obx h with ⟨v3, M4, h1, h⟩ | ⟨ex, M9, h1, h⟩
  rotate_left
  · exfalso
    cases h
  obtain ⟨hk1, h1⟩ := ifg h1
  refine kV1 (ci := 4) (As := [.int a2]) (rest := [.ref this]) hC hE hS hM (mq_X4_stateOf _ E this a2 _ _ _ h1) (gwV qw_619 qw_621 qw_25 qw_39 qw_622) ⟨rfl, rfl, (Nat.le_of_ble_eq_true rfl), (Nat.le_of_ble_eq_true rfl)⟩ dd_X4_stateOf rfl hk1 rfl rfl hl.1 (Nat.le_of_ble_eq_true rfl) dX4_deliver_8 ⟨(Nat.le_of_ble_eq_true rfl), (Nat.le_of_ble_eq_true rfl)⟩ (fun H locs hM hS => ?_)
  refine lv_aload_n hx hb dX4_deliver_11 rfl (lv_at hl 0 rfl) ?_
  obtain ⟨v5, h1, h⟩ := ob h
  refine rgn_4_6 hx hb hts hown hE hM qw_404 h1 dX4_deliver_12 ?_
  obtain ⟨v6, h1, h⟩ := ob h
  refine rgn_3_5 hx hb hts hown hE hM qw_105 h1 dX4_deliver_15 ?_
  refine lv_iload_n hx hb dX4_deliver_18 rfl (lv_at hl 1 rfl) ?_
  obtain ⟨v7, h1, h⟩ := ob h
  refine r_aldnS hx hb hE hM h1 dX4_deliver_19 ?_
  obtain ⟨v8, M9, h1, h⟩ := ob2 h
  obtain ⟨hk1, h1⟩ := ifg h1
  refine kV1 (ci := 4) (As := [.ref v3, .ref v7]) (rest := []) hC hE hS hM (mt_X4_mergeAndRecord _ E this v3 v7 _ _ _ h1) (gwV qw_697 qw_699 qw_30 qw_39 qw_700) ⟨rfl, rfl, (Nat.le_of_ble_eq_true rfl), (Nat.le_of_ble_eq_true rfl)⟩ dd_X4_mergeAndRecord rfl hk1 rfl rfl hl.1 (Nat.le_of_ble_eq_true rfl) dX4_deliver_20 ⟨(Nat.le_of_ble_eq_true rfl), (Nat.le_of_ble_eq_true rfl)⟩ (fun H locs hM hS => ?_)
  obtain ⟨h01, h⟩ := ifg h
  cases h
  exact eZ hx hb hr hlocks hM hS dX4_deliver_23 (Nat.le_of_ble_eq_true rfl) (Nat.le_of_ble_eq_true rfl) h01

abbrev rmq_X4_drop : Room := ({ frames := 5, cells := 24, slots := 1353, locals := 124 } : Room)
set_option maxHeartbeats 4000000 in
set_option maxRecDepth 100000 in
theorem mq_X4_drop (l : Launch) (E : KEnv) (this : Nat) (a1 : Int32) (M M' : Mem) (v : Int32) (h : f_X4_drop this a1 M = some (.inl v, M')) : Met l yX4_drop (Cond.code yX4_drop cX4_drop 2 (some .int) :: lw_G) rmq_X4_drop (cPc E [.ref this, .int a1] M) (cQ E (some (.int v)) M') 24 1353 (eA E) := by
  refine Met.ofW (cc := cX4_drop) (maxL := 2) (ret := (some .int)) (by decide) rfl ?_
  intro p e s m args below meth c s₁ B hml hv
  obtain ⟨rfl, hE, hM⟩ := hv
  have hx := B.exec
  have hb := B.bytes
  have hr := B.returns
  have hts0 := atoms_spec (ws := Cond.code yX4_drop cX4_drop 2 (some .int) :: lw_G) B.pre
  have hts : ∀ w ∈ lw_G, w.before _ s = true := fun w hw => hts0 w (List.mem_cons_of_mem _ hw)
  have hown : s.vm.findClass RX4 = some m.cls := findClass_of_methodNamed B.named
  have hlocks := B.notSynchronized
  have hC : CallFix p m c cX4_drop 2 s _ lw_G RX4 := ⟨hx, hb, hml, hown, hts⟩
  have hS : va_S (eA E) s.heap s.heap [] := va_S.rf
  have hl := lv_entry ([.ref this, .int a1]) (n := 2) (Nat.le_of_ble_eq_true rfl)
  rw [lg_entry_eq]
  generalize (lg_sl ([.ref this, .int a1]) ++ List.replicate (2 - (lg_sl ([.ref this, .int a1])).length) Slot.unset).toArray = ls at hl ⊢
  have hl : lv_has ls 2 [(0, .ref this), (1, .int a1)] := hl
  unfold f_X4_drop at h
  show W p l e rmq_X4_drop s m _ below meth c s.heap [] 0 0 _ _
  refine lv_aload_n hx hb dX4_drop_0 rfl (lv_at hl 0 rfl) ?_
  refine lv_iload_n hx hb dX4_drop_1 rfl (lv_at hl 1 rfl) ?_
  rcases obx h with ⟨v1, M2, h1, h⟩ | ⟨ex, M9, h1, h⟩
  rotate_left
  · exfalso
    cases h
  obtain ⟨hk1, h1⟩ := ifg h1
  refine kV0 (ci := 4) (As := [.int a1]) (rest := []) hC hE hS hM (mq_X4_requireMessage _ E this a1 _ _ h1) (gwV qw_723 qw_725 qw_31 qw_39 qw_726) ⟨rfl, rfl, (Nat.le_of_ble_eq_true rfl), (Nat.le_of_ble_eq_true rfl)⟩ dd_X4_requireMessage rfl hk1 rfl rfl hl.1 (Nat.le_of_ble_eq_true rfl) dX4_drop_2 ⟨(Nat.le_of_ble_eq_true rfl), (Nat.le_of_ble_eq_true rfl)⟩ (fun H locs hM hS => ?_)
  refine lv_aload_n hx hb dX4_drop_5 rfl (lv_at hl 0 rfl) ?_
  obtain ⟨v3, h1, h⟩ := ob h
  refine rgn_4_8 hx hb hts hown hE hM qw_406 h1 dX4_drop_6 ?_
  refine lv_aload_n hx hb dX4_drop_9 rfl (lv_at hl 0 rfl) ?_
  obtain ⟨v4, h1, h⟩ := ob h
  refine rgn_4_6 hx hb hts hown hE hM qw_404 h1 dX4_drop_10 ?_
  obtain ⟨M6, h1, h⟩ := ob h
  obtain ⟨hk1, h1⟩ := ifg h1
  refine kV0 (ci := 0) (As := [.ref v4]) (rest := []) hC hE hS hM (mt_X0_record _ E v3 v4 _ _ h1) (gwV qw_526 qw_527 qw_528 qw_42 qw_529) ⟨rfl, rfl, (Nat.le_of_ble_eq_true rfl), (Nat.le_of_ble_eq_true rfl)⟩ dd_X0_record rfl hk1 rfl rfl hl.1 (Nat.le_of_ble_eq_true rfl) dX4_drop_13 ⟨(Nat.le_of_ble_eq_true rfl), (Nat.le_of_ble_eq_true rfl)⟩ (fun H locs hM hS => ?_)
  refine lv_aload_n hx hb dX4_drop_16 rfl (lv_at hl 0 rfl) ?_
  obtain ⟨v7, h1, h⟩ := ob h
  refine rgn_4_6 hx hb hts hown hE hM qw_404 h1 dX4_drop_17 ?_
  refine lv_iload_n hx hb dX4_drop_20 rfl (lv_at hl 1 rfl) ?_
  obtain ⟨M9, h1, h⟩ := ob h
  obtain ⟨hk1, h1⟩ := ifg h1
  refine kV0 (ci := 3) (As := [.int a1]) (rest := []) hC hE hS hM (mt_X3_removeMessage _ E v7 a1 _ _ h1) (gwV qw_735 qw_736 qw_737 qw_40 qw_738) ⟨rfl, rfl, (Nat.le_of_ble_eq_true rfl), (Nat.le_of_ble_eq_true rfl)⟩ dd_X3_removeMessage rfl hk1 rfl rfl hl.1 (Nat.le_of_ble_eq_true rfl) dX4_drop_21 ⟨(Nat.le_of_ble_eq_true rfl), (Nat.le_of_ble_eq_true rfl)⟩ (fun H locs hM hS => ?_)
  refine lv_aload_n hx hb dX4_drop_24 rfl (lv_at hl 0 rfl) ?_
  obtain ⟨v10, h1, h⟩ := ob h
  refine rgn_4_6 hx hb hts hown hE hM qw_404 h1 dX4_drop_25 ?_
  obtain ⟨v11, h1, h⟩ := ob h
  refine rg_3_3 hx hb hts hown hE hM qw_99 h1 dX4_drop_28 ?_
  cases h
  exact eI hx hb hr hlocks hM hS dX4_drop_31 (Nat.le_of_ble_eq_true rfl) (Nat.le_of_ble_eq_true rfl)

abbrev rmq_X4_requireSlot : Room := ({ frames := 0, cells := 0, slots := 0, locals := 0 } : Room)
set_option maxHeartbeats 4000000 in
set_option maxRecDepth 100000 in
theorem tq_X4_requireSlot_9 {p : Program} {l : Launch} {e : Env} {s : State} {m : MethodId} {args : Array Value} {below : List Frame} {meth : Method} {c : Code} {E : KEnv} {H : Heap} {locs : List Loc} {ls : Array Slot}  {M : Mem} {M' : Mem} (hC : CallFix p m c cX4_requireSlot 2 s args lw_G RX4) (hr : meth.sig.returnType = none) (hlocks : meth.locks = false) (hE : EnvOK E s) (h : fj_X4_requireSlot_9  M = some (.inl (), M')) (hM : MOK E M H) (hS : va_S (eA E) s.heap H locs) (hl : lv_has ls 2 []) : W p l e rmq_X4_requireSlot s m args below meth c H locs 0 0 (MQ below (cQ E none M') args s 0 0 (eA E)) (F0 m 9 ls []) := by
  obtain ⟨hx, hb, hml, hown, hts⟩ := id hC
  unfold fj_X4_requireSlot_9 at h
  cases h
set_option maxHeartbeats 4000000 in
set_option maxRecDepth 100000 in
theorem mq_X4_requireSlot (l : Launch) (E : KEnv) (this : Nat) (a1 : Int32) (M M' : Mem) (h : f_X4_requireSlot this a1 M = some (.inl (), M')) : Met l yX4_requireSlot (Cond.code yX4_requireSlot cX4_requireSlot 2 none :: lw_G) rmq_X4_requireSlot (cPc E [.ref this, .int a1] M) (cQ E none M') 0 0 (eA E) := by
  refine Met.ofW (cc := cX4_requireSlot) (maxL := 2) (ret := none) (by decide) rfl ?_
  intro p e s m args below meth c s₁ B hml hv
  obtain ⟨rfl, hE, hM⟩ := hv
  have hx := B.exec
  have hb := B.bytes
  have hr := B.returns
  have hts0 := atoms_spec (ws := Cond.code yX4_requireSlot cX4_requireSlot 2 none :: lw_G) B.pre
  have hts : ∀ w ∈ lw_G, w.before _ s = true := fun w hw => hts0 w (List.mem_cons_of_mem _ hw)
  have hown : s.vm.findClass RX4 = some m.cls := findClass_of_methodNamed B.named
  have hlocks := B.notSynchronized
  have hC : CallFix p m c cX4_requireSlot 2 s _ lw_G RX4 := ⟨hx, hb, hml, hown, hts⟩
  have hS : va_S (eA E) s.heap s.heap [] := va_S.rf
  have hl := lv_entry ([.ref this, .int a1]) (n := 2) (Nat.le_of_ble_eq_true rfl)
  rw [lg_entry_eq]
  generalize (lg_sl ([.ref this, .int a1]) ++ List.replicate (2 - (lg_sl ([.ref this, .int a1])).length) Slot.unset).toArray = ls at hl ⊢
  have hl : lv_has ls 2 [(0, .ref this), (1, .int a1)] := hl
  unfold f_X4_requireSlot at h
  show W p l e rmq_X4_requireSlot s m _ below meth c s.heap [] 0 0 _ _
  refine lv_iload_n hx hb dX4_requireSlot_0 rfl (lv_at hl 1 rfl) ?_
  refine lv_if_lt (tgt := 9) hx hb dX4_requireSlot_1 (by decide) (fun c1 => ?_) (fun c1 => ?_)
  · have h := ifp c1 h
    refine W.widen (k := 0) (n := 0) (Nat.le_of_ble_eq_true rfl) (Nat.le_of_ble_eq_true rfl) ?_
    exact tq_X4_requireSlot_9  hC hr hlocks hE  h hM hS (lv_sub hl [] rfl)
  · have h := ifn c1 h
    refine lv_iload_n hx hb dX4_requireSlot_4 rfl (lv_at hl 1 rfl) ?_
    refine lv_iconst (v := 2) hx hb dX4_requireSlot_5 (by decide) ?_
    refine lv_icmp_lt (tgt := 20) hx hb dX4_requireSlot_6 (by decide) (fun c1 => ?_) (fun c1 => ?_)
    · have h := ifp c1 h
      cases h
      exact eV_ hx hb hr hlocks hM hS dX4_requireSlot_20 (Nat.le_of_ble_eq_true rfl) (Nat.le_of_ble_eq_true rfl)
    · have h := ifn c1 h
      refine W.widen (k := 0) (n := 0) (Nat.le_of_ble_eq_true rfl) (Nat.le_of_ble_eq_true rfl) ?_
      exact tq_X4_requireSlot_9  hC hr hlocks hE  h hM hS (lv_sub hl [] rfl)

abbrev rmq_X4_restore : Room := ({ frames := 5, cells := 24, slots := 1353, locals := 124 } : Room)
set_option maxHeartbeats 4000000 in
set_option maxRecDepth 100000 in
theorem mq_X4_restore (l : Launch) (E : KEnv) (this : Nat) (a1 : Int32) (M M' : Mem) (v : Int32) (h : f_X4_restore this a1 M = some (.inl v, M')) : Met l yX4_restore (Cond.code yX4_restore cX4_restore 3 (some .int) :: lw_G) rmq_X4_restore (cPc E [.ref this, .int a1] M) (cQ E (some (.int v)) M') 24 1353 (eA E) := by
  refine Met.ofW (cc := cX4_restore) (maxL := 3) (ret := (some .int)) (by decide) rfl ?_
  intro p e s m args below meth c s₁ B hml hv
  obtain ⟨rfl, hE, hM⟩ := hv
  have hx := B.exec
  have hb := B.bytes
  have hr := B.returns
  have hts0 := atoms_spec (ws := Cond.code yX4_restore cX4_restore 3 (some .int) :: lw_G) B.pre
  have hts : ∀ w ∈ lw_G, w.before _ s = true := fun w hw => hts0 w (List.mem_cons_of_mem _ hw)
  have hown : s.vm.findClass RX4 = some m.cls := findClass_of_methodNamed B.named
  have hlocks := B.notSynchronized
  have hC : CallFix p m c cX4_restore 3 s _ lw_G RX4 := ⟨hx, hb, hml, hown, hts⟩
  have hS : va_S (eA E) s.heap s.heap [] := va_S.rf
  have hl := lv_entry ([.ref this, .int a1]) (n := 3) (Nat.le_of_ble_eq_true rfl)
  rw [lg_entry_eq]
  generalize (lg_sl ([.ref this, .int a1]) ++ List.replicate (3 - (lg_sl ([.ref this, .int a1])).length) Slot.unset).toArray = ls at hl ⊢
  have hl : lv_has ls 3 [(0, .ref this), (1, .int a1)] := hl
  unfold f_X4_restore at h
  show W p l e rmq_X4_restore s m _ below meth c s.heap [] 0 0 _ _
  refine lv_aload_n hx hb dX4_restore_0 rfl (lv_at hl 0 rfl) ?_
  refine lv_iload_n hx hb dX4_restore_1 rfl (lv_at hl 1 rfl) ?_
  rcases obx h with ⟨v1, M2, h1, h⟩ | ⟨ex, M9, h1, h⟩
  rotate_left
  · exfalso
    cases h
  obtain ⟨hk1, h1⟩ := ifg h1
  refine kV0 (ci := 4) (As := [.int a1]) (rest := []) hC hE hS hM (mq_X4_requireSlot _ E this a1 _ _ h1) (gwV qw_439 qw_441 qw_20 qw_39 qw_442) ⟨rfl, rfl, (Nat.le_of_ble_eq_true rfl), (Nat.le_of_ble_eq_true rfl)⟩ dd_X4_requireSlot rfl hk1 rfl rfl hl.1 (Nat.le_of_ble_eq_true rfl) dX4_restore_2 ⟨(Nat.le_of_ble_eq_true rfl), (Nat.le_of_ble_eq_true rfl)⟩ (fun H locs hM hS => ?_)
  refine lv_aload_n hx hb dX4_restore_5 rfl (lv_at hl 0 rfl) ?_
  obtain ⟨v3, h1, h⟩ := ob h
  refine rgn_4_9 hx hb hts hown hE hM qw_407 h1 dX4_restore_6 ?_
  refine lv_iload_n hx hb dX4_restore_9 rfl (lv_at hl 1 rfl) ?_
  obtain ⟨v4, h1, h⟩ := ob h
  refine r_aldW hx hb hE hM h1 dX4_restore_10 ?_
  cases v4 with
  | none =>
    refine lv_astore_nN (lv' := [(2, .null), (0, .ref this), (1, .int a1)]) hx hb dX4_restore_11 rfl hl (by decide) rfl (fun ls hl => ?_)
    refine lv_aload_nN hx hb dX4_restore_12 rfl (lv_at hl 0 rfl) ?_
    refine lv_ifnonnullN hx hb dX4_restore_13 ?_
    cases h
  | some v5 =>
    refine lv_astore_n (lv' := [(2, .ref v5), (0, .ref this), (1, .int a1)]) hx hb dX4_restore_11 rfl hl (by decide) rfl (fun ls hl => ?_)
    refine lv_aload_n hx hb dX4_restore_12 rfl (lv_at hl 0 rfl) ?_
    refine lv_ifnonnull (tgt := 27) hx hb dX4_restore_13 (by decide) ?_
    refine lv_aload_n hx hb dX4_restore_27 rfl (lv_at hl 1 rfl) ?_
    obtain ⟨v6, h1, h⟩ := ob h
    refine rgn_4_8 hx hb hts hown hE hM qw_406 h1 dX4_restore_28 ?_
    refine lv_aload_n hx hb dX4_restore_31 rfl (lv_at hl 1 rfl) ?_
    obtain ⟨v7, h1, h⟩ := ob h
    refine rgn_4_6 hx hb hts hown hE hM qw_404 h1 dX4_restore_32 ?_
    obtain ⟨M9, h1, h⟩ := ob h
    obtain ⟨hk1, h1⟩ := ifg h1
    refine kV0 (ci := 0) (As := [.ref v7]) (rest := []) hC hE hS hM (mt_X0_record _ E v6 v7 _ _ h1) (gwV qw_526 qw_527 qw_528 qw_42 qw_529) ⟨rfl, rfl, (Nat.le_of_ble_eq_true rfl), (Nat.le_of_ble_eq_true rfl)⟩ dd_X0_record rfl hk1 rfl rfl hl.1 (Nat.le_of_ble_eq_true rfl) dX4_restore_35 ⟨(Nat.le_of_ble_eq_true rfl), (Nat.le_of_ble_eq_true rfl)⟩ (fun H locs hM hS => ?_)
    refine lv_aload_n hx hb dX4_restore_38 rfl (lv_at hl 1 rfl) ?_
    obtain ⟨v10, h1, h⟩ := ob h
    refine rgn_4_6 hx hb hts hown hE hM qw_404 h1 dX4_restore_39 ?_
    refine lv_aload_n hx hb dX4_restore_42 rfl (lv_at hl 0 rfl) ?_
    obtain ⟨M12, h1, h⟩ := ob h
    obtain ⟨hk1, h1⟩ := ifg h1
    refine kV0 (ci := 3) (As := [.ref v5]) (rest := []) hC hE hS hM (mt_X3_copyFrom _ E v10 v5 _ _ h1) (gwV qw_542 qw_536 qw_537 qw_40 qw_538) ⟨rfl, rfl, (Nat.le_of_ble_eq_true rfl), (Nat.le_of_ble_eq_true rfl)⟩ dd_X3_copyFrom rfl hk1 rfl rfl hl.1 (Nat.le_of_ble_eq_true rfl) dX4_restore_43 ⟨(Nat.le_of_ble_eq_true rfl), (Nat.le_of_ble_eq_true rfl)⟩ (fun H locs hM hS => ?_)
    refine lv_aload_n hx hb dX4_restore_46 rfl (lv_at hl 1 rfl) ?_
    obtain ⟨v13, h1, h⟩ := ob h
    refine rgn_4_6 hx hb hts hown hE hM qw_404 h1 dX4_restore_47 ?_
    obtain ⟨v14, h1, h⟩ := ob h
    refine rg_3_3 hx hb hts hown hE hM qw_99 h1 dX4_restore_50 ?_
    cases h
    exact eI hx hb hr hlocks hM hS dX4_restore_53 (Nat.le_of_ble_eq_true rfl) (Nat.le_of_ble_eq_true rfl)

abbrev rmq_X4_undo : Room := ({ frames := 5, cells := 24, slots := 1353, locals := 108 } : Room)
set_option maxHeartbeats 4000000 in
set_option maxRecDepth 100000 in
theorem mq_X4_undo (l : Launch) (E : KEnv) (this : Nat) (M M' : Mem) (v : Int32) (h : f_X4_undo this M = some (.inl v, M')) : Met l yX4_undo (Cond.code yX4_undo cX4_undo 1 (some .int) :: lw_G) rmq_X4_undo (cPc E [.ref this] M) (cQ E (some (.int v)) M') 24 1353 (eA E) := by
  refine Met.ofW (cc := cX4_undo) (maxL := 1) (ret := (some .int)) (by decide) rfl ?_
  intro p e s m args below meth c s₁ B hml hv
  obtain ⟨rfl, hE, hM⟩ := hv
  have hx := B.exec
  have hb := B.bytes
  have hr := B.returns
  have hts0 := atoms_spec (ws := Cond.code yX4_undo cX4_undo 1 (some .int) :: lw_G) B.pre
  have hts : ∀ w ∈ lw_G, w.before _ s = true := fun w hw => hts0 w (List.mem_cons_of_mem _ hw)
  have hown : s.vm.findClass RX4 = some m.cls := findClass_of_methodNamed B.named
  have hlocks := B.notSynchronized
  have hC : CallFix p m c cX4_undo 1 s _ lw_G RX4 := ⟨hx, hb, hml, hown, hts⟩
  have hS : va_S (eA E) s.heap s.heap [] := va_S.rf
  have hl := lv_entry ([.ref this]) (n := 1) (Nat.le_of_ble_eq_true rfl)
  rw [lg_entry_eq]
  generalize (lg_sl ([.ref this]) ++ List.replicate (1 - (lg_sl ([.ref this])).length) Slot.unset).toArray = ls at hl ⊢
  have hl : lv_has ls 1 [(0, .ref this)] := hl
  unfold f_X4_undo at h
  show W p l e rmq_X4_undo s m _ below meth c s.heap [] 0 0 _ _
  refine lv_aload_n hx hb dX4_undo_0 rfl (lv_at hl 0 rfl) ?_
  obtain ⟨v1, h1, h⟩ := ob h
  refine rgn_4_8 hx hb hts hown hE hM qw_406 h1 dX4_undo_1 ?_
  obtain ⟨v2, h1, h⟩ := ob h
  refine rg_0_2 hx hb hts hown hE hM qw_134 h1 dX4_undo_4 ?_
  refine lv_if_ne (tgt := 21) hx hb dX4_undo_7 (by decide) (fun c1 => ?_) (fun c1 => ?_)
  · have h := ifn c1 h
    refine lv_aload_n hx hb dX4_undo_21 rfl (lv_at hl 0 rfl) ?_
    refine lv_aload_n hx hb dX4_undo_22 rfl (lv_at hl 0 rfl) ?_
    obtain ⟨v3, h1, h⟩ := ob h
    refine rgn_4_8 hx hb hts hown hE hM qw_406 h1 dX4_undo_23 ?_
    refine lv_aload_n hx hb dX4_undo_26 rfl (lv_at hl 0 rfl) ?_
    obtain ⟨v4, h1, h⟩ := ob h
    refine rgn_4_6 hx hb hts hown hE hM qw_404 h1 dX4_undo_27 ?_
    obtain ⟨v5, M6, h1, h⟩ := ob2 h
    obtain ⟨hk1, h1⟩ := ifg h1
    refine kV1 (ci := 0) (As := [.ref v4]) (rest := [.ref this]) hC hE hS hM (mt_X0_exchange _ E v3 v4 _ _ _ h1) (gwV qw_604 qw_605 qw_606 qw_42 qw_607) ⟨rfl, rfl, (Nat.le_of_ble_eq_true rfl), (Nat.le_of_ble_eq_true rfl)⟩ dd_X0_exchange rfl hk1 rfl rfl hl.1 (Nat.le_of_ble_eq_true rfl) dX4_undo_30 ⟨(Nat.le_of_ble_eq_true rfl), (Nat.le_of_ble_eq_true rfl)⟩ (fun H locs hM hS => ?_)
    obtain ⟨M7, h1, h⟩ := ob h
    refine rp_4_6 hx hb hts hown hE hM qw_404 hS h1 dX4_undo_33 (fun H locs hM hS => ?_)
    refine lv_aload_n hx hb dX4_undo_36 rfl (lv_at hl 0 rfl) ?_
    obtain ⟨v8, h1, h⟩ := ob h
    refine rgn_4_8 hx hb hts hown hE hM qw_406 h1 dX4_undo_37 ?_
    obtain ⟨v9, h1, h⟩ := ob h
    refine rg_0_2 hx hb hts hown hE hM qw_134 h1 dX4_undo_40 ?_
    cases h
    exact eI hx hb hr hlocks hM hS dX4_undo_43 (Nat.le_of_ble_eq_true rfl) (Nat.le_of_ble_eq_true rfl)
  · have h := ifp c1 h
    cases h

abbrev rmq_X4_save : Room := ({ frames := 3, cells := 24, slots := 1353, locals := 103 } : Room)
set_option maxHeartbeats 4000000 in
set_option maxRecDepth 100000 in
theorem tq_X4_save_31 {p : Program} {l : Launch} {e : Env} {s : State} {m : MethodId} {args : Array Value} {below : List Frame} {meth : Method} {c : Code} {E : KEnv} {H : Heap} {locs : List Loc} {ls : Array Slot} {x0 : Nat} {x2 : Nat} {M : Mem} {v : Int32} {M' : Mem} (hC : CallFix p m c cX4_save 3 s args lw_G RX4) (hr : meth.sig.returnType = (some .int)) (hlocks : meth.locks = false) (hE : EnvOK E s) (h : fj_X4_save_31 x0 x2 M = some (.inl v, M')) (hM : MOK E M H) (hS : va_S (eA E) s.heap H locs) (hl : lv_has ls 3 [(0, .ref x0), (2, .ref x2)]) : W p l e rmq_X4_save s m args below meth c H locs 24 1353 (MQ below (cQ E (some (.int v)) M') args s 24 1353 (eA E)) (F0 m 31 ls []) := by
  obtain ⟨hx, hb, hml, hown, hts⟩ := id hC
  unfold fj_X4_save_31 at h
  refine lv_aload_n hx hb dX4_save_31 rfl (lv_at hl 1 rfl) ?_
  refine lv_aload_n hx hb dX4_save_32 rfl (lv_at hl 0 rfl) ?_
  obtain ⟨v12, h1, h⟩ := ob h
  refine rgn_4_6 hx hb hts hown hE hM qw_404 h1 dX4_save_33 ?_
  obtain ⟨M14, h1, h⟩ := ob h
  obtain ⟨hk1, h1⟩ := ifg h1
  refine kV0 (ci := 3) (As := [.ref v12]) (rest := []) hC hE hS hM (mt_X3_copyFrom _ E x2 v12 _ _ h1) (gwV qw_542 qw_536 qw_537 qw_40 qw_538) ⟨rfl, rfl, (Nat.le_of_ble_eq_true rfl), (Nat.le_of_ble_eq_true rfl)⟩ dd_X3_copyFrom rfl hk1 rfl rfl hl.1 (Nat.le_of_ble_eq_true rfl) dX4_save_36 ⟨(Nat.le_of_ble_eq_true rfl), (Nat.le_of_ble_eq_true rfl)⟩ (fun H locs hM hS => ?_)
  refine lv_aload_n hx hb dX4_save_39 rfl (lv_at hl 1 rfl) ?_
  obtain ⟨v15, h1, h⟩ := ob h
  refine rg_3_3 hx hb hts hown hE hM qw_99 h1 dX4_save_40 ?_
  cases h
  exact eI hx hb hr hlocks hM hS dX4_save_43 (Nat.le_of_ble_eq_true rfl) (Nat.le_of_ble_eq_true rfl)
set_option maxHeartbeats 4000000 in
set_option maxRecDepth 100000 in
theorem mq_X4_save (l : Launch) (E : KEnv) (this : Nat) (a1 : Int32) (M M' : Mem) (v : Int32) (h : f_X4_save this a1 M = some (.inl v, M')) : Met l yX4_save (Cond.code yX4_save cX4_save 3 (some .int) :: lw_G) rmq_X4_save (cPc E [.ref this, .int a1] M) (cQ E (some (.int v)) M') 24 1353 (eA E) := by
  refine Met.ofW (cc := cX4_save) (maxL := 3) (ret := (some .int)) (by decide) rfl ?_
  intro p e s m args below meth c s₁ B hml hv
  obtain ⟨rfl, hE, hM⟩ := hv
  have hx := B.exec
  have hb := B.bytes
  have hr := B.returns
  have hts0 := atoms_spec (ws := Cond.code yX4_save cX4_save 3 (some .int) :: lw_G) B.pre
  have hts : ∀ w ∈ lw_G, w.before _ s = true := fun w hw => hts0 w (List.mem_cons_of_mem _ hw)
  have hown : s.vm.findClass RX4 = some m.cls := findClass_of_methodNamed B.named
  have hlocks := B.notSynchronized
  have hC : CallFix p m c cX4_save 3 s _ lw_G RX4 := ⟨hx, hb, hml, hown, hts⟩
  have hS : va_S (eA E) s.heap s.heap [] := va_S.rf
  have hl := lv_entry ([.ref this, .int a1]) (n := 3) (Nat.le_of_ble_eq_true rfl)
  rw [lg_entry_eq]
  generalize (lg_sl ([.ref this, .int a1]) ++ List.replicate (3 - (lg_sl ([.ref this, .int a1])).length) Slot.unset).toArray = ls at hl ⊢
  have hl : lv_has ls 3 [(0, .ref this), (1, .int a1)] := hl
  unfold f_X4_save at h
  show W p l e rmq_X4_save s m _ below meth c s.heap [] 0 0 _ _
  refine lv_aload_n hx hb dX4_save_0 rfl (lv_at hl 0 rfl) ?_
  refine lv_iload_n hx hb dX4_save_1 rfl (lv_at hl 1 rfl) ?_
  rcases obx h with ⟨v1, M2, h1, h⟩ | ⟨ex, M9, h1, h⟩
  rotate_left
  · exfalso
    cases h
  obtain ⟨hk1, h1⟩ := ifg h1
  refine kV0 (ci := 4) (As := [.int a1]) (rest := []) hC hE hS hM (mq_X4_requireSlot _ E this a1 _ _ h1) (gwV qw_439 qw_441 qw_20 qw_39 qw_442) ⟨rfl, rfl, (Nat.le_of_ble_eq_true rfl), (Nat.le_of_ble_eq_true rfl)⟩ dd_X4_requireSlot rfl hk1 rfl rfl hl.1 (Nat.le_of_ble_eq_true rfl) dX4_save_2 ⟨(Nat.le_of_ble_eq_true rfl), (Nat.le_of_ble_eq_true rfl)⟩ (fun H locs hM hS => ?_)
  refine lv_aload_n hx hb dX4_save_5 rfl (lv_at hl 0 rfl) ?_
  obtain ⟨v3, h1, h⟩ := ob h
  refine rgn_4_9 hx hb hts hown hE hM qw_407 h1 dX4_save_6 ?_
  refine lv_iload_n hx hb dX4_save_9 rfl (lv_at hl 1 rfl) ?_
  obtain ⟨v4, h1, h⟩ := ob h
  refine r_aldW hx hb hE hM h1 dX4_save_10 ?_
  cases v4 with
  | none =>
    refine lv_astore_nN (lv' := [(2, .null), (0, .ref this), (1, .int a1)]) hx hb dX4_save_11 rfl hl (by decide) rfl (fun ls hl => ?_)
    refine lv_aload_nN hx hb dX4_save_12 rfl (lv_at hl 0 rfl) ?_
    refine lv_ifnonnullN hx hb dX4_save_13 ?_
    obtain ⟨v6, M7, eq, eM, h⟩ := obnew h
    refine rn_3 hx hb hts hown hE hM hS qw_69 qw_70 qw_40 eq eM (Nat.le_of_ble_eq_true rfl) (Nat.le_of_ble_eq_true rfl) dX4_save_16 (fun H hM hS => ?_)
    refine lv_dup hx hb dX4_save_19 rfl ?_
    obtain ⟨M9, h1, h⟩ := ob h
    refine kI (As := []) (rest := [.ref v6]) hC hE hS hM (mt_X3_init _ E v6 _ _ h1) qw_73 qw_71 qw_72 qw_40 ⟨rfl, rfl, (Nat.le_of_ble_eq_true rfl), (Nat.le_of_ble_eq_true rfl)⟩ dd_X3_init.2 rfl rfl rfl hl.1 (Nat.le_of_ble_eq_true rfl) dX4_save_20 ⟨(Nat.le_of_ble_eq_true rfl), (Nat.le_of_ble_eq_true rfl)⟩ (fun H locs hM hS => ?_)
    refine lv_astore_n (lv' := [(2, .ref v6), (0, .ref this), (1, .int a1)]) hx hb dX4_save_23 rfl hl (by decide) rfl (fun ls hl => ?_)
    refine lv_aload_n hx hb dX4_save_24 rfl (lv_at hl 1 rfl) ?_
    obtain ⟨v10, h1, h⟩ := ob h
    refine rgn_4_9 hx hb hts hown hE hM qw_407 h1 dX4_save_25 ?_
    refine lv_iload_n hx hb dX4_save_28 rfl (lv_at hl 2 rfl) ?_
    refine lv_aload_n hx hb dX4_save_29 rfl (lv_at hl 0 rfl) ?_
    obtain ⟨M11, h1, h⟩ := ob h
    refine r_astW hx hb hE hM hS h1 dX4_save_30 (fun H locs hM hS => ?_)
    refine W.widen (k := 24) (n := 1353) (Nat.le_of_ble_eq_true rfl) (Nat.le_of_ble_eq_true rfl) ?_
    exact tq_X4_save_31  hC hr hlocks hE  h hM hS (lv_sub hl [1, 0] rfl)
  | some v5 =>
    refine lv_astore_n (lv' := [(2, .ref v5), (0, .ref this), (1, .int a1)]) hx hb dX4_save_11 rfl hl (by decide) rfl (fun ls hl => ?_)
    refine lv_aload_n hx hb dX4_save_12 rfl (lv_at hl 0 rfl) ?_
    refine lv_ifnonnull (tgt := 31) hx hb dX4_save_13 (by decide) ?_
    refine W.widen (k := 24) (n := 1353) (Nat.le_of_ble_eq_true rfl) (Nat.le_of_ble_eq_true rfl) ?_
    exact tq_X4_save_31  hC hr hlocks hE  h hM hS (lv_sub hl [1, 0] rfl)
