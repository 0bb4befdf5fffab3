/-! printed by wip/p56/gen2.py: methods as functions over the memory, and that the code does what they say -/
abbrev rm_J0_coder_7d493 : Room := ({ frames := 0, cells := 0, slots := 0, locals := 0 } : Room)
noncomputable def fj_J0_coder_7d493_14 (s0 : Int32) (M : Mem) : Option (Int32 × Mem) :=
  (if nar 7 s0 = s0 then some (s0, M) else none)
set_option maxHeartbeats 4000000 in
set_option maxRecDepth 100000 in
theorem tj_J0_coder_7d493_14 {p : Program} {l : Launch} {e : Env} {s : State} {m : MethodId} {args : Array Value} {below : List Frame} {meth : Method} {c : Code} {E : KEnv} {H : Heap} {locs : List Loc} {ls : Array Slot} {s0 : Int32} {M : Mem} {v : Int32} {M' : Mem} (hC : CallFix p m c cJ0_coder_7d493 1 s args lw_G RJ0) (hr : meth.sig.returnType = (some .byte)) (hlocks : meth.locks = false) (hE : EnvOK E s) (h : fj_J0_coder_7d493_14 s0 M = some (v, M')) (hM : MOK E M H) (hS : va_S (eA E) s.heap H locs) (hl : lv_has ls 1 []) : W p l e rm_J0_coder_7d493 s m args below meth c H locs 0 0 (MQ below (cQ E (some (.int v)) M') args s 0 0 (eA E)) (F0 m 14 ls [.int s0]) := by
  obtain ⟨hx, hb, hml, hown, hts⟩ := id hC
  unfold fj_J0_coder_7d493_14 at h
  obtain ⟨h01, h⟩ := ifg h
  cases h
  exact eBy hx hb hr hlocks hM hS dJ0_coder_7d493_14 (Nat.le_of_ble_eq_true rfl) (Nat.le_of_ble_eq_true rfl) h01
noncomputable def f_J0_coder_7d493 (this : Nat) (M : Mem) : Option (Int32 × Mem) :=
  (gI 6 161 this M).bind fun v1 =>
  fj_J0_coder_7d493_14 v1 M
set_option maxHeartbeats 4000000 in
set_option maxRecDepth 100000 in
theorem mt_J0_coder_7d493 (l : Launch) (E : KEnv) (this : Nat) (M M' : Mem) (v : Int32) (h : f_J0_coder_7d493 this M = some (v, M')) : Met l yJ0_coder_7d493 (Cond.code yJ0_coder_7d493 cJ0_coder_7d493 1 (some .byte) :: lw_G) rm_J0_coder_7d493 (cPc E [.ref this] M) (cQ E (some (.int v)) M') 0 0 (eA E) := by
  refine Met.ofW (cc := cJ0_coder_7d493) (maxL := 1) (ret := (some .byte)) (by decide) rfl ?_
  intro p e s m args below meth c s₁ B hml hv
  obtain ⟨rfl, hE, hM⟩ := hv
  have hx := B.exec
  have hb := B.bytes
  have hr := B.returns
  have hts0 := atoms_spec (ws := Cond.code yJ0_coder_7d493 cJ0_coder_7d493 1 (some .byte) :: lw_G) B.pre
  have hts : ∀ w ∈ lw_G, w.before _ s = true := fun w hw => hts0 w (List.mem_cons_of_mem _ hw)
  have hown : s.vm.findClass RJ0 = some m.cls := findClass_of_methodNamed B.named
  have hlocks := B.notSynchronized
  have hC : CallFix p m c cJ0_coder_7d493 1 s _ lw_G RJ0 := ⟨hx, hb, hml, hown, hts⟩
  have hS : va_S (eA E) s.heap s.heap [] := va_S.rf
  have hl := lv_entry ([.ref this]) (n := 1) (Nat.le_of_ble_eq_true rfl)
  rw [lg_entry_eq]
  generalize (lg_sl ([.ref this]) ++ List.replicate (1 - (lg_sl ([.ref this])).length) Slot.unset).toArray = ls at hl ⊢
  have hl : lv_has ls 1 [(0, .ref this)] := hl
  unfold f_J0_coder_7d493 at h
  show W p l e rm_J0_coder_7d493 s m _ below meth c s.heap [] 0 0 _ _
  refine va_gets hx hb hE.2.2.2.2.2.1 hS hown (hts _ qw_155) (fun _ h9 => h9) dJ0_coder_7d493_0 ?_
  refine lv_if_eq (tgt := 13) hx hb dJ0_coder_7d493_3 (by decide) (fun c1 => ?_) (fun c1 => ?_)
  · exact absurd c1 (by decide)
  · refine lv_aload_n hx hb dJ0_coder_7d493_6 rfl (lv_at hl 0 rfl) ?_
    obtain ⟨v1, h1, h⟩ := ob h
    refine rg_5_1 hx hb hts hown hE hM qw_967 h1 dJ0_coder_7d493_7 ?_
    refine lv_goto (tgt := 14) hx hb dJ0_coder_7d493_10 (by decide) ?_
    refine W.widen (k := 0) (n := 0) (Nat.le_of_ble_eq_true rfl) (Nat.le_of_ble_eq_true rfl) ?_
    exact tj_J0_coder_7d493_14  hC hr hlocks hE  h hM hS (lv_sub hl [] rfl)

abbrev rm_J0_length_8abf5 : Room := ({ frames := 1, cells := 0, slots := 0, locals := 20 } : Room)
noncomputable def f_J0_length_8abf5 (this : Nat) (M : Mem) : Option (Int32 × Mem) :=
  (gRn 6 160 this M).bind fun v1 =>
  (gN 7 v1 M).bind fun v2 =>
  bn (cK 6 this M (f_J0_coder_7d493 this M)) fun v3 M4 =>
  some (v2 >>> (v3 &&& 31), M4)
set_option maxHeartbeats 4000000 in
set_option maxRecDepth 100000 in
theorem mt_J0_length_8abf5 (l : Launch) (E : KEnv) (this : Nat) (M M' : Mem) (v : Int32) (h : f_J0_length_8abf5 this M = some (v, M')) : Met l yJ0_length_8abf5 (Cond.code yJ0_length_8abf5 cJ0_length_8abf5 1 (some .int) :: lw_G) rm_J0_length_8abf5 (cPc E [.ref this] M) (cQ E (some (.int v)) M') 0 0 (eA E) := by
  refine Met.ofW (cc := cJ0_length_8abf5) (maxL := 1) (ret := (some .int)) (by decide) rfl ?_
  intro p e s m args below meth c s₁ B hml hv
  obtain ⟨rfl, hE, hM⟩ := hv
  have hx := B.exec
  have hb := B.bytes
  have hr := B.returns
  have hts0 := atoms_spec (ws := Cond.code yJ0_length_8abf5 cJ0_length_8abf5 1 (some .int) :: lw_G) B.pre
  have hts : ∀ w ∈ lw_G, w.before _ s = true := fun w hw => hts0 w (List.mem_cons_of_mem _ hw)
  have hown : s.vm.findClass RJ0 = some m.cls := findClass_of_methodNamed B.named
  have hlocks := B.notSynchronized
  have hC : CallFix p m c cJ0_length_8abf5 1 s _ lw_G RJ0 := ⟨hx, hb, hml, hown, hts⟩
  have hS : va_S (eA E) s.heap s.heap [] := va_S.rf
  have hl := lv_entry ([.ref this]) (n := 1) (Nat.le_of_ble_eq_true rfl)
  rw [lg_entry_eq]
  generalize (lg_sl ([.ref this]) ++ List.replicate (1 - (lg_sl ([.ref this])).length) Slot.unset).toArray = ls at hl ⊢
  have hl : lv_has ls 1 [(0, .ref this)] := hl
  unfold f_J0_length_8abf5 at h
  show W p l e rm_J0_length_8abf5 s m _ below meth c s.heap [] 0 0 _ _
  refine lv_aload_n hx hb dJ0_length_8abf5_0 rfl (lv_at hl 0 rfl) ?_
  obtain ⟨v1, h1, h⟩ := ob h
  refine rgn_5_0 hx hb hts hown hE hM qw_966 h1 dJ0_length_8abf5_1 ?_
  obtain ⟨v2, h1, h⟩ := ob h
  refine r_blen hx hb hE hM h1 dJ0_length_8abf5_4 ?_
  refine lv_aload_n hx hb dJ0_length_8abf5_5 rfl (lv_at hl 0 rfl) ?_
  obtain ⟨v3, M4, h1, h⟩ := ob2 h
  obtain ⟨hk1, h1⟩ := ifg h1
  refine kV1 (ci := 5) (As := []) (rest := [.int v2]) hC hE hS hM (mt_J0_coder_7d493 _ E this _ _ _ h1) (gwV qw_196 qw_197 qw_198 qw_44 qw_199) ⟨rfl, rfl, (Nat.le_of_ble_eq_true rfl), (Nat.le_of_ble_eq_true rfl)⟩ dd_J0_coder_7d493 rfl hk1 rfl rfl hl.1 (Nat.le_of_ble_eq_true rfl) dJ0_length_8abf5_6 ⟨(Nat.le_of_ble_eq_true rfl), (Nat.le_of_ble_eq_true rfl)⟩ (fun H locs hM hS => ?_)
  refine lv_ishr hx hb dJ0_length_8abf5_9 ?_
  cases h
  exact eI hx hb hr hlocks hM hS dJ0_length_8abf5_10 (Nat.le_of_ble_eq_true rfl) (Nat.le_of_ble_eq_true rfl)

abbrev rm_J0_isLatin1_aae02 : Room := ({ frames := 0, cells := 0, slots := 0, locals := 0 } : Room)
noncomputable def fj_J0_isLatin1_aae02_18 (s0 : Int32) (M : Mem) : Option (Int32 × Mem) :=
  (if s0 = 0 ∨ s0 = 1 then some (s0, M) else none)
set_option maxHeartbeats 4000000 in
set_option maxRecDepth 100000 in
theorem tj_J0_isLatin1_aae02_18 {p : Program} {l : Launch} {e : Env} {s : State} {m : MethodId} {args : Array Value} {below : List Frame} {meth : Method} {c : Code} {E : KEnv} {H : Heap} {locs : List Loc} {ls : Array Slot} {s0 : Int32} {M : Mem} {v : Int32} {M' : Mem} (hC : CallFix p m c cJ0_isLatin1_aae02 1 s args lw_G RJ0) (hr : meth.sig.returnType = (some .boolean)) (hlocks : meth.locks = false) (hE : EnvOK E s) (h : fj_J0_isLatin1_aae02_18 s0 M = some (v, M')) (hM : MOK E M H) (hS : va_S (eA E) s.heap H locs) (hl : lv_has ls 1 []) : W p l e rm_J0_isLatin1_aae02 s m args below meth c H locs 0 0 (MQ below (cQ E (some (.int v)) M') args s 0 0 (eA E)) (F0 m 18 ls [.int s0]) := by
  obtain ⟨hx, hb, hml, hown, hts⟩ := id hC
  unfold fj_J0_isLatin1_aae02_18 at h
  obtain ⟨h01, h⟩ := ifg h
  cases h
  exact eZ hx hb hr hlocks hM hS dJ0_isLatin1_aae02_18 (Nat.le_of_ble_eq_true rfl) (Nat.le_of_ble_eq_true rfl) h01
noncomputable def fj_J0_isLatin1_aae02_17  (M : Mem) : Option (Int32 × Mem) :=
  fj_J0_isLatin1_aae02_18 0 M
set_option maxHeartbeats 4000000 in
set_option maxRecDepth 100000 in
theorem tj_J0_isLatin1_aae02_17 {p : Program} {l : Launch} {e : Env} {s : State} {m : MethodId} {args : Array Value} {below : List Frame} {meth : Method} {c : Code} {E : KEnv} {H : Heap} {locs : List Loc} {ls : Array Slot}  {M : Mem} {v : Int32} {M' : Mem} (hC : CallFix p m c cJ0_isLatin1_aae02 1 s args lw_G RJ0) (hr : meth.sig.returnType = (some .boolean)) (hlocks : meth.locks = false) (hE : EnvOK E s) (h : fj_J0_isLatin1_aae02_17  M = some (v, M')) (hM : MOK E M H) (hS : va_S (eA E) s.heap H locs) (hl : lv_has ls 1 []) : W p l e rm_J0_isLatin1_aae02 s m args below meth c H locs 0 0 (MQ below (cQ E (some (.int v)) M') args s 0 0 (eA E)) (F0 m 17 ls []) := by
  obtain ⟨hx, hb, hml, hown, hts⟩ := id hC
  unfold fj_J0_isLatin1_aae02_17 at h
  refine lv_iconst (v := 0) hx hb dJ0_isLatin1_aae02_17 (by decide) ?_
  refine W.widen (k := 0) (n := 0) (Nat.le_of_ble_eq_true rfl) (Nat.le_of_ble_eq_true rfl) ?_
  exact tj_J0_isLatin1_aae02_18  hC hr hlocks hE  h hM hS (lv_sub hl [] rfl)
noncomputable def f_J0_isLatin1_aae02 (this : Nat) (M : Mem) : Option (Int32 × Mem) :=
  (gI 6 161 this M).bind fun v1 =>
  (if v1 = 0 then
  fj_J0_isLatin1_aae02_18 1 M
  else
  fj_J0_isLatin1_aae02_17 M)
set_option maxHeartbeats 4000000 in
set_option maxRecDepth 100000 in
theorem mt_J0_isLatin1_aae02 (l : Launch) (E : KEnv) (this : Nat) (M M' : Mem) (v : Int32) (h : f_J0_isLatin1_aae02 this M = some (v, M')) : Met l yJ0_isLatin1_aae02 (Cond.code yJ0_isLatin1_aae02 cJ0_isLatin1_aae02 1 (some .boolean) :: lw_G) rm_J0_isLatin1_aae02 (cPc E [.ref this] M) (cQ E (some (.int v)) M') 0 0 (eA E) := by
  refine Met.ofW (cc := cJ0_isLatin1_aae02) (maxL := 1) (ret := (some .boolean)) (by decide) rfl ?_
  intro p e s m args below meth c s₁ B hml hv
  obtain ⟨rfl, hE, hM⟩ := hv
  have hx := B.exec
  have hb := B.bytes
  have hr := B.returns
  have hts0 := atoms_spec (ws := Cond.code yJ0_isLatin1_aae02 cJ0_isLatin1_aae02 1 (some .boolean) :: lw_G) B.pre
  have hts : ∀ w ∈ lw_G, w.before _ s = true := fun w hw => hts0 w (List.mem_cons_of_mem _ hw)
  have hown : s.vm.findClass RJ0 = some m.cls := findClass_of_methodNamed B.named
  have hlocks := B.notSynchronized
  have hC : CallFix p m c cJ0_isLatin1_aae02 1 s _ lw_G RJ0 := ⟨hx, hb, hml, hown, hts⟩
  have hS : va_S (eA E) s.heap s.heap [] := va_S.rf
  have hl := lv_entry ([.ref this]) (n := 1) (Nat.le_of_ble_eq_true rfl)
  rw [lg_entry_eq]
  generalize (lg_sl ([.ref this]) ++ List.replicate (1 - (lg_sl ([.ref this])).length) Slot.unset).toArray = ls at hl ⊢
  have hl : lv_has ls 1 [(0, .ref this)] := hl
  unfold f_J0_isLatin1_aae02 at h
  show W p l e rm_J0_isLatin1_aae02 s m _ below meth c s.heap [] 0 0 _ _
  refine va_gets hx hb hE.2.2.2.2.2.1 hS hown (hts _ qw_155) (fun _ h9 => h9) dJ0_isLatin1_aae02_0 ?_
  refine lv_if_eq (tgt := 17) hx hb dJ0_isLatin1_aae02_3 (by decide) (fun c1 => ?_) (fun c1 => ?_)
  · exact absurd c1 (by decide)
  · refine lv_aload_n hx hb dJ0_isLatin1_aae02_6 rfl (lv_at hl 0 rfl) ?_
    obtain ⟨v1, h1, h⟩ := ob h
    refine rg_5_1 hx hb hts hown hE hM qw_967 h1 dJ0_isLatin1_aae02_7 ?_
    refine lv_if_ne (tgt := 17) hx hb dJ0_isLatin1_aae02_10 (by decide) (fun c1 => ?_) (fun c1 => ?_)
    · have h := ifn c1 h
      refine W.widen (k := 0) (n := 0) (Nat.le_of_ble_eq_true rfl) (Nat.le_of_ble_eq_true rfl) ?_
      exact tj_J0_isLatin1_aae02_17  hC hr hlocks hE  h hM hS (lv_sub hl [] rfl)
    · have h := ifp c1 h
      refine lv_iconst (v := 1) hx hb dJ0_isLatin1_aae02_13 (by decide) ?_
      refine lv_goto (tgt := 18) hx hb dJ0_isLatin1_aae02_14 (by decide) ?_
      refine W.widen (k := 0) (n := 0) (Nat.le_of_ble_eq_true rfl) (Nat.le_of_ble_eq_true rfl) ?_
      exact tj_J0_isLatin1_aae02_18  hC hr hlocks hE  h hM hS (lv_sub hl [] rfl)

theorem dd_J0_getBytes_840e7 : yJ0_getBytes_840e7.cls = RJ0 ∧ yJ0_getBytes_840e7.cls ≠ "java/lang/invoke/MethodHandle" ∧ yJ0_getBytes_840e7.cls ≠ "java/lang/invoke/VarHandle" ∧ (parseMethodDescriptor yJ0_getBytes_840e7.desc).map (fun d => d.parameters.length) = some 3 := by decide +kernel
abbrev rm_J0_getBytes_840e7 : Room := ({ frames := 1, cells := 0, slots := 0, locals := 60 } : Room)
noncomputable def fj_J0_getBytes_840e7_43  (M : Mem) : Option Mem :=
  some M
set_option maxHeartbeats 4000000 in
set_option maxRecDepth 100000 in
theorem tj_J0_getBytes_840e7_43 {p : Program} {l : Launch} {e : Env} {s : State} {m : MethodId} {args : Array Value} {below : List Frame} {meth : Method} {c : Code} {E : KEnv} {H : Heap} {locs : List Loc} {ls : Array Slot}  {M : Mem} {M' : Mem} (hC : CallFix p m c cJ0_getBytes_840e7 4 s args lw_G RJ0) (hr : meth.sig.returnType = none) (hlocks : meth.locks = false) (hE : EnvOK E s) (h : fj_J0_getBytes_840e7_43  M = some M') (hM : MOK E M H) (hS : va_S (eA E) s.heap H locs) (hl : lv_has ls 4 []) : W p l e rm_J0_getBytes_840e7 s m args below meth c H locs 0 0 (MQ below (cQ E none M') args s 0 0 (eA E)) (F0 m 43 ls []) := by
  obtain ⟨hx, hb, hml, hown, hts⟩ := id hC
  unfold fj_J0_getBytes_840e7_43 at h
  cases h
  exact eV_ hx hb hr hlocks hM hS dJ0_getBytes_840e7_43 (Nat.le_of_ble_eq_true rfl) (Nat.le_of_ble_eq_true rfl)
noncomputable def f_J0_getBytes_840e7 (this : Nat) (a1 : Nat) (a2 : Int32) (a3 : Int32) (M : Mem) : Option Mem :=
  bn (cK 6 this M (f_J0_coder_7d493 this M)) fun v1 M2 =>
  (if v1 = a3 then
  (gRn 6 160 this M2).bind fun v6 =>
  (gRn 6 160 this M2).bind fun v7 =>
  (gN 7 v7 M2).bind fun v8 =>
  (cpB v6 0 a1 (a2 <<< (a3 &&& 31)) v8 M2).bind fun M9 =>
  fj_J0_getBytes_840e7_43 M9
  else
  (gRn 6 160 this M2).bind fun v3 =>
  (gRn 6 160 this M2).bind fun v4 =>
  (gN 7 v4 M2).bind fun v5 =>
  none)
set_option maxHeartbeats 4000000 in
set_option maxRecDepth 100000 in
theorem mt_J0_getBytes_840e7 (l : Launch) (E : KEnv) (this : Nat) (a1 : Nat) (a2 : Int32) (a3 : Int32) (M M' : Mem) (h : f_J0_getBytes_840e7 this a1 a2 a3 M = some M') : Met l yJ0_getBytes_840e7 (Cond.code yJ0_getBytes_840e7 cJ0_getBytes_840e7 4 none :: lw_G) rm_J0_getBytes_840e7 (cPc E [.ref this, .ref a1, .int a2, .int a3] M) (cQ E none M') 0 0 (eA E) := by
  refine Met.ofW (cc := cJ0_getBytes_840e7) (maxL := 4) (ret := none) (by decide) rfl ?_
  intro p e s m args below meth c s₁ B hml hv
  obtain ⟨rfl, hE, hM⟩ := hv
  have hx := B.exec
  have hb := B.bytes
  have hr := B.returns
  have hts0 := atoms_spec (ws := Cond.code yJ0_getBytes_840e7 cJ0_getBytes_840e7 4 none :: lw_G) B.pre
  have hts : ∀ w ∈ lw_G, w.before _ s = true := fun w hw => hts0 w (List.mem_cons_of_mem _ hw)
  have hown : s.vm.findClass RJ0 = some m.cls := findClass_of_methodNamed B.named
  have hlocks := B.notSynchronized
  have hC : CallFix p m c cJ0_getBytes_840e7 4 s _ lw_G RJ0 := ⟨hx, hb, hml, hown, hts⟩
  have hS : va_S (eA E) s.heap s.heap [] := va_S.rf
  have hl := lv_entry ([.ref this, .ref a1, .int a2, .int a3]) (n := 4) (Nat.le_of_ble_eq_true rfl)
  rw [lg_entry_eq]
  generalize (lg_sl ([.ref this, .ref a1, .int a2, .int a3]) ++ List.replicate (4 - (lg_sl ([.ref this, .ref a1, .int a2, .int a3])).length) Slot.unset).toArray = ls at hl ⊢
  have hl : lv_has ls 4 [(0, .ref this), (1, .ref a1), (2, .int a2), (3, .int a3)] := hl
  unfold f_J0_getBytes_840e7 at h
  show W p l e rm_J0_getBytes_840e7 s m _ below meth c s.heap [] 0 0 _ _
  refine lv_aload_n hx hb dJ0_getBytes_840e7_0 rfl (lv_at hl 0 rfl) ?_
  obtain ⟨v1, M2, h1, h⟩ := ob2 h
  obtain ⟨hk1, h1⟩ := ifg h1
  refine kV1 (ci := 5) (As := []) (rest := []) hC hE hS hM (mt_J0_coder_7d493 _ E this _ _ _ h1) (gwV qw_196 qw_197 qw_198 qw_44 qw_199) ⟨rfl, rfl, (Nat.le_of_ble_eq_true rfl), (Nat.le_of_ble_eq_true rfl)⟩ dd_J0_coder_7d493 rfl hk1 rfl rfl hl.1 (Nat.le_of_ble_eq_true rfl) dJ0_getBytes_840e7_1 ⟨(Nat.le_of_ble_eq_true rfl), (Nat.le_of_ble_eq_true rfl)⟩ (fun H locs hM hS => ?_)
  refine lv_iload_n hx hb dJ0_getBytes_840e7_4 rfl (lv_at hl 3 rfl) ?_
  refine lv_icmp_ne (tgt := 28) hx hb dJ0_getBytes_840e7_5 (by decide) (fun c1 => ?_) (fun c1 => ?_)
  · have h := ifn c1 h
    refine lv_aload_n hx hb dJ0_getBytes_840e7_28 rfl (lv_at hl 0 rfl) ?_
    obtain ⟨v3, h1, h⟩ := ob h
    refine rgn_5_0 hx hb hts hown hE hM qw_966 h1 dJ0_getBytes_840e7_29 ?_
    refine lv_iconst (v := 0) hx hb dJ0_getBytes_840e7_32 (by decide) ?_
    refine lv_aload_n hx hb dJ0_getBytes_840e7_33 rfl (lv_at hl 1 rfl) ?_
    refine lv_iload_n hx hb dJ0_getBytes_840e7_34 rfl (lv_at hl 2 rfl) ?_
    refine lv_aload_n hx hb dJ0_getBytes_840e7_35 rfl (lv_at hl 0 rfl) ?_
    obtain ⟨v4, h1, h⟩ := ob h
    refine rgn_5_0 hx hb hts hown hE hM qw_966 h1 dJ0_getBytes_840e7_36 ?_
    obtain ⟨v5, h1, h⟩ := ob h
    refine r_blen hx hb hE hM h1 dJ0_getBytes_840e7_39 ?_
    cases h
  · have h := ifp c1 h
    refine lv_aload_n hx hb dJ0_getBytes_840e7_8 rfl (lv_at hl 0 rfl) ?_
    obtain ⟨v6, h1, h⟩ := ob h
    refine rgn_5_0 hx hb hts hown hE hM qw_966 h1 dJ0_getBytes_840e7_9 ?_
    refine lv_iconst (v := 0) hx hb dJ0_getBytes_840e7_12 (by decide) ?_
    refine lv_aload_n hx hb dJ0_getBytes_840e7_13 rfl (lv_at hl 1 rfl) ?_
    refine lv_iload_n hx hb dJ0_getBytes_840e7_14 rfl (lv_at hl 2 rfl) ?_
    refine lv_iload_n hx hb dJ0_getBytes_840e7_15 rfl (lv_at hl 3 rfl) ?_
    refine lv_ishl hx hb dJ0_getBytes_840e7_16 ?_
    refine lv_aload_n hx hb dJ0_getBytes_840e7_17 rfl (lv_at hl 0 rfl) ?_
    obtain ⟨v7, h1, h⟩ := ob h
    refine rgn_5_0 hx hb hts hown hE hM qw_966 h1 dJ0_getBytes_840e7_18 ?_
    obtain ⟨v8, h1, h⟩ := ob h
    refine r_blen hx hb hE hM h1 dJ0_getBytes_840e7_21 ?_
    obtain ⟨M9, h1, h⟩ := ob h
    refine r_copyB hx hb (hml.trans hl.1.symm) hts hown qw_851 qw_392 qw_391 qw_49 hE hM hS h1 (Nat.le_of_ble_eq_true rfl) (Nat.le_of_ble_eq_true rfl) dJ0_getBytes_840e7_22 (fun H locs hM hS => ?_)
    refine lv_goto (tgt := 43) hx hb dJ0_getBytes_840e7_25 (by decide) ?_
    refine W.widen (k := 0) (n := 0) (Nat.le_of_ble_eq_true rfl) (Nat.le_of_ble_eq_true rfl) ?_
    exact tj_J0_getBytes_840e7_43  hC hr hlocks hE  h hM hS (lv_sub hl [] rfl)

theorem dd_J0_getBytes_840e7_c : yJ0_getBytes_840e7.cls = RJ0 ∧ yJ0_getBytes_840e7.cls ≠ "java/lang/invoke/MethodHandle" ∧ yJ0_getBytes_840e7.cls ≠ "java/lang/invoke/VarHandle" ∧ (parseMethodDescriptor yJ0_getBytes_840e7.desc).map (fun d => d.parameters.length) = some 3 := by decide +kernel
abbrev rm_J0_getBytes_840e7_c : Room := ({ frames := 1, cells := 0, slots := 0, locals := 60 } : Room)
noncomputable def fj_J0_getBytes_840e7_c_43  (M : Mem) : Option Mem :=
  some M
set_option maxHeartbeats 4000000 in
set_option maxRecDepth 100000 in
theorem tj_J0_getBytes_840e7_c_43 {p : Program} {l : Launch} {e : Env} {s : State} {m : MethodId} {args : Array Value} {below : List Frame} {meth : Method} {c : Code} {E : KEnv} {H : Heap} {locs : List Loc} {ls : Array Slot}  {M : Mem} {M' : Mem} (hC : CallFix p m c cJ0_getBytes_840e7 4 s args lw_G RJ0) (hr : meth.sig.returnType = none) (hlocks : meth.locks = false) (hE : EnvOK E s) (h : fj_J0_getBytes_840e7_c_43  M = some M') (hM : MOK E M H) (hS : va_S (eA E) s.heap H locs) (hl : lv_has ls 4 []) : W p l e rm_J0_getBytes_840e7_c s m args below meth c H locs 0 0 (MQ below (cQ E none M') args s 0 0 (eA E)) (F0 m 43 ls []) := by
  obtain ⟨hx, hb, hml, hown, hts⟩ := id hC
  unfold fj_J0_getBytes_840e7_c_43 at h
  cases h
  exact eV_ hx hb hr hlocks hM hS dJ0_getBytes_840e7_43 (Nat.le_of_ble_eq_true rfl) (Nat.le_of_ble_eq_true rfl)
noncomputable def f_J0_getBytes_840e7_c (this : Nat) (a1 : Nat) (a2 : Int32) (a3 : Int32) (M : Mem) : Option Mem :=
  (gS this).bind fun _ =>
  (if (0 : Int32) = a3 then
  (gS this).bind fun _ =>
  (gS this).bind fun _ =>
  (jLen this).bind fun v4 =>
  (cpS this 0 a1 (a2 <<< (a3 &&& 31)) v4 M).bind fun M5 =>
  fj_J0_getBytes_840e7_c_43 M5
  else
  (gS this).bind fun _ =>
  (gS this).bind fun _ =>
  (jLen this).bind fun v3 =>
  none)
set_option maxHeartbeats 4000000 in
set_option maxRecDepth 100000 in
theorem mt_J0_getBytes_840e7_c (l : Launch) (E : KEnv) (this : Nat) (a1 : Nat) (a2 : Int32) (a3 : Int32) (M M' : Mem) (h : f_J0_getBytes_840e7_c this a1 a2 a3 M = some M') : Met l yJ0_getBytes_840e7 (Cond.code yJ0_getBytes_840e7 cJ0_getBytes_840e7 4 none :: lw_G) rm_J0_getBytes_840e7_c (cPc E [.ref (eS E this), .ref a1, .int a2, .int a3] M) (cQ E none M') 0 0 (eA E) := by
  refine Met.ofW (cc := cJ0_getBytes_840e7) (maxL := 4) (ret := none) (by decide) rfl ?_
  intro p e s m args below meth c s₁ B hml hv
  obtain ⟨rfl, hE, hM⟩ := hv
  have hx := B.exec
  have hb := B.bytes
  have hr := B.returns
  have hts0 := atoms_spec (ws := Cond.code yJ0_getBytes_840e7 cJ0_getBytes_840e7 4 none :: lw_G) B.pre
  have hts : ∀ w ∈ lw_G, w.before _ s = true := fun w hw => hts0 w (List.mem_cons_of_mem _ hw)
  have hown : s.vm.findClass RJ0 = some m.cls := findClass_of_methodNamed B.named
  have hlocks := B.notSynchronized
  have hC : CallFix p m c cJ0_getBytes_840e7 4 s _ lw_G RJ0 := ⟨hx, hb, hml, hown, hts⟩
  have hS : va_S (eA E) s.heap s.heap [] := va_S.rf
  have hl := lv_entry ([.ref (eS E this), .ref a1, .int a2, .int a3]) (n := 4) (Nat.le_of_ble_eq_true rfl)
  rw [lg_entry_eq]
  generalize (lg_sl ([.ref (eS E this), .ref a1, .int a2, .int a3]) ++ List.replicate (4 - (lg_sl ([.ref (eS E this), .ref a1, .int a2, .int a3])).length) Slot.unset).toArray = ls at hl ⊢
  have hl : lv_has ls 4 [(0, .ref (eS E this)), (1, .ref a1), (2, .int a2), (3, .int a3)] := hl
  unfold f_J0_getBytes_840e7_c at h
  show W p l e rm_J0_getBytes_840e7_c s m _ below meth c s.heap [] 0 0 _ _
  refine lv_aload_n hx hb dJ0_getBytes_840e7_0 rfl (lv_at hl 0 rfl) ?_
  obtain ⟨_, h1, h⟩ := ob h
  have hi9 := (ifs h1).1
  refine kJ (i := this) (As := []) (rest := []) hC hE hS hM hi9 (mt_J0_coder _ E this _ hi9) (gwV qw_196 qw_197 qw_198 qw_44 qw_199) ⟨rfl, rfl, (Nat.le_of_ble_eq_true rfl), (Nat.le_of_ble_eq_true rfl)⟩ dd_J0_coder_7d493 rfl rfl hl.1 (Nat.le_of_ble_eq_true rfl) dJ0_getBytes_840e7_1 ⟨(Nat.le_of_ble_eq_true rfl), (Nat.le_of_ble_eq_true rfl)⟩ (fun H locs hM hS => ?_)
  refine lv_iload_n hx hb dJ0_getBytes_840e7_4 rfl (lv_at hl 3 rfl) ?_
  refine lv_icmp_ne (tgt := 28) hx hb dJ0_getBytes_840e7_5 (by decide) (fun c1 => ?_) (fun c1 => ?_)
  · have h := ifn c1 h
    refine lv_aload_n hx hb dJ0_getBytes_840e7_28 rfl (lv_at hl 0 rfl) ?_
    obtain ⟨_, h1, h⟩ := ob h
    have hi9 := (ifs h1).1
    refine vk_getf hx hb (hE.2.1 _ hi9).2.2.1 hS hown (hts _ qw_966) (fun _ h9 => h9) dJ0_getBytes_840e7_29 ?_
    refine lv_iconst (v := 0) hx hb dJ0_getBytes_840e7_32 (by decide) ?_
    refine lv_aload_n hx hb dJ0_getBytes_840e7_33 rfl (lv_at hl 1 rfl) ?_
    refine lv_iload_n hx hb dJ0_getBytes_840e7_34 rfl (lv_at hl 2 rfl) ?_
    refine lv_aload_n hx hb dJ0_getBytes_840e7_35 rfl (lv_at hl 0 rfl) ?_
    obtain ⟨_, h1, h⟩ := ob h
    have hi9 := (ifs h1).1
    refine vk_getf hx hb (hE.2.1 _ hi9).2.2.1 hS hown (hts _ qw_966) (fun _ h9 => h9) dJ0_getBytes_840e7_36 ?_
    obtain ⟨v3, h1, h⟩ := ob h
    refine r_clen hx hb hE hS h1 dJ0_getBytes_840e7_39 ?_
    cases h
  · have h := ifp c1 h
    refine lv_aload_n hx hb dJ0_getBytes_840e7_8 rfl (lv_at hl 0 rfl) ?_
    obtain ⟨_, h1, h⟩ := ob h
    have hi9 := (ifs h1).1
    refine vk_getf hx hb (hE.2.1 _ hi9).2.2.1 hS hown (hts _ qw_966) (fun _ h9 => h9) dJ0_getBytes_840e7_9 ?_
    refine lv_iconst (v := 0) hx hb dJ0_getBytes_840e7_12 (by decide) ?_
    refine lv_aload_n hx hb dJ0_getBytes_840e7_13 rfl (lv_at hl 1 rfl) ?_
    refine lv_iload_n hx hb dJ0_getBytes_840e7_14 rfl (lv_at hl 2 rfl) ?_
    refine lv_iload_n hx hb dJ0_getBytes_840e7_15 rfl (lv_at hl 3 rfl) ?_
    refine lv_ishl hx hb dJ0_getBytes_840e7_16 ?_
    refine lv_aload_n hx hb dJ0_getBytes_840e7_17 rfl (lv_at hl 0 rfl) ?_
    obtain ⟨_, h1, h⟩ := ob h
    have hi9 := (ifs h1).1
    refine vk_getf hx hb (hE.2.1 _ hi9).2.2.1 hS hown (hts _ qw_966) (fun _ h9 => h9) dJ0_getBytes_840e7_18 ?_
    obtain ⟨v4, h1, h⟩ := ob h
    refine r_clen hx hb hE hS h1 dJ0_getBytes_840e7_21 ?_
    obtain ⟨M5, h1, h⟩ := ob h
    refine r_copyS hx hb (hml.trans hl.1.symm) hts hown qw_851 qw_392 qw_391 qw_49 hE hM hS h1 (Nat.le_of_ble_eq_true rfl) (Nat.le_of_ble_eq_true rfl) dJ0_getBytes_840e7_22 (fun H locs hM hS => ?_)
    refine lv_goto (tgt := 43) hx hb dJ0_getBytes_840e7_25 (by decide) ?_
    refine W.widen (k := 0) (n := 0) (Nat.le_of_ble_eq_true rfl) (Nat.le_of_ble_eq_true rfl) ?_
    exact tj_J0_getBytes_840e7_c_43  hC hr hlocks hE  h hM hS (lv_sub hl [] rfl)

abbrev rm_J1_charAt_3b067 : Room := ({ frames := 2, cells := 0, slots := 0, locals := 120 } : Room)
noncomputable def f_J1_charAt_3b067 (a1 : Nat) (a2 : Int32) (M : Mem) : Option (Int32 × Mem) :=
  (gN 7 a1 M).bind fun v1 =>
  (jChk a2 v1).bind fun _ =>
  (gA 7 a1 a2 M).bind fun v4 =>
  (if nar 8 (((v4 &&& 255).toUInt32 % 65536).toInt32) = (((v4 &&& 255).toUInt32 % 65536).toInt32) then some (((v4 &&& 255).toUInt32 % 65536).toInt32, M) else none)
set_option maxHeartbeats 4000000 in
set_option maxRecDepth 100000 in
theorem mt_J1_charAt_3b067 (l : Launch) (E : KEnv) (a1 : Nat) (a2 : Int32) (M M' : Mem) (v : Int32) (h : f_J1_charAt_3b067 a1 a2 M = some (v, M')) : Met l yJ1_charAt_3b067 (Cond.code yJ1_charAt_3b067 cJ1_charAt_3b067 2 (some .char) :: lw_G) rm_J1_charAt_3b067 (cPc E [.ref a1, .int a2] M) (cQ E (some (.int v)) M') 0 0 (eA E) := by
  refine Met.ofW (cc := cJ1_charAt_3b067) (maxL := 2) (ret := (some .char)) (by decide) rfl ?_
  intro p e s m args below meth c s₁ B hml hv
  obtain ⟨rfl, hE, hM⟩ := hv
  have hx := B.exec
  have hb := B.bytes
  have hr := B.returns
  have hts0 := atoms_spec (ws := Cond.code yJ1_charAt_3b067 cJ1_charAt_3b067 2 (some .char) :: lw_G) B.pre
  have hts : ∀ w ∈ lw_G, w.before _ s = true := fun w hw => hts0 w (List.mem_cons_of_mem _ hw)
  have hown : s.vm.findClass RJ1 = some m.cls := findClass_of_methodNamed B.named
  have hlocks := B.notSynchronized
  have hC : CallFix p m c cJ1_charAt_3b067 2 s _ lw_G RJ1 := ⟨hx, hb, hml, hown, hts⟩
  have hS : va_S (eA E) s.heap s.heap [] := va_S.rf
  have hl := lv_entry ([.ref a1, .int a2]) (n := 2) (Nat.le_of_ble_eq_true rfl)
  rw [lg_entry_eq]
  generalize (lg_sl ([.ref a1, .int a2]) ++ List.replicate (2 - (lg_sl ([.ref a1, .int a2])).length) Slot.unset).toArray = ls at hl ⊢
  have hl : lv_has ls 2 [(0, .ref a1), (1, .int a2)] := hl
  unfold f_J1_charAt_3b067 at h
  show W p l e rm_J1_charAt_3b067 s m _ below meth c s.heap [] 0 0 _ _
  refine lv_iload_n hx hb dJ1_charAt_3b067_0 rfl (lv_at hl 1 rfl) ?_
  refine lv_aload_n hx hb dJ1_charAt_3b067_1 rfl (lv_at hl 0 rfl) ?_
  obtain ⟨v1, h1, h⟩ := ob h
  refine r_blen hx hb hE hM h1 dJ1_charAt_3b067_2 ?_
  obtain ⟨_, h1, h⟩ := ob h
  obtain ⟨⟨c8, c9⟩, -⟩ := ifs h1
  refine kS0 (As := [.int a2, .int v1]) (rest := []) hC hE hS hM (mt_J0_check _ E a2 v1 _ c8 c9) (gwS qw_267 qw_268 qw_44 qw_269) ⟨rfl, rfl, (Nat.le_of_ble_eq_true rfl), (Nat.le_of_ble_eq_true rfl)⟩ dd_J0_checkIndex_df160 rfl rfl hl.1 (Nat.le_of_ble_eq_true rfl) dJ1_charAt_3b067_3 ⟨(Nat.le_of_ble_eq_true rfl), (Nat.le_of_ble_eq_true rfl)⟩ (fun H locs hM hS => ?_)
  refine lv_aload_n hx hb dJ1_charAt_3b067_6 rfl (lv_at hl 0 rfl) ?_
  refine lv_iload_n hx hb dJ1_charAt_3b067_7 rfl (lv_at hl 1 rfl) ?_
  obtain ⟨v4, h1, h⟩ := ob h
  refine r_bald hx hb hE hM h1 dJ1_charAt_3b067_8 ?_
  refine lv_sipush (v := 255) hx hb dJ1_charAt_3b067_9 (by decide) ?_
  refine lv_iand hx hb dJ1_charAt_3b067_12 ?_
  refine lv_i2c (v := ((v4 &&& 255).toUInt32 % 65536).toInt32) hx hb dJ1_charAt_3b067_13 rfl ?_
  obtain ⟨h01, h⟩ := ifg h
  cases h
  exact eC2 hx hb hr hlocks hM hS dJ1_charAt_3b067_14 (Nat.le_of_ble_eq_true rfl) (Nat.le_of_ble_eq_true rfl) h01

abbrev rm_J0_charAt_5068e : Room := ({ frames := 3, cells := 0, slots := 0, locals := 141 } : Room)
noncomputable def f_J0_charAt_5068e (this : Nat) (a1 : Int32) (M : Mem) : Option (Int32 × Mem) :=
  bn (cK 6 this M (f_J0_isLatin1_aae02 this M)) fun v1 M2 =>
  (if v1 = 0 then
  (gRn 6 160 this M2).bind fun v3 =>
  none
  else
  (gRn 6 160 this M2).bind fun v4 =>
  bn (f_J1_charAt_3b067 v4 a1 M2) fun v5 M6 =>
  (if nar 8 v5 = v5 then some (v5, M6) else none))
set_option maxHeartbeats 4000000 in
set_option maxRecDepth 100000 in
theorem mt_J0_charAt_5068e (l : Launch) (E : KEnv) (this : Nat) (a1 : Int32) (M M' : Mem) (v : Int32) (h : f_J0_charAt_5068e this a1 M = some (v, M')) : Met l yJ0_charAt_5068e (Cond.code yJ0_charAt_5068e cJ0_charAt_5068e 2 (some .char) :: lw_G) rm_J0_charAt_5068e (cPc E [.ref this, .int a1] M) (cQ E (some (.int v)) M') 0 0 (eA E) := by
  refine Met.ofW (cc := cJ0_charAt_5068e) (maxL := 2) (ret := (some .char)) (by decide) rfl ?_
  intro p e s m args below meth c s₁ B hml hv
  obtain ⟨rfl, hE, hM⟩ := hv
  have hx := B.exec
  have hb := B.bytes
  have hr := B.returns
  have hts0 := atoms_spec (ws := Cond.code yJ0_charAt_5068e cJ0_charAt_5068e 2 (some .char) :: lw_G) B.pre
  have hts : ∀ w ∈ lw_G, w.before _ s = true := fun w hw => hts0 w (List.mem_cons_of_mem _ hw)
  have hown : s.vm.findClass RJ0 = some m.cls := findClass_of_methodNamed B.named
  have hlocks := B.notSynchronized
  have hC : CallFix p m c cJ0_charAt_5068e 2 s _ lw_G RJ0 := ⟨hx, hb, hml, hown, hts⟩
  have hS : va_S (eA E) s.heap s.heap [] := va_S.rf
  have hl := lv_entry ([.ref this, .int a1]) (n := 2) (Nat.le_of_ble_eq_true rfl)
  rw [lg_entry_eq]
  generalize (lg_sl ([.ref this, .int a1]) ++ List.replicate (2 - (lg_sl ([.ref this, .int a1])).length) Slot.unset).toArray = ls at hl ⊢
  have hl : lv_has ls 2 [(0, .ref this), (1, .int a1)] := hl
  unfold f_J0_charAt_5068e at h
  show W p l e rm_J0_charAt_5068e s m _ below meth c s.heap [] 0 0 _ _
  refine lv_aload_n hx hb dJ0_charAt_5068e_0 rfl (lv_at hl 0 rfl) ?_
  obtain ⟨v1, M2, h1, h⟩ := ob2 h
  obtain ⟨hk1, h1⟩ := ifg h1
  refine kV1 (ci := 5) (As := []) (rest := []) hC hE hS hM (mt_J0_isLatin1_aae02 _ E this _ _ _ h1) (gwV qw_151 qw_152 qw_153 qw_44 qw_154) ⟨rfl, rfl, (Nat.le_of_ble_eq_true rfl), (Nat.le_of_ble_eq_true rfl)⟩ dd_J0_isLatin1_aae02 rfl hk1 rfl rfl hl.1 (Nat.le_of_ble_eq_true rfl) dJ0_charAt_5068e_1 ⟨(Nat.le_of_ble_eq_true rfl), (Nat.le_of_ble_eq_true rfl)⟩ (fun H locs hM hS => ?_)
  refine lv_if_eq (tgt := 16) hx hb dJ0_charAt_5068e_4 (by decide) (fun c1 => ?_) (fun c1 => ?_)
  · have h := ifp c1 h
    refine lv_aload_n hx hb dJ0_charAt_5068e_16 rfl (lv_at hl 0 rfl) ?_
    obtain ⟨v3, h1, h⟩ := ob h
    refine rgn_5_0 hx hb hts hown hE hM qw_966 h1 dJ0_charAt_5068e_17 ?_
    refine lv_iload_n hx hb dJ0_charAt_5068e_20 rfl (lv_at hl 1 rfl) ?_
    cases h
  · have h := ifn c1 h
    refine lv_aload_n hx hb dJ0_charAt_5068e_7 rfl (lv_at hl 0 rfl) ?_
    obtain ⟨v4, h1, h⟩ := ob h
    refine rgn_5_0 hx hb hts hown hE hM qw_966 h1 dJ0_charAt_5068e_8 ?_
    refine lv_iload_n hx hb dJ0_charAt_5068e_11 rfl (lv_at hl 1 rfl) ?_
    obtain ⟨v5, M6, h1, h⟩ := ob2 h
    refine kS1 (As := [.ref v4, .int a1]) (rest := []) hC hE hS hM (mt_J1_charAt_3b067 _ E v4 a1 _ _ _ h1) (gwS qw_264 qw_265 qw_45 qw_266) ⟨rfl, rfl, (Nat.le_of_ble_eq_true rfl), (Nat.le_of_ble_eq_true rfl)⟩ dd_J1_charAt_3b067 rfl rfl hl.1 (Nat.le_of_ble_eq_true rfl) dJ0_charAt_5068e_12 ⟨(Nat.le_of_ble_eq_true rfl), (Nat.le_of_ble_eq_true rfl)⟩ (fun H locs hM hS => ?_)
    obtain ⟨h01, h⟩ := ifg h
    cases h
    exact eC2 hx hb hr hlocks hM hS dJ0_charAt_5068e_15 (Nat.le_of_ble_eq_true rfl) (Nat.le_of_ble_eq_true rfl) h01

theorem dd_J5_isLatin1_aae02 : yJ5_isLatin1_aae02.cls = RJ5 ∧ yJ5_isLatin1_aae02.cls ≠ "java/lang/invoke/MethodHandle" ∧ yJ5_isLatin1_aae02.cls ≠ "java/lang/invoke/VarHandle" ∧ (parseMethodDescriptor yJ5_isLatin1_aae02.desc).map (fun d => d.parameters.length) = some 0 := by decide +kernel
theorem du_J5_isLatin1_aae02 : yJ5_isLatin1_aae02.name ≠ "<init>" ∧ (parseMethodDescriptor yJ5_isLatin1_aae02.desc).map (fun d => d.parameters.length) = some 0 := by decide +kernel
theorem du2_J5_isLatin1_aae02 : "java/lang/AbstractStringBuilder" ≠ "java/lang/invoke/MethodHandle" ∧ "java/lang/AbstractStringBuilder" ≠ "java/lang/invoke/VarHandle" ∧ (parseMethodDescriptor yJ5_isLatin1_aae02.desc).map (fun d => d.parameters.length) = some 0 := by decide +kernel
abbrev rm_J5_isLatin1_aae02 : Room := ({ frames := 0, cells := 0, slots := 0, locals := 0 } : Room)
noncomputable def fj_J5_isLatin1_aae02_18 (s0 : Int32) (M : Mem) : Option (Int32 × Mem) :=
  (if s0 = 0 ∨ s0 = 1 then some (s0, M) else none)
set_option maxHeartbeats 4000000 in
set_option maxRecDepth 100000 in
theorem tj_J5_isLatin1_aae02_18 {p : Program} {l : Launch} {e : Env} {s : State} {m : MethodId} {args : Array Value} {below : List Frame} {meth : Method} {c : Code} {E : KEnv} {H : Heap} {locs : List Loc} {ls : Array Slot} {s0 : Int32} {M : Mem} {v : Int32} {M' : Mem} (hC : CallFix p m c cJ5_isLatin1_aae02 1 s args lw_G RJ5) (hr : meth.sig.returnType = (some .boolean)) (hlocks : meth.locks = false) (hE : EnvOK E s) (h : fj_J5_isLatin1_aae02_18 s0 M = some (v, M')) (hM : MOK E M H) (hS : va_S (eA E) s.heap H locs) (hl : lv_has ls 1 []) : W p l e rm_J5_isLatin1_aae02 s m args below meth c H locs 0 0 (MQ below (cQ E (some (.int v)) M') args s 0 0 (eA E)) (F0 m 18 ls [.int s0]) := by
  obtain ⟨hx, hb, hml, hown, hts⟩ := id hC
  unfold fj_J5_isLatin1_aae02_18 at h
  obtain ⟨h01, h⟩ := ifg h
  cases h
  exact eZ hx hb hr hlocks hM hS dJ5_isLatin1_aae02_18 (Nat.le_of_ble_eq_true rfl) (Nat.le_of_ble_eq_true rfl) h01
noncomputable def fj_J5_isLatin1_aae02_17  (M : Mem) : Option (Int32 × Mem) :=
  fj_J5_isLatin1_aae02_18 0 M
set_option maxHeartbeats 4000000 in
set_option maxRecDepth 100000 in
theorem tj_J5_isLatin1_aae02_17 {p : Program} {l : Launch} {e : Env} {s : State} {m : MethodId} {args : Array Value} {below : List Frame} {meth : Method} {c : Code} {E : KEnv} {H : Heap} {locs : List Loc} {ls : Array Slot}  {M : Mem} {v : Int32} {M' : Mem} (hC : CallFix p m c cJ5_isLatin1_aae02 1 s args lw_G RJ5) (hr : meth.sig.returnType = (some .boolean)) (hlocks : meth.locks = false) (hE : EnvOK E s) (h : fj_J5_isLatin1_aae02_17  M = some (v, M')) (hM : MOK E M H) (hS : va_S (eA E) s.heap H locs) (hl : lv_has ls 1 []) : W p l e rm_J5_isLatin1_aae02 s m args below meth c H locs 0 0 (MQ below (cQ E (some (.int v)) M') args s 0 0 (eA E)) (F0 m 17 ls []) := by
  obtain ⟨hx, hb, hml, hown, hts⟩ := id hC
  unfold fj_J5_isLatin1_aae02_17 at h
  refine lv_iconst (v := 0) hx hb dJ5_isLatin1_aae02_17 (by decide) ?_
  refine W.widen (k := 0) (n := 0) (Nat.le_of_ble_eq_true rfl) (Nat.le_of_ble_eq_true rfl) ?_
  exact tj_J5_isLatin1_aae02_18  hC hr hlocks hE  h hM hS (lv_sub hl [] rfl)
noncomputable def f_J5_isLatin1_aae02 (this : Nat) (M : Mem) : Option (Int32 × Mem) :=
  (gI 12 193 this M).bind fun v1 =>
  (if v1 = 0 then
  fj_J5_isLatin1_aae02_18 1 M
  else
  fj_J5_isLatin1_aae02_17 M)
set_option maxHeartbeats 4000000 in
set_option maxRecDepth 100000 in
theorem mt_J5_isLatin1_aae02 (l : Launch) (E : KEnv) (this : Nat) (M M' : Mem) (v : Int32) (h : f_J5_isLatin1_aae02 this M = some (v, M')) : Met l yJ5_isLatin1_aae02 (Cond.code yJ5_isLatin1_aae02 cJ5_isLatin1_aae02 1 (some .boolean) :: lw_G) rm_J5_isLatin1_aae02 (cPc E [.ref this] M) (cQ E (some (.int v)) M') 0 0 (eA E) := by
  refine Met.ofW (cc := cJ5_isLatin1_aae02) (maxL := 1) (ret := (some .boolean)) (by decide) rfl ?_
  intro p e s m args below meth c s₁ B hml hv
  obtain ⟨rfl, hE, hM⟩ := hv
  have hx := B.exec
  have hb := B.bytes
  have hr := B.returns
  have hts0 := atoms_spec (ws := Cond.code yJ5_isLatin1_aae02 cJ5_isLatin1_aae02 1 (some .boolean) :: lw_G) B.pre
  have hts : ∀ w ∈ lw_G, w.before _ s = true := fun w hw => hts0 w (List.mem_cons_of_mem _ hw)
  have hown : s.vm.findClass RJ5 = some m.cls := findClass_of_methodNamed B.named
  have hlocks := B.notSynchronized
  have hC : CallFix p m c cJ5_isLatin1_aae02 1 s _ lw_G RJ5 := ⟨hx, hb, hml, hown, hts⟩
  have hS : va_S (eA E) s.heap s.heap [] := va_S.rf
  have hl := lv_entry ([.ref this]) (n := 1) (Nat.le_of_ble_eq_true rfl)
  rw [lg_entry_eq]
  generalize (lg_sl ([.ref this]) ++ List.replicate (1 - (lg_sl ([.ref this])).length) Slot.unset).toArray = ls at hl ⊢
  have hl : lv_has ls 1 [(0, .ref this)] := hl
  unfold f_J5_isLatin1_aae02 at h
  show W p l e rm_J5_isLatin1_aae02 s m _ below meth c s.heap [] 0 0 _ _
  refine va_gets hx hb hE.2.2.2.2.2.1 hS hown (hts _ qw_813) (fun _ h9 => h9) dJ5_isLatin1_aae02_0 ?_
  refine lv_if_eq (tgt := 17) hx hb dJ5_isLatin1_aae02_3 (by decide) (fun c1 => ?_) (fun c1 => ?_)
  · exact absurd c1 (by decide)
  · refine lv_aload_n hx hb dJ5_isLatin1_aae02_6 rfl (lv_at hl 0 rfl) ?_
    obtain ⟨v1, h1, h⟩ := ob h
    refine rg_6_1 hx hb hts hown hE hM qw_854 h1 dJ5_isLatin1_aae02_7 ?_
    refine lv_if_ne (tgt := 17) hx hb dJ5_isLatin1_aae02_10 (by decide) (fun c1 => ?_) (fun c1 => ?_)
    · have h := ifn c1 h
      refine W.widen (k := 0) (n := 0) (Nat.le_of_ble_eq_true rfl) (Nat.le_of_ble_eq_true rfl) ?_
      exact tj_J5_isLatin1_aae02_17  hC hr hlocks hE  h hM hS (lv_sub hl [] rfl)
    · have h := ifp c1 h
      refine lv_iconst (v := 1) hx hb dJ5_isLatin1_aae02_13 (by decide) ?_
      refine lv_goto (tgt := 18) hx hb dJ5_isLatin1_aae02_14 (by decide) ?_
      refine W.widen (k := 0) (n := 0) (Nat.le_of_ble_eq_true rfl) (Nat.le_of_ble_eq_true rfl) ?_
      exact tj_J5_isLatin1_aae02_18  hC hr hlocks hE  h hM hS (lv_sub hl [] rfl)

theorem dd_J5_getValue_6d5f1 : yJ5_getValue_6d5f1.cls = RJ5 ∧ yJ5_getValue_6d5f1.cls ≠ "java/lang/invoke/MethodHandle" ∧ yJ5_getValue_6d5f1.cls ≠ "java/lang/invoke/VarHandle" ∧ (parseMethodDescriptor yJ5_getValue_6d5f1.desc).map (fun d => d.parameters.length) = some 0 := by decide +kernel
theorem du_J5_getValue_6d5f1 : yJ5_getValue_6d5f1.name ≠ "<init>" ∧ (parseMethodDescriptor yJ5_getValue_6d5f1.desc).map (fun d => d.parameters.length) = some 0 := by decide +kernel
theorem du2_J5_getValue_6d5f1 : "java/lang/AbstractStringBuilder" ≠ "java/lang/invoke/MethodHandle" ∧ "java/lang/AbstractStringBuilder" ≠ "java/lang/invoke/VarHandle" ∧ (parseMethodDescriptor yJ5_getValue_6d5f1.desc).map (fun d => d.parameters.length) = some 0 := by decide +kernel
abbrev rm_J5_getValue_6d5f1 : Room := ({ frames := 0, cells := 0, slots := 0, locals := 0 } : Room)
noncomputable def f_J5_getValue_6d5f1 (this : Nat) (M : Mem) : Option (Nat × Mem) :=
  (gRn 12 192 this M).bind fun v1 =>
  some (v1, M)
set_option maxHeartbeats 4000000 in
set_option maxRecDepth 100000 in
theorem mt_J5_getValue_6d5f1 (l : Launch) (E : KEnv) (this : Nat) (M M' : Mem) (v : Nat) (h : f_J5_getValue_6d5f1 this M = some (v, M')) : Met l yJ5_getValue_6d5f1 (Cond.code yJ5_getValue_6d5f1 cJ5_getValue_6d5f1 1 (some (.array .byte)) :: lw_G) rm_J5_getValue_6d5f1 (cPc E [.ref this] M) (cQ E (some (.ref v)) M') 0 0 (eA E) := by
  refine Met.ofW (cc := cJ5_getValue_6d5f1) (maxL := 1) (ret := (some (.array .byte))) (by decide) rfl ?_
  intro p e s m args below meth c s₁ B hml hv
  obtain ⟨rfl, hE, hM⟩ := hv
  have hx := B.exec
  have hb := B.bytes
  have hr := B.returns
  have hts0 := atoms_spec (ws := Cond.code yJ5_getValue_6d5f1 cJ5_getValue_6d5f1 1 (some (.array .byte)) :: lw_G) B.pre
  have hts : ∀ w ∈ lw_G, w.before _ s = true := fun w hw => hts0 w (List.mem_cons_of_mem _ hw)
  have hown : s.vm.findClass RJ5 = some m.cls := findClass_of_methodNamed B.named
  have hlocks := B.notSynchronized
  have hC : CallFix p m c cJ5_getValue_6d5f1 1 s _ lw_G RJ5 := ⟨hx, hb, hml, hown, hts⟩
  have hS : va_S (eA E) s.heap s.heap [] := va_S.rf
  have hl := lv_entry ([.ref this]) (n := 1) (Nat.le_of_ble_eq_true rfl)
  rw [lg_entry_eq]
  generalize (lg_sl ([.ref this]) ++ List.replicate (1 - (lg_sl ([.ref this])).length) Slot.unset).toArray = ls at hl ⊢
  have hl : lv_has ls 1 [(0, .ref this)] := hl
  unfold f_J5_getValue_6d5f1 at h
  show W p l e rm_J5_getValue_6d5f1 s m _ below meth c s.heap [] 0 0 _ _
  refine lv_aload_n hx hb dJ5_getValue_6d5f1_0 rfl (lv_at hl 0 rfl) ?_
  obtain ⟨v1, h1, h⟩ := ob h
  refine rgn_6_0 hx hb hts hown hE hM qw_853 h1 dJ5_getValue_6d5f1_1 ?_
  cases h
  exact eR hx hb hr (by first | exact Or.inl ⟨_, rfl⟩ | exact Or.inr ⟨_, rfl⟩) hlocks hM hS dJ5_getValue_6d5f1_4 (Nat.le_of_ble_eq_true rfl) (Nat.le_of_ble_eq_true rfl)

theorem dd_J5_length_8abf5 : yJ5_length_8abf5.cls = RJ5 ∧ yJ5_length_8abf5.cls ≠ "java/lang/invoke/MethodHandle" ∧ yJ5_length_8abf5.cls ≠ "java/lang/invoke/VarHandle" ∧ (parseMethodDescriptor yJ5_length_8abf5.desc).map (fun d => d.parameters.length) = some 0 := by decide +kernel
theorem du_J5_length_8abf5 : yJ5_length_8abf5.name ≠ "<init>" ∧ (parseMethodDescriptor yJ5_length_8abf5.desc).map (fun d => d.parameters.length) = some 0 := by decide +kernel
theorem du2_J5_length_8abf5 : "java/lang/AbstractStringBuilder" ≠ "java/lang/invoke/MethodHandle" ∧ "java/lang/AbstractStringBuilder" ≠ "java/lang/invoke/VarHandle" ∧ (parseMethodDescriptor yJ5_length_8abf5.desc).map (fun d => d.parameters.length) = some 0 := by decide +kernel
abbrev rm_J5_length_8abf5 : Room := ({ frames := 0, cells := 0, slots := 0, locals := 0 } : Room)
noncomputable def f_J5_length_8abf5 (this : Nat) (M : Mem) : Option (Int32 × Mem) :=
  (gI 12 195 this M).bind fun v1 =>
  some (v1, M)
set_option maxHeartbeats 4000000 in
set_option maxRecDepth 100000 in
theorem mt_J5_length_8abf5 (l : Launch) (E : KEnv) (this : Nat) (M M' : Mem) (v : Int32) (h : f_J5_length_8abf5 this M = some (v, M')) : Met l yJ5_length_8abf5 (Cond.code yJ5_length_8abf5 cJ5_length_8abf5 1 (some .int) :: lw_G) rm_J5_length_8abf5 (cPc E [.ref this] M) (cQ E (some (.int v)) M') 0 0 (eA E) := by
  refine Met.ofW (cc := cJ5_length_8abf5) (maxL := 1) (ret := (some .int)) (by decide) rfl ?_
  intro p e s m args below meth c s₁ B hml hv
  obtain ⟨rfl, hE, hM⟩ := hv
  have hx := B.exec
  have hb := B.bytes
  have hr := B.returns
  have hts0 := atoms_spec (ws := Cond.code yJ5_length_8abf5 cJ5_length_8abf5 1 (some .int) :: lw_G) B.pre
  have hts : ∀ w ∈ lw_G, w.before _ s = true := fun w hw => hts0 w (List.mem_cons_of_mem _ hw)
  have hown : s.vm.findClass RJ5 = some m.cls := findClass_of_methodNamed B.named
  have hlocks := B.notSynchronized
  have hC : CallFix p m c cJ5_length_8abf5 1 s _ lw_G RJ5 := ⟨hx, hb, hml, hown, hts⟩
  have hS : va_S (eA E) s.heap s.heap [] := va_S.rf
  have hl := lv_entry ([.ref this]) (n := 1) (Nat.le_of_ble_eq_true rfl)
  rw [lg_entry_eq]
  generalize (lg_sl ([.ref this]) ++ List.replicate (1 - (lg_sl ([.ref this])).length) Slot.unset).toArray = ls at hl ⊢
  have hl : lv_has ls 1 [(0, .ref this)] := hl
  unfold f_J5_length_8abf5 at h
  show W p l e rm_J5_length_8abf5 s m _ below meth c s.heap [] 0 0 _ _
  refine lv_aload_n hx hb dJ5_length_8abf5_0 rfl (lv_at hl 0 rfl) ?_
  obtain ⟨v1, h1, h⟩ := ob h
  refine rg_6_3 hx hb hts hown hE hM qw_856 h1 dJ5_length_8abf5_1 ?_
  cases h
  exact eI hx hb hr hlocks hM hS dJ5_length_8abf5_4 (Nat.le_of_ble_eq_true rfl) (Nat.le_of_ble_eq_true rfl)

theorem dd_J4_length_8abf5 : yJ4_length_8abf5.cls = RJ4 ∧ yJ4_length_8abf5.cls ≠ "java/lang/invoke/MethodHandle" ∧ yJ4_length_8abf5.cls ≠ "java/lang/invoke/VarHandle" ∧ (parseMethodDescriptor yJ4_length_8abf5.desc).map (fun d => d.parameters.length) = some 0 := by decide +kernel
theorem du_J4_length_8abf5 : yJ4_length_8abf5.name ≠ "<init>" ∧ (parseMethodDescriptor yJ4_length_8abf5.desc).map (fun d => d.parameters.length) = some 0 := by decide +kernel
theorem du2_J4_length_8abf5 : "java/lang/AbstractStringBuilder" ≠ "java/lang/invoke/MethodHandle" ∧ "java/lang/AbstractStringBuilder" ≠ "java/lang/invoke/VarHandle" ∧ (parseMethodDescriptor yJ4_length_8abf5.desc).map (fun d => d.parameters.length) = some 0 := by decide +kernel
abbrev rm_J4_length_8abf5 : Room := ({ frames := 1, cells := 0, slots := 0, locals := 20 } : Room)
noncomputable def f_J4_length_8abf5 (this : Nat) (M : Mem) : Option (Int32 × Mem) :=
  bn (cK 12 this M (f_J5_length_8abf5 this M)) fun v1 M2 =>
  some (v1, M2)
set_option maxHeartbeats 4000000 in
set_option maxRecDepth 100000 in
theorem mt_J4_length_8abf5 (l : Launch) (E : KEnv) (this : Nat) (M M' : Mem) (v : Int32) (h : f_J4_length_8abf5 this M = some (v, M')) : Met l yJ4_length_8abf5 (Cond.code yJ4_length_8abf5 cJ4_length_8abf5 1 (some .int) :: lw_G) rm_J4_length_8abf5 (cPc E [.ref this] M) (cQ E (some (.int v)) M') 0 0 (eA E) := by
  refine Met.ofW (cc := cJ4_length_8abf5) (maxL := 1) (ret := (some .int)) (by decide) rfl ?_
  intro p e s m args below meth c s₁ B hml hv
  obtain ⟨rfl, hE, hM⟩ := hv
  have hx := B.exec
  have hb := B.bytes
  have hr := B.returns
  have hts0 := atoms_spec (ws := Cond.code yJ4_length_8abf5 cJ4_length_8abf5 1 (some .int) :: lw_G) B.pre
  have hts : ∀ w ∈ lw_G, w.before _ s = true := fun w hw => hts0 w (List.mem_cons_of_mem _ hw)
  have hown : s.vm.findClass RJ4 = some m.cls := findClass_of_methodNamed B.named
  have hlocks := B.notSynchronized
  have hC : CallFix p m c cJ4_length_8abf5 1 s _ lw_G RJ4 := ⟨hx, hb, hml, hown, hts⟩
  have hS : va_S (eA E) s.heap s.heap [] := va_S.rf
  have hl := lv_entry ([.ref this]) (n := 1) (Nat.le_of_ble_eq_true rfl)
  rw [lg_entry_eq]
  generalize (lg_sl ([.ref this]) ++ List.replicate (1 - (lg_sl ([.ref this])).length) Slot.unset).toArray = ls at hl ⊢
  have hl : lv_has ls 1 [(0, .ref this)] := hl
  unfold f_J4_length_8abf5 at h
  show W p l e rm_J4_length_8abf5 s m _ below meth c s.heap [] 0 0 _ _
  refine lv_aload_n hx hb dJ4_length_8abf5_0 rfl (lv_at hl 0 rfl) ?_
  obtain ⟨v1, M2, h1, h⟩ := ob2 h
  obtain ⟨hk1, h1⟩ := ifg h1
  refine kSU1 (As := []) (rest := []) hC hE hS hM (mt_J5_length_8abf5 _ E this _ _ _ h1) (gwSU qw_936 qw_932 qw_774 qw_931_1 qw_50 qw_937) ⟨rfl, rfl, (Nat.le_of_ble_eq_true rfl), (Nat.le_of_ble_eq_true rfl)⟩ du_J5_length_8abf5 rfl hk1 rfl hl.1 (Nat.le_of_ble_eq_true rfl) dJ4_length_8abf5_1 ⟨(Nat.le_of_ble_eq_true rfl), (Nat.le_of_ble_eq_true rfl)⟩ (fun H locs hM hS => ?_)
  cases h
  exact eI hx hb hr hlocks hM hS dJ4_length_8abf5_4 (Nat.le_of_ble_eq_true rfl) (Nat.le_of_ble_eq_true rfl)

theorem dd_J5_init_d00df : yJ5_init_d00df.cls = RJ5 ∧ yJ5_init_d00df.cls ≠ "java/lang/invoke/MethodHandle" ∧ yJ5_init_d00df.cls ≠ "java/lang/invoke/VarHandle" ∧ (parseMethodDescriptor yJ5_init_d00df.desc).map (fun d => d.parameters.length) = some 1 := by decide +kernel
theorem du2_J5_init_d00df : "java/lang/AbstractStringBuilder" ≠ "java/lang/invoke/MethodHandle" ∧ "java/lang/AbstractStringBuilder" ≠ "java/lang/invoke/VarHandle" ∧ (parseMethodDescriptor yJ5_init_d00df.desc).map (fun d => d.parameters.length) = some 1 := by decide +kernel
abbrev rm_J5_init_d00df : Room := ({ frames := 1, cells := 1, slots := 512, locals := 24 } : Room)
noncomputable def fj_J5_init_d00df_38  (M : Mem) : Option Mem :=
  some M
set_option maxHeartbeats 4000000 in
set_option maxRecDepth 100000 in
theorem tj_J5_init_d00df_38 {p : Program} {l : Launch} {e : Env} {s : State} {m : MethodId} {args : Array Value} {below : List Frame} {meth : Method} {c : Code} {E : KEnv} {H : Heap} {locs : List Loc} {ls : Array Slot}  {M : Mem} {M' : Mem} (hC : CallFix p m c cJ5_init_d00df 2 s args lw_G RJ5) (hr : meth.sig.returnType = none) (hlocks : meth.locks = false) (hE : EnvOK E s) (hin : meth.name = "<init>") (h : fj_J5_init_d00df_38  M = some M') (hM : MOK E M H) (hS : va_S (eA E) s.heap H locs) (hl : lv_has ls 2 []) : W p l e rm_J5_init_d00df s m args below meth c H locs 1 512 (MQ below (cQ E none M') args s 1 512 (eA E)) (F0 m 38 ls []) := by
  obtain ⟨hx, hb, hml, hown, hts⟩ := id hC
  unfold fj_J5_init_d00df_38 at h
  cases h
  exact eV_ hx hb hr hlocks hM hS dJ5_init_d00df_38 (Nat.le_of_ble_eq_true rfl) (Nat.le_of_ble_eq_true rfl)
noncomputable def f_J5_init_d00df (this : Nat) (a1 : Int32) (M : Mem) : Option Mem :=
  bnewb a1 M fun v1 M2 =>
  (sR 12 192 this (some v1) M2).bind fun M3 =>
  (sI 12 193 this 0 M3).bind fun M4 =>
  fj_J5_init_d00df_38 M4
set_option maxHeartbeats 4000000 in
set_option maxRecDepth 100000 in
theorem mt_J5_init_d00df (l : Launch) (E : KEnv) (this : Nat) (a1 : Int32) (M M' : Mem) (h : f_J5_init_d00df this a1 M = some M') : Met l yJ5_init_d00df (Cond.code yJ5_init_d00df cJ5_init_d00df 2 none :: lw_G) rm_J5_init_d00df (cPc E [.ref this, .int a1] M) (cQ E none M') 1 512 (eA E) := by
  refine Met.ofW (cc := cJ5_init_d00df) (maxL := 2) (ret := none) (by decide) rfl ?_
  intro p e s m args below meth c s₁ B hml hv
  obtain ⟨rfl, hE, hM⟩ := hv
  have hx := B.exec
  have hb := B.bytes
  have hr := B.returns
  have hts0 := atoms_spec (ws := Cond.code yJ5_init_d00df cJ5_init_d00df 2 none :: lw_G) B.pre
  have hts : ∀ w ∈ lw_G, w.before _ s = true := fun w hw => hts0 w (List.mem_cons_of_mem _ hw)
  have hown : s.vm.findClass RJ5 = some m.cls := findClass_of_methodNamed B.named
  have hlocks := B.notSynchronized
  have hin : meth.name = "<init>" := (name_of_methodNamed B.named B.method).1
  have hC : CallFix p m c cJ5_init_d00df 2 s _ lw_G RJ5 := ⟨hx, hb, hml, hown, hts⟩
  have hS : va_S (eA E) s.heap s.heap [] := va_S.rf
  have hl := lv_entry ([.ref this, .int a1]) (n := 2) (Nat.le_of_ble_eq_true rfl)
  rw [lg_entry_eq]
  generalize (lg_sl ([.ref this, .int a1]) ++ List.replicate (2 - (lg_sl ([.ref this, .int a1])).length) Slot.unset).toArray = ls at hl ⊢
  have hl : lv_has ls 2 [(0, .ref this), (1, .int a1)] := hl
  unfold f_J5_init_d00df at h
  show W p l e rm_J5_init_d00df s m _ below meth c s.heap [] 0 0 _ _
  refine lv_aload_n hx hb dJ5_init_d00df_0 rfl (lv_at hl 0 rfl) ?_
  refine oInit hx hb hown (hts _ qw_751) (hts _ qw_67) (hts _ qw_68) (hl.1.trans hml.symm) dJ5_init_d00df_1 (Nat.le_of_ble_eq_true rfl) (Nat.le_of_ble_eq_true rfl) ?_
  refine va_gets hx hb hE.2.2.2.2.2.1 hS hown (hts _ qw_813) (fun _ h9 => h9) dJ5_init_d00df_4 ?_
  refine lv_if_eq (tgt := 25) hx hb dJ5_init_d00df_7 (by decide) (fun c1 => ?_) (fun c1 => ?_)
  · exact absurd c1 (by decide)
  · refine lv_aload_n hx hb dJ5_init_d00df_10 rfl (lv_at hl 0 rfl) ?_
    refine lv_iload_n hx hb dJ5_init_d00df_11 rfl (lv_at hl 1 rfl) ?_
    obtain ⟨v1, M2, hn, eq, eM, h⟩ := obnewb h
    refine rna_byteV hx hb hts qw_231 hE hM hS hn (Nat.le_of_ble_eq_true rfl) (Nat.le_of_ble_eq_true rfl) eq eM dJ5_init_d00df_12 (fun H hM hS => ?_)
    obtain ⟨M3, h1, h⟩ := ob h
    refine rp_6_0 hx hb hts hown hE hM qw_853 hS h1 dJ5_init_d00df_14 (fun H locs hM hS => ?_)
    refine lv_aload_n hx hb dJ5_init_d00df_17 rfl (lv_at hl 0 rfl) ?_
    refine lv_iconst (v := 0) hx hb dJ5_init_d00df_18 (by decide) ?_
    obtain ⟨M4, h1, h⟩ := ob h
    refine rp_6_1 hx hb hts hown hE hM qw_854 ⟨rfl, rfl⟩ hS h1 dJ5_init_d00df_19 (fun H locs hM hS => ?_)
    refine lv_goto (tgt := 38) hx hb dJ5_init_d00df_22 (by decide) ?_
    refine W.widen (k := 1) (n := 512) (Nat.le_of_ble_eq_true rfl) (Nat.le_of_ble_eq_true rfl) ?_
    exact tj_J5_init_d00df_38  hC hr hlocks hE hin  h hM hS (lv_sub hl [] rfl)

theorem dd_J8_newLength_cabcc : yJ8_newLength_cabcc.cls ≠ "java/lang/invoke/MethodHandle" ∧ yJ8_newLength_cabcc.cls ≠ "java/lang/invoke/VarHandle" ∧ (parseMethodDescriptor yJ8_newLength_cabcc.desc).map (fun d => d.parameters.length) = some 3 := by decide +kernel
abbrev rm_J8_newLength_cabcc : Room := ({ frames := 1, cells := 0, slots := 0, locals := 32 } : Room)
noncomputable def fj_J8_newLength_cabcc_21 (x0 : Int32) (x1 : Int32) (M : Mem) : Option (Int32 × Mem) :=
  none
set_option maxHeartbeats 4000000 in
set_option maxRecDepth 100000 in
theorem tj_J8_newLength_cabcc_21 {p : Program} {l : Launch} {e : Env} {s : State} {m : MethodId} {args : Array Value} {below : List Frame} {meth : Method} {c : Code} {E : KEnv} {H : Heap} {locs : List Loc} {ls : Array Slot} {x0 : Int32} {x1 : Int32} {M : Mem} {v : Int32} {M' : Mem} (hC : CallFix p m c cJ8_newLength_cabcc 4 s args lw_G RJ8) (hr : meth.sig.returnType = (some .int)) (hlocks : meth.locks = false) (hE : EnvOK E s) (h : fj_J8_newLength_cabcc_21 x0 x1 M = some (v, M')) (hM : MOK E M H) (hS : va_S (eA E) s.heap H locs) (hl : lv_has ls 4 [(0, .int x0), (1, .int x1)]) : W p l e rm_J8_newLength_cabcc s m args below meth c H locs 0 0 (MQ below (cQ E (some (.int v)) M') args s 0 0 (eA E)) (F0 m 21 ls []) := by
  obtain ⟨hx, hb, hml, hown, hts⟩ := id hC
  unfold fj_J8_newLength_cabcc_21 at h
  refine lv_iload_n hx hb dJ8_newLength_cabcc_21 rfl (lv_at hl 0 rfl) ?_
  refine lv_iload_n hx hb dJ8_newLength_cabcc_22 rfl (lv_at hl 1 rfl) ?_
  cases h
noncomputable def f_J8_newLength_cabcc (a1 : Int32) (a2 : Int32) (a3 : Int32) (M : Mem) : Option (Int32 × Mem) :=
  (if (a1 + (if a2 < a3 then a3 else a2)) ≤ 0 then
  fj_J8_newLength_cabcc_21 a1 a2 M
  else
  (if (2147483639 : Int32) < (a1 + (if a2 < a3 then a3 else a2)) then
  fj_J8_newLength_cabcc_21 a1 a2 M
  else
  some (a1 + (if a2 < a3 then a3 else a2), M)))
set_option maxHeartbeats 4000000 in
set_option maxRecDepth 100000 in
theorem mt_J8_newLength_cabcc (l : Launch) (E : KEnv) (a1 : Int32) (a2 : Int32) (a3 : Int32) (M M' : Mem) (v : Int32) (h : f_J8_newLength_cabcc a1 a2 a3 M = some (v, M')) : Met l yJ8_newLength_cabcc (Cond.code yJ8_newLength_cabcc cJ8_newLength_cabcc 4 (some .int) :: lw_G) rm_J8_newLength_cabcc (cPc E [.int a1, .int a2, .int a3] M) (cQ E (some (.int v)) M') 0 0 (eA E) := by
  refine Met.ofW (cc := cJ8_newLength_cabcc) (maxL := 4) (ret := (some .int)) (by decide) rfl ?_
  intro p e s m args below meth c s₁ B hml hv
  obtain ⟨rfl, hE, hM⟩ := hv
  have hx := B.exec
  have hb := B.bytes
  have hr := B.returns
  have hts0 := atoms_spec (ws := Cond.code yJ8_newLength_cabcc cJ8_newLength_cabcc 4 (some .int) :: lw_G) B.pre
  have hts : ∀ w ∈ lw_G, w.before _ s = true := fun w hw => hts0 w (List.mem_cons_of_mem _ hw)
  have hown : s.vm.findClass RJ8 = some m.cls := findClass_of_methodNamed B.named
  have hlocks := B.notSynchronized
  have hC : CallFix p m c cJ8_newLength_cabcc 4 s _ lw_G RJ8 := ⟨hx, hb, hml, hown, hts⟩
  have hS : va_S (eA E) s.heap s.heap [] := va_S.rf
  have hl := lv_entry ([.int a1, .int a2, .int a3]) (n := 4) (Nat.le_of_ble_eq_true rfl)
  rw [lg_entry_eq]
  generalize (lg_sl ([.int a1, .int a2, .int a3]) ++ List.replicate (4 - (lg_sl ([.int a1, .int a2, .int a3])).length) Slot.unset).toArray = ls at hl ⊢
  have hl : lv_has ls 4 [(0, .int a1), (1, .int a2), (2, .int a3)] := hl
  unfold f_J8_newLength_cabcc at h
  show W p l e rm_J8_newLength_cabcc s m _ below meth c s.heap [] 0 0 _ _
  refine lv_iload_n hx hb dJ8_newLength_cabcc_0 rfl (lv_at hl 0 rfl) ?_
  refine lv_iload_n hx hb dJ8_newLength_cabcc_1 rfl (lv_at hl 1 rfl) ?_
  refine lv_iload_n hx hb dJ8_newLength_cabcc_2 rfl (lv_at hl 2 rfl) ?_
  refine va_mmax hx hb (hml.trans hl.1.symm) hown (hts _ qw_791) (hts _ qw_375) (hts _ qw_48) (hts _ qw_376) (Nat.le_of_ble_eq_true rfl) (Nat.le_of_ble_eq_true rfl) (Nat.le_of_ble_eq_true rfl) (Nat.le_of_ble_eq_true rfl) dJ8_newLength_cabcc_3 ?_
  refine lv_iadd hx hb dJ8_newLength_cabcc_6 ?_
  refine lv_istore_n (lv' := [(3, .int (a1 + (if a2 < a3 then a3 else a2))), (0, .int a1), (1, .int a2), (2, .int a3)]) hx hb dJ8_newLength_cabcc_7 rfl hl (by decide) rfl (fun ls hl => ?_)
  refine lv_iconst (v := 0) hx hb dJ8_newLength_cabcc_8 (by decide) ?_
  refine lv_iload_n hx hb dJ8_newLength_cabcc_9 rfl (lv_at hl 0 rfl) ?_
  refine lv_icmp_ge (tgt := 21) hx hb dJ8_newLength_cabcc_10 (by decide) (fun c1 => ?_) (fun c1 => ?_)
  · have h := ifp c1 h
    refine W.widen (k := 0) (n := 0) (Nat.le_of_ble_eq_true rfl) (Nat.le_of_ble_eq_true rfl) ?_
    exact tj_J8_newLength_cabcc_21  hC hr hlocks hE  h hM hS (lv_sub hl [1, 2] rfl)
  · have h := ifn c1 h
    refine lv_iload_n hx hb dJ8_newLength_cabcc_13 rfl (lv_at hl 0 rfl) ?_
    refine lv_ldc (v := 2147483639) hx hb hown (hts _ qw_792) dJ8_newLength_cabcc_14 ?_
    refine lv_icmp_gt (tgt := 21) hx hb dJ8_newLength_cabcc_16 (by decide) (fun c1 => ?_) (fun c1 => ?_)
    · have h := ifp c1 h
      refine W.widen (k := 0) (n := 0) (Nat.le_of_ble_eq_true rfl) (Nat.le_of_ble_eq_true rfl) ?_
      exact tj_J8_newLength_cabcc_21  hC hr hlocks hE  h hM hS (lv_sub hl [1, 2] rfl)
    · have h := ifn c1 h
      refine lv_iload_n hx hb dJ8_newLength_cabcc_19 rfl (lv_at hl 0 rfl) ?_
      cases h
      exact eI hx hb hr hlocks hM hS dJ8_newLength_cabcc_20 (Nat.le_of_ble_eq_true rfl) (Nat.le_of_ble_eq_true rfl)

theorem dd_J5_newCapacity_0f7a4 : yJ5_newCapacity_0f7a4.cls = RJ5 ∧ yJ5_newCapacity_0f7a4.cls ≠ "java/lang/invoke/MethodHandle" ∧ yJ5_newCapacity_0f7a4.cls ≠ "java/lang/invoke/VarHandle" ∧ (parseMethodDescriptor yJ5_newCapacity_0f7a4.desc).map (fun d => d.parameters.length) = some 1 := by decide +kernel
theorem du_J5_newCapacity_0f7a4 : yJ5_newCapacity_0f7a4.name ≠ "<init>" ∧ (parseMethodDescriptor yJ5_newCapacity_0f7a4.desc).map (fun d => d.parameters.length) = some 1 := by decide +kernel
theorem du2_J5_newCapacity_0f7a4 : "java/lang/AbstractStringBuilder" ≠ "java/lang/invoke/MethodHandle" ∧ "java/lang/AbstractStringBuilder" ≠ "java/lang/invoke/VarHandle" ∧ (parseMethodDescriptor yJ5_newCapacity_0f7a4.desc).map (fun d => d.parameters.length) = some 1 := by decide +kernel
abbrev rm_J5_newCapacity_0f7a4 : Room := ({ frames := 2, cells := 0, slots := 0, locals := 55 } : Room)
noncomputable def f_J5_newCapacity_0f7a4 (this : Nat) (a1 : Int32) (M : Mem) : Option (Int32 × Mem) :=
  (gRn 12 192 this M).bind fun v1 =>
  (gN 7 v1 M).bind fun v2 =>
  (gI 12 193 this M).bind fun v3 =>
  (gI 12 193 this M).bind fun v4 =>
  bn (f_J8_newLength_cabcc v2 ((a1 <<< (v3 &&& 31)) - v2) (v2 + (2 <<< (v4 &&& 31))) M) fun v5 M6 =>
  (if v5 = 2147483647 then
  none
  else
  (gI 12 193 this M6).bind fun v7 =>
  some (v5 >>> (v7 &&& 31), M6))
set_option maxHeartbeats 4000000 in
set_option maxRecDepth 100000 in
theorem mt_J5_newCapacity_0f7a4 (l : Launch) (E : KEnv) (this : Nat) (a1 : Int32) (M M' : Mem) (v : Int32) (h : f_J5_newCapacity_0f7a4 this a1 M = some (v, M')) : Met l yJ5_newCapacity_0f7a4 (Cond.code yJ5_newCapacity_0f7a4 cJ5_newCapacity_0f7a4 6 (some .int) :: lw_G) rm_J5_newCapacity_0f7a4 (cPc E [.ref this, .int a1] M) (cQ E (some (.int v)) M') 0 0 (eA E) := by
  refine Met.ofW (cc := cJ5_newCapacity_0f7a4) (maxL := 6) (ret := (some .int)) (by decide) rfl ?_
  intro p e s m args below meth c s₁ B hml hv
  obtain ⟨rfl, hE, hM⟩ := hv
  have hx := B.exec
  have hb := B.bytes
  have hr := B.returns
  have hts0 := atoms_spec (ws := Cond.code yJ5_newCapacity_0f7a4 cJ5_newCapacity_0f7a4 6 (some .int) :: lw_G) B.pre
  have hts : ∀ w ∈ lw_G, w.before _ s = true := fun w hw => hts0 w (List.mem_cons_of_mem _ hw)
  have hown : s.vm.findClass RJ5 = some m.cls := findClass_of_methodNamed B.named
  have hlocks := B.notSynchronized
  have hC : CallFix p m c cJ5_newCapacity_0f7a4 6 s _ lw_G RJ5 := ⟨hx, hb, hml, hown, hts⟩
  have hS : va_S (eA E) s.heap s.heap [] := va_S.rf
  have hl := lv_entry ([.ref this, .int a1]) (n := 6) (Nat.le_of_ble_eq_true rfl)
  rw [lg_entry_eq]
  generalize (lg_sl ([.ref this, .int a1]) ++ List.replicate (6 - (lg_sl ([.ref this, .int a1])).length) Slot.unset).toArray = ls at hl ⊢
  have hl : lv_has ls 6 [(0, .ref this), (1, .int a1)] := hl
  unfold f_J5_newCapacity_0f7a4 at h
  show W p l e rm_J5_newCapacity_0f7a4 s m _ below meth c s.heap [] 0 0 _ _
  refine lv_aload_n hx hb dJ5_newCapacity_0f7a4_0 rfl (lv_at hl 0 rfl) ?_
  obtain ⟨v1, h1, h⟩ := ob h
  refine rgn_6_0 hx hb hts hown hE hM qw_853 h1 dJ5_newCapacity_0f7a4_1 ?_
  obtain ⟨v2, h1, h⟩ := ob h
  refine r_blen hx hb hE hM h1 dJ5_newCapacity_0f7a4_4 ?_
  refine lv_istore_n (lv' := [(2, .int v2), (0, .ref this), (1, .int a1)]) hx hb dJ5_newCapacity_0f7a4_5 rfl hl (by decide) rfl (fun ls hl => ?_)
  refine lv_iload_n hx hb dJ5_newCapacity_0f7a4_6 rfl (lv_at hl 2 rfl) ?_
  refine lv_aload_n hx hb dJ5_newCapacity_0f7a4_7 rfl (lv_at hl 1 rfl) ?_
  obtain ⟨v3, h1, h⟩ := ob h
  refine rg_6_1 hx hb hts hown hE hM qw_854 h1 dJ5_newCapacity_0f7a4_8 ?_
  refine lv_ishl hx hb dJ5_newCapacity_0f7a4_11 ?_
  refine lv_istore_n (lv' := [(3, .int (a1 <<< (v3 &&& 31))), (2, .int v2), (0, .ref this), (1, .int a1)]) hx hb dJ5_newCapacity_0f7a4_12 rfl hl (by decide) rfl (fun ls hl => ?_)
  refine lv_iload_n hx hb dJ5_newCapacity_0f7a4_13 rfl (lv_at hl 0 rfl) ?_
  refine lv_iload_n hx hb dJ5_newCapacity_0f7a4_14 rfl (lv_at hl 1 rfl) ?_
  refine lv_isub hx hb dJ5_newCapacity_0f7a4_15 ?_
  refine lv_istore (lv' := [(4, .int ((a1 <<< (v3 &&& 31)) - v2)), (3, .int (a1 <<< (v3 &&& 31))), (2, .int v2), (0, .ref this), (1, .int a1)]) hx hb dJ5_newCapacity_0f7a4_16 hl (by decide) rfl (fun ls hl => ?_)
  refine lv_iload_n hx hb dJ5_newCapacity_0f7a4_18 rfl (lv_at hl 2 rfl) ?_
  refine lv_iload hx hb dJ5_newCapacity_0f7a4_19 (lv_at hl 0 rfl) ?_
  refine lv_iload_n hx hb dJ5_newCapacity_0f7a4_21 rfl (lv_at hl 2 rfl) ?_
  refine lv_iconst (v := 2) hx hb dJ5_newCapacity_0f7a4_22 (by decide) ?_
  refine lv_aload_n hx hb dJ5_newCapacity_0f7a4_23 rfl (lv_at hl 3 rfl) ?_
  obtain ⟨v4, h1, h⟩ := ob h
  refine rg_6_1 hx hb hts hown hE hM qw_854 h1 dJ5_newCapacity_0f7a4_24 ?_
  refine lv_ishl hx hb dJ5_newCapacity_0f7a4_27 ?_
  refine lv_iadd hx hb dJ5_newCapacity_0f7a4_28 ?_
  obtain ⟨v5, M6, h1, h⟩ := ob2 h
  refine kS1 (As := [.int v2, .int ((a1 <<< (v3 &&& 31)) - v2), .int (v2 + (2 <<< (v4 &&& 31)))]) (rest := []) hC hE hS hM (mt_J8_newLength_cabcc _ E v2 ((a1 <<< (v3 &&& 31)) - v2) (v2 + (2 <<< (v4 &&& 31))) _ _ _ h1) (gwS qw_788 qw_789 qw_52 qw_790) ⟨rfl, rfl, (Nat.le_of_ble_eq_true rfl), (Nat.le_of_ble_eq_true rfl)⟩ dd_J8_newLength_cabcc rfl rfl hl.1 (Nat.le_of_ble_eq_true rfl) dJ5_newCapacity_0f7a4_29 ⟨(Nat.le_of_ble_eq_true rfl), (Nat.le_of_ble_eq_true rfl)⟩ (fun H locs hM hS => ?_)
  refine lv_istore (lv' := [(5, .int v5), (4, .int ((a1 <<< (v3 &&& 31)) - v2)), (3, .int (a1 <<< (v3 &&& 31))), (2, .int v2), (0, .ref this), (1, .int a1)]) hx hb dJ5_newCapacity_0f7a4_32 hl (by decide) rfl (fun ls hl => ?_)
  refine lv_iload hx hb dJ5_newCapacity_0f7a4_34 (lv_at hl 0 rfl) ?_
  refine lv_ldc (v := 2147483647) hx hb hown (hts _ qw_754) dJ5_newCapacity_0f7a4_36 ?_
  refine lv_icmp_ne (tgt := 51) hx hb dJ5_newCapacity_0f7a4_38 (by decide) (fun c1 => ?_) (fun c1 => ?_)
  · have h := ifn c1 h
    refine lv_iload hx hb dJ5_newCapacity_0f7a4_51 (lv_at hl 0 rfl) ?_
    refine lv_aload_n hx hb dJ5_newCapacity_0f7a4_53 rfl (lv_at hl 4 rfl) ?_
    obtain ⟨v7, h1, h⟩ := ob h
    refine rg_6_1 hx hb hts hown hE hM qw_854 h1 dJ5_newCapacity_0f7a4_54 ?_
    refine lv_ishr hx hb dJ5_newCapacity_0f7a4_57 ?_
    cases h
    exact eI hx hb hr hlocks hM hS dJ5_newCapacity_0f7a4_58 (Nat.le_of_ble_eq_true rfl) (Nat.le_of_ble_eq_true rfl)
  · have h := ifp c1 h
    cases h

theorem dd_J7_copyOf_9075b : yJ7_copyOf_9075b.cls ≠ "java/lang/invoke/MethodHandle" ∧ yJ7_copyOf_9075b.cls ≠ "java/lang/invoke/VarHandle" ∧ (parseMethodDescriptor yJ7_copyOf_9075b.desc).map (fun d => d.parameters.length) = some 2 := by decide +kernel
abbrev rm_J7_copyOf_9075b : Room := ({ frames := 1, cells := 1, slots := 512, locals := 60 } : Room)
noncomputable def f_J7_copyOf_9075b (a1 : Nat) (a2 : Int32) (M : Mem) : Option (Nat × Mem) :=
  (gN 7 a1 M).bind fun v1 =>
  (if a2 = v1 then
  none
  else
  bnewb a2 M fun v2 M3 =>
  (gN 7 a1 M3).bind fun v4 =>
  (cpB a1 0 v2 0 (if a2 < v4 then a2 else v4) M3).bind fun M6 =>
  some (v2, M6))
set_option maxHeartbeats 4000000 in
set_option maxRecDepth 100000 in
theorem mt_J7_copyOf_9075b (l : Launch) (E : KEnv) (a1 : Nat) (a2 : Int32) (M M' : Mem) (v : Nat) (h : f_J7_copyOf_9075b a1 a2 M = some (v, M')) : Met l yJ7_copyOf_9075b (Cond.code yJ7_copyOf_9075b cJ7_copyOf_9075b 3 (some (.array .byte)) :: lw_G) rm_J7_copyOf_9075b (cPc E [.ref a1, .int a2] M) (cQ E (some (.ref v)) M') 1 512 (eA E) := by
  refine Met.ofW (cc := cJ7_copyOf_9075b) (maxL := 3) (ret := (some (.array .byte))) (by decide) rfl ?_
  intro p e s m args below meth c s₁ B hml hv
  obtain ⟨rfl, hE, hM⟩ := hv
  have hx := B.exec
  have hb := B.bytes
  have hr := B.returns
  have hts0 := atoms_spec (ws := Cond.code yJ7_copyOf_9075b cJ7_copyOf_9075b 3 (some (.array .byte)) :: lw_G) B.pre
  have hts : ∀ w ∈ lw_G, w.before _ s = true := fun w hw => hts0 w (List.mem_cons_of_mem _ hw)
  have hown : s.vm.findClass RJ7 = some m.cls := findClass_of_methodNamed B.named
  have hlocks := B.notSynchronized
  have hC : CallFix p m c cJ7_copyOf_9075b 3 s _ lw_G RJ7 := ⟨hx, hb, hml, hown, hts⟩
  have hS : va_S (eA E) s.heap s.heap [] := va_S.rf
  have hl := lv_entry ([.ref a1, .int a2]) (n := 3) (Nat.le_of_ble_eq_true rfl)
  rw [lg_entry_eq]
  generalize (lg_sl ([.ref a1, .int a2]) ++ List.replicate (3 - (lg_sl ([.ref a1, .int a2])).length) Slot.unset).toArray = ls at hl ⊢
  have hl : lv_has ls 3 [(0, .ref a1), (1, .int a2)] := hl
  unfold f_J7_copyOf_9075b at h
  show W p l e rm_J7_copyOf_9075b s m _ below meth c s.heap [] 0 0 _ _
  refine lv_iload_n hx hb dJ7_copyOf_9075b_0 rfl (lv_at hl 1 rfl) ?_
  refine lv_aload_n hx hb dJ7_copyOf_9075b_1 rfl (lv_at hl 0 rfl) ?_
  obtain ⟨v1, h1, h⟩ := ob h
  refine r_blen hx hb hE hM h1 dJ7_copyOf_9075b_2 ?_
  refine lv_icmp_ne (tgt := 14) hx hb dJ7_copyOf_9075b_3 (by decide) (fun c1 => ?_) (fun c1 => ?_)
  · have h := ifn c1 h
    refine lv_iload_n hx hb dJ7_copyOf_9075b_14 rfl (lv_at hl 1 rfl) ?_
    obtain ⟨v2, M3, hn, eq, eM, h⟩ := obnewb h
    refine rna_byteV hx hb hts qw_231 hE hM hS hn (Nat.le_of_ble_eq_true rfl) (Nat.le_of_ble_eq_true rfl) eq eM dJ7_copyOf_9075b_15 (fun H hM hS => ?_)
    refine lv_astore_n (lv' := [(2, .ref v2), (0, .ref a1), (1, .int a2)]) hx hb dJ7_copyOf_9075b_17 rfl hl (by decide) rfl (fun ls hl => ?_)
    refine lv_aload_n hx hb dJ7_copyOf_9075b_18 rfl (lv_at hl 1 rfl) ?_
    refine lv_iconst (v := 0) hx hb dJ7_copyOf_9075b_19 (by decide) ?_
    refine lv_aload_n hx hb dJ7_copyOf_9075b_20 rfl (lv_at hl 0 rfl) ?_
    refine lv_iconst (v := 0) hx hb dJ7_copyOf_9075b_21 (by decide) ?_
    refine lv_aload_n hx hb dJ7_copyOf_9075b_22 rfl (lv_at hl 1 rfl) ?_
    obtain ⟨v4, h1, h⟩ := ob h
    refine r_blen hx hb hE hM h1 dJ7_copyOf_9075b_23 ?_
    refine lv_iload_n hx hb dJ7_copyOf_9075b_24 rfl (lv_at hl 2 rfl) ?_
    refine va_mmin hx hb (hml.trans hl.1.symm) hown (hts _ qw_806) (hts _ qw_540) (hts _ qw_48) (hts _ qw_541) (Nat.le_of_ble_eq_true rfl) (Nat.le_of_ble_eq_true rfl) (Nat.le_of_ble_eq_true rfl) (Nat.le_of_ble_eq_true rfl) dJ7_copyOf_9075b_25 ?_
    obtain ⟨M6, h1, h⟩ := ob h
    refine r_copyB hx hb (hml.trans hl.1.symm) hts hown qw_807 qw_392 qw_391 qw_49 hE hM hS h1 (Nat.le_of_ble_eq_true rfl) (Nat.le_of_ble_eq_true rfl) dJ7_copyOf_9075b_28 (fun H locs hM hS => ?_)
    refine lv_aload_n hx hb dJ7_copyOf_9075b_31 rfl (lv_at hl 0 rfl) ?_
    cases h
    exact eR hx hb hr (by first | exact Or.inl ⟨_, rfl⟩ | exact Or.inr ⟨_, rfl⟩) hlocks hM hS dJ7_copyOf_9075b_32 (Nat.le_of_ble_eq_true rfl) (Nat.le_of_ble_eq_true rfl)
  · have h := ifp c1 h
    refine lv_aload_n hx hb dJ7_copyOf_9075b_6 rfl (lv_at hl 0 rfl) ?_
    cases h

theorem dd_J5_ensureCapacityInternal_d00df : yJ5_ensureCapacityInternal_d00df.cls = RJ5 ∧ yJ5_ensureCapacityInternal_d00df.cls ≠ "java/lang/invoke/MethodHandle" ∧ yJ5_ensureCapacityInternal_d00df.cls ≠ "java/lang/invoke/VarHandle" ∧ (parseMethodDescriptor yJ5_ensureCapacityInternal_d00df.desc).map (fun d => d.parameters.length) = some 1 := by decide +kernel
theorem du_J5_ensureCapacityInternal_d00df : yJ5_ensureCapacityInternal_d00df.name ≠ "<init>" ∧ (parseMethodDescriptor yJ5_ensureCapacityInternal_d00df.desc).map (fun d => d.parameters.length) = some 1 := by decide +kernel
theorem du2_J5_ensureCapacityInternal_d00df : "java/lang/AbstractStringBuilder" ≠ "java/lang/invoke/MethodHandle" ∧ "java/lang/AbstractStringBuilder" ≠ "java/lang/invoke/VarHandle" ∧ (parseMethodDescriptor yJ5_ensureCapacityInternal_d00df.desc).map (fun d => d.parameters.length) = some 1 := by decide +kernel
abbrev rm_J5_ensureCapacityInternal_d00df : Room := ({ frames := 3, cells := 1, slots := 512, locals := 82 } : Room)
noncomputable def fj_J5_ensureCapacityInternal_d00df_38  (M : Mem) : Option Mem :=
  some M
set_option maxHeartbeats 4000000 in
set_option maxRecDepth 100000 in
theorem tj_J5_ensureCapacityInternal_d00df_38 {p : Program} {l : Launch} {e : Env} {s : State} {m : MethodId} {args : Array Value} {below : List Frame} {meth : Method} {c : Code} {E : KEnv} {H : Heap} {locs : List Loc} {ls : Array Slot}  {M : Mem} {M' : Mem} (hC : CallFix p m c cJ5_ensureCapacityInternal_d00df 3 s args lw_G RJ5) (hr : meth.sig.returnType = none) (hlocks : meth.locks = false) (hE : EnvOK E s) (h : fj_J5_ensureCapacityInternal_d00df_38  M = some M') (hM : MOK E M H) (hS : va_S (eA E) s.heap H locs) (hl : lv_has ls 3 []) : W p l e rm_J5_ensureCapacityInternal_d00df s m args below meth c H locs 1 512 (MQ below (cQ E none M') args s 1 512 (eA E)) (F0 m 38 ls []) := by
  obtain ⟨hx, hb, hml, hown, hts⟩ := id hC
  unfold fj_J5_ensureCapacityInternal_d00df_38 at h
  cases h
  exact eV_ hx hb hr hlocks hM hS dJ5_ensureCapacityInternal_d00df_38 (Nat.le_of_ble_eq_true rfl) (Nat.le_of_ble_eq_true rfl)
noncomputable def f_J5_ensureCapacityInternal_d00df (this : Nat) (a1 : Int32) (M : Mem) : Option Mem :=
  (gRn 12 192 this M).bind fun v1 =>
  (gN 7 v1 M).bind fun v2 =>
  (gI 12 193 this M).bind fun v3 =>
  (if (a1 - (v2 >>> (v3 &&& 31))) ≤ 0 then
  fj_J5_ensureCapacityInternal_d00df_38 M
  else
  (gRn 12 192 this M).bind fun v4 =>
  bn (cK 12 this M (f_J5_newCapacity_0f7a4 this a1 M)) fun v5 M6 =>
  (gI 12 193 this M6).bind fun v7 =>
  bn (f_J7_copyOf_9075b v4 (v5 <<< (v7 &&& 31)) M6) fun v8 M9 =>
  (sR 12 192 this (some v8) M9).bind fun M10 =>
  fj_J5_ensureCapacityInternal_d00df_38 M10)
set_option maxHeartbeats 4000000 in
set_option maxRecDepth 100000 in
theorem mt_J5_ensureCapacityInternal_d00df (l : Launch) (E : KEnv) (this : Nat) (a1 : Int32) (M M' : Mem) (h : f_J5_ensureCapacityInternal_d00df this a1 M = some M') : Met l yJ5_ensureCapacityInternal_d00df (Cond.code yJ5_ensureCapacityInternal_d00df cJ5_ensureCapacityInternal_d00df 3 none :: lw_G) rm_J5_ensureCapacityInternal_d00df (cPc E [.ref this, .int a1] M) (cQ E none M') 1 512 (eA E) := by
  refine Met.ofW (cc := cJ5_ensureCapacityInternal_d00df) (maxL := 3) (ret := none) (by decide) rfl ?_
  intro p e s m args below meth c s₁ B hml hv
  obtain ⟨rfl, hE, hM⟩ := hv
  have hx := B.exec
  have hb := B.bytes
  have hr := B.returns
  have hts0 := atoms_spec (ws := Cond.code yJ5_ensureCapacityInternal_d00df cJ5_ensureCapacityInternal_d00df 3 none :: lw_G) B.pre
  have hts : ∀ w ∈ lw_G, w.before _ s = true := fun w hw => hts0 w (List.mem_cons_of_mem _ hw)
  have hown : s.vm.findClass RJ5 = some m.cls := findClass_of_methodNamed B.named
  have hlocks := B.notSynchronized
  have hC : CallFix p m c cJ5_ensureCapacityInternal_d00df 3 s _ lw_G RJ5 := ⟨hx, hb, hml, hown, hts⟩
  have hS : va_S (eA E) s.heap s.heap [] := va_S.rf
  have hl := lv_entry ([.ref this, .int a1]) (n := 3) (Nat.le_of_ble_eq_true rfl)
  rw [lg_entry_eq]
  generalize (lg_sl ([.ref this, .int a1]) ++ List.replicate (3 - (lg_sl ([.ref this, .int a1])).length) Slot.unset).toArray = ls at hl ⊢
  have hl : lv_has ls 3 [(0, .ref this), (1, .int a1)] := hl
  unfold f_J5_ensureCapacityInternal_d00df at h
  show W p l e rm_J5_ensureCapacityInternal_d00df s m _ below meth c s.heap [] 0 0 _ _
  refine lv_aload_n hx hb dJ5_ensureCapacityInternal_d00df_0 rfl (lv_at hl 0 rfl) ?_
  obtain ⟨v1, h1, h⟩ := ob h
  refine rgn_6_0 hx hb hts hown hE hM qw_853 h1 dJ5_ensureCapacityInternal_d00df_1 ?_
  obtain ⟨v2, h1, h⟩ := ob h
  refine r_blen hx hb hE hM h1 dJ5_ensureCapacityInternal_d00df_4 ?_
  refine lv_aload_n hx hb dJ5_ensureCapacityInternal_d00df_5 rfl (lv_at hl 0 rfl) ?_
  obtain ⟨v3, h1, h⟩ := ob h
  refine rg_6_1 hx hb hts hown hE hM qw_854 h1 dJ5_ensureCapacityInternal_d00df_6 ?_
  refine lv_ishr hx hb dJ5_ensureCapacityInternal_d00df_9 ?_
  refine lv_istore_n (lv' := [(2, .int (v2 >>> (v3 &&& 31))), (0, .ref this), (1, .int a1)]) hx hb dJ5_ensureCapacityInternal_d00df_10 rfl hl (by decide) rfl (fun ls hl => ?_)
  refine lv_iload_n hx hb dJ5_ensureCapacityInternal_d00df_11 rfl (lv_at hl 2 rfl) ?_
  refine lv_iload_n hx hb dJ5_ensureCapacityInternal_d00df_12 rfl (lv_at hl 0 rfl) ?_
  refine lv_isub hx hb dJ5_ensureCapacityInternal_d00df_13 ?_
  refine lv_if_le (tgt := 38) hx hb dJ5_ensureCapacityInternal_d00df_14 (by decide) (fun c1 => ?_) (fun c1 => ?_)
  · have h := ifp c1 h
    refine W.widen (k := 1) (n := 512) (Nat.le_of_ble_eq_true rfl) (Nat.le_of_ble_eq_true rfl) ?_
    exact tj_J5_ensureCapacityInternal_d00df_38  hC hr hlocks hE  h hM hS (lv_sub hl [] rfl)
  · have h := ifn c1 h
    refine lv_aload_n hx hb dJ5_ensureCapacityInternal_d00df_17 rfl (lv_at hl 1 rfl) ?_
    refine lv_aload_n hx hb dJ5_ensureCapacityInternal_d00df_18 rfl (lv_at hl 1 rfl) ?_
    obtain ⟨v4, h1, h⟩ := ob h
    refine rgn_6_0 hx hb hts hown hE hM qw_853 h1 dJ5_ensureCapacityInternal_d00df_19 ?_
    refine lv_aload_n hx hb dJ5_ensureCapacityInternal_d00df_22 rfl (lv_at hl 1 rfl) ?_
    refine lv_iload_n hx hb dJ5_ensureCapacityInternal_d00df_23 rfl (lv_at hl 2 rfl) ?_
    obtain ⟨v5, M6, h1, h⟩ := ob2 h
    obtain ⟨hk1, h1⟩ := ifg h1
    refine kU1 (owner := "java/lang/AbstractStringBuilder") (x := yJ5_newCapacity_0f7a4) (y := yJ5_newCapacity_0f7a4) (As := [.int a1]) (rest := [.ref v4, .ref this]) hC hE hS hM (mt_J5_newCapacity_0f7a4 _ E this a1 _ _ _ h1) (gwU qw_784 qw_1207 qw_1214 qw_786 qw_50 qw_787) rfl ⟨rfl, rfl, (Nat.le_of_ble_eq_true rfl), (Nat.le_of_ble_eq_true rfl)⟩ du2_J5_newCapacity_0f7a4 rfl hk1 rfl hl.1 (Nat.le_of_ble_eq_true rfl) dJ5_ensureCapacityInternal_d00df_24 ⟨(Nat.le_of_ble_eq_true rfl), (Nat.le_of_ble_eq_true rfl)⟩ (fun H locs hM hS => ?_)
    refine lv_aload_n hx hb dJ5_ensureCapacityInternal_d00df_27 rfl (lv_at hl 1 rfl) ?_
    obtain ⟨v7, h1, h⟩ := ob h
    refine rg_6_1 hx hb hts hown hE hM qw_854 h1 dJ5_ensureCapacityInternal_d00df_28 ?_
    refine lv_ishl hx hb dJ5_ensureCapacityInternal_d00df_31 ?_
    obtain ⟨v8, M9, h1, h⟩ := ob2 h
    refine kS1 (As := [.ref v4, .int (v5 <<< (v7 &&& 31))]) (rest := [.ref this]) hC hE hS hM (mt_J7_copyOf_9075b _ E v4 (v5 <<< (v7 &&& 31)) _ _ _ h1) (gwS qw_796 qw_797 qw_53 qw_798) ⟨rfl, rfl, (Nat.le_of_ble_eq_true rfl), (Nat.le_of_ble_eq_true rfl)⟩ dd_J7_copyOf_9075b rfl rfl hl.1 (Nat.le_of_ble_eq_true rfl) dJ5_ensureCapacityInternal_d00df_32 ⟨(Nat.le_of_ble_eq_true rfl), (Nat.le_of_ble_eq_true rfl)⟩ (fun H locs hM hS => ?_)
    obtain ⟨M10, h1, h⟩ := ob h
    refine rp_6_0 hx hb hts hown hE hM qw_853 hS h1 dJ5_ensureCapacityInternal_d00df_35 (fun H locs hM hS => ?_)
    refine W.widen (k := 1) (n := 512) (Nat.le_of_ble_eq_true rfl) (Nat.le_of_ble_eq_true rfl) ?_
    exact tj_J5_ensureCapacityInternal_d00df_38  hC hr hlocks hE  h hM hS (lv_sub hl [] rfl)

theorem dd_J5_inflateIfNeededFor_a7421 : yJ5_inflateIfNeededFor_a7421.cls = RJ5 ∧ yJ5_inflateIfNeededFor_a7421.cls ≠ "java/lang/invoke/MethodHandle" ∧ yJ5_inflateIfNeededFor_a7421.cls ≠ "java/lang/invoke/VarHandle" ∧ (parseMethodDescriptor yJ5_inflateIfNeededFor_a7421.desc).map (fun d => d.parameters.length) = some 1 := by decide +kernel
theorem du_J5_inflateIfNeededFor_a7421 : yJ5_inflateIfNeededFor_a7421.name ≠ "<init>" ∧ (parseMethodDescriptor yJ5_inflateIfNeededFor_a7421.desc).map (fun d => d.parameters.length) = some 1 := by decide +kernel
theorem du2_J5_inflateIfNeededFor_a7421 : "java/lang/AbstractStringBuilder" ≠ "java/lang/invoke/MethodHandle" ∧ "java/lang/AbstractStringBuilder" ≠ "java/lang/invoke/VarHandle" ∧ (parseMethodDescriptor yJ5_inflateIfNeededFor_a7421.desc).map (fun d => d.parameters.length) = some 1 := by decide +kernel
abbrev rm_J5_inflateIfNeededFor_a7421 : Room := ({ frames := 1, cells := 0, slots := 0, locals := 20 } : Room)
noncomputable def fj_J5_inflateIfNeededFor_a7421_21  (M : Mem) : Option Mem :=
  some M
set_option maxHeartbeats 4000000 in
set_option maxRecDepth 100000 in
theorem tj_J5_inflateIfNeededFor_a7421_21 {p : Program} {l : Launch} {e : Env} {s : State} {m : MethodId} {args : Array Value} {below : List Frame} {meth : Method} {c : Code} {E : KEnv} {H : Heap} {locs : List Loc} {ls : Array Slot}  {M : Mem} {M' : Mem} (hC : CallFix p m c cJ5_inflateIfNeededFor_a7421 2 s args lw_G RJ5) (hr : meth.sig.returnType = none) (hlocks : meth.locks = false) (hE : EnvOK E s) (h : fj_J5_inflateIfNeededFor_a7421_21  M = some M') (hM : MOK E M H) (hS : va_S (eA E) s.heap H locs) (hl : lv_has ls 2 []) : W p l e rm_J5_inflateIfNeededFor_a7421 s m args below meth c H locs 0 0 (MQ below (cQ E none M') args s 0 0 (eA E)) (F0 m 21 ls []) := by
  obtain ⟨hx, hb, hml, hown, hts⟩ := id hC
  unfold fj_J5_inflateIfNeededFor_a7421_21 at h
  cases h
  exact eV_ hx hb hr hlocks hM hS dJ5_inflateIfNeededFor_a7421_21 (Nat.le_of_ble_eq_true rfl) (Nat.le_of_ble_eq_true rfl)
noncomputable def f_J5_inflateIfNeededFor_a7421 (this : Nat) (a1 : Nat) (M : Mem) : Option Mem :=
  (gI 12 193 this M).bind fun v1 =>
  bn (cK 6 a1 M (f_J0_coder_7d493 a1 M)) fun v2 M3 =>
  (if v1 = v2 then
  fj_J5_inflateIfNeededFor_a7421_21 M3
  else
  none)
set_option maxHeartbeats 4000000 in
set_option maxRecDepth 100000 in
theorem mt_J5_inflateIfNeededFor_a7421 (l : Launch) (E : KEnv) (this : Nat) (a1 : Nat) (M M' : Mem) (h : f_J5_inflateIfNeededFor_a7421 this a1 M = some M') : Met l yJ5_inflateIfNeededFor_a7421 (Cond.code yJ5_inflateIfNeededFor_a7421 cJ5_inflateIfNeededFor_a7421 2 none :: lw_G) rm_J5_inflateIfNeededFor_a7421 (cPc E [.ref this, .ref a1] M) (cQ E none M') 0 0 (eA E) := by
  refine Met.ofW (cc := cJ5_inflateIfNeededFor_a7421) (maxL := 2) (ret := none) (by decide) rfl ?_
  intro p e s m args below meth c s₁ B hml hv
  obtain ⟨rfl, hE, hM⟩ := hv
  have hx := B.exec
  have hb := B.bytes
  have hr := B.returns
  have hts0 := atoms_spec (ws := Cond.code yJ5_inflateIfNeededFor_a7421 cJ5_inflateIfNeededFor_a7421 2 none :: lw_G) B.pre
  have hts : ∀ w ∈ lw_G, w.before _ s = true := fun w hw => hts0 w (List.mem_cons_of_mem _ hw)
  have hown : s.vm.findClass RJ5 = some m.cls := findClass_of_methodNamed B.named
  have hlocks := B.notSynchronized
  have hC : CallFix p m c cJ5_inflateIfNeededFor_a7421 2 s _ lw_G RJ5 := ⟨hx, hb, hml, hown, hts⟩
  have hS : va_S (eA E) s.heap s.heap [] := va_S.rf
  have hl := lv_entry ([.ref this, .ref a1]) (n := 2) (Nat.le_of_ble_eq_true rfl)
  rw [lg_entry_eq]
  generalize (lg_sl ([.ref this, .ref a1]) ++ List.replicate (2 - (lg_sl ([.ref this, .ref a1])).length) Slot.unset).toArray = ls at hl ⊢
  have hl : lv_has ls 2 [(0, .ref this), (1, .ref a1)] := hl
  unfold f_J5_inflateIfNeededFor_a7421 at h
  show W p l e rm_J5_inflateIfNeededFor_a7421 s m _ below meth c s.heap [] 0 0 _ _
  refine va_gets hx hb hE.2.2.2.2.2.1 hS hown (hts _ qw_813) (fun _ h9 => h9) dJ5_inflateIfNeededFor_a7421_0 ?_
  refine lv_if_eq (tgt := 21) hx hb dJ5_inflateIfNeededFor_a7421_3 (by decide) (fun c1 => ?_) (fun c1 => ?_)
  · exact absurd c1 (by decide)
  · refine lv_aload_n hx hb dJ5_inflateIfNeededFor_a7421_6 rfl (lv_at hl 0 rfl) ?_
    obtain ⟨v1, h1, h⟩ := ob h
    refine rg_6_1 hx hb hts hown hE hM qw_854 h1 dJ5_inflateIfNeededFor_a7421_7 ?_
    refine lv_aload_n hx hb dJ5_inflateIfNeededFor_a7421_10 rfl (lv_at hl 1 rfl) ?_
    obtain ⟨v2, M3, h1, h⟩ := ob2 h
    obtain ⟨hk1, h1⟩ := ifg h1
    refine kV1 (ci := 5) (As := []) (rest := [.int v1]) hC hE hS hM (mt_J0_coder_7d493 _ E a1 _ _ _ h1) (gwV qw_755 qw_197 qw_198 qw_44 qw_199) ⟨rfl, rfl, (Nat.le_of_ble_eq_true rfl), (Nat.le_of_ble_eq_true rfl)⟩ dd_J0_coder_7d493 rfl hk1 rfl rfl hl.1 (Nat.le_of_ble_eq_true rfl) dJ5_inflateIfNeededFor_a7421_11 ⟨(Nat.le_of_ble_eq_true rfl), (Nat.le_of_ble_eq_true rfl)⟩ (fun H locs hM hS => ?_)
    refine lv_icmp_eq (tgt := 21) hx hb dJ5_inflateIfNeededFor_a7421_14 (by decide) (fun c1 => ?_) (fun c1 => ?_)
    · have h := ifp c1 h
      refine W.widen (k := 0) (n := 0) (Nat.le_of_ble_eq_true rfl) (Nat.le_of_ble_eq_true rfl) ?_
      exact tj_J5_inflateIfNeededFor_a7421_21  hC hr hlocks hE  h hM hS (lv_sub hl [] rfl)
    · have h := ifn c1 h
      refine lv_aload_n hx hb dJ5_inflateIfNeededFor_a7421_17 rfl (lv_at hl 0 rfl) ?_
      cases h

theorem dd_J5_inflateIfNeededFor_a7421_c : yJ5_inflateIfNeededFor_a7421.cls = RJ5 ∧ yJ5_inflateIfNeededFor_a7421.cls ≠ "java/lang/invoke/MethodHandle" ∧ yJ5_inflateIfNeededFor_a7421.cls ≠ "java/lang/invoke/VarHandle" ∧ (parseMethodDescriptor yJ5_inflateIfNeededFor_a7421.desc).map (fun d => d.parameters.length) = some 1 := by decide +kernel
theorem du_J5_inflateIfNeededFor_a7421_c : yJ5_inflateIfNeededFor_a7421.name ≠ "<init>" ∧ (parseMethodDescriptor yJ5_inflateIfNeededFor_a7421.desc).map (fun d => d.parameters.length) = some 1 := by decide +kernel
theorem du2_J5_inflateIfNeededFor_a7421_c : "java/lang/AbstractStringBuilder" ≠ "java/lang/invoke/MethodHandle" ∧ "java/lang/AbstractStringBuilder" ≠ "java/lang/invoke/VarHandle" ∧ (parseMethodDescriptor yJ5_inflateIfNeededFor_a7421.desc).map (fun d => d.parameters.length) = some 1 := by decide +kernel
abbrev rm_J5_inflateIfNeededFor_a7421_c : Room := ({ frames := 1, cells := 0, slots := 0, locals := 60 } : Room)
noncomputable def fj_J5_inflateIfNeededFor_a7421_c_21  (M : Mem) : Option Mem :=
  some M
set_option maxHeartbeats 4000000 in
set_option maxRecDepth 100000 in
theorem tj_J5_inflateIfNeededFor_a7421_c_21 {p : Program} {l : Launch} {e : Env} {s : State} {m : MethodId} {args : Array Value} {below : List Frame} {meth : Method} {c : Code} {E : KEnv} {H : Heap} {locs : List Loc} {ls : Array Slot}  {M : Mem} {M' : Mem} (hC : CallFix p m c cJ5_inflateIfNeededFor_a7421 2 s args lw_G RJ5) (hr : meth.sig.returnType = none) (hlocks : meth.locks = false) (hE : EnvOK E s) (h : fj_J5_inflateIfNeededFor_a7421_c_21  M = some M') (hM : MOK E M H) (hS : va_S (eA E) s.heap H locs) (hl : lv_has ls 2 []) : W p l e rm_J5_inflateIfNeededFor_a7421_c s m args below meth c H locs 0 0 (MQ below (cQ E none M') args s 0 0 (eA E)) (F0 m 21 ls []) := by
  obtain ⟨hx, hb, hml, hown, hts⟩ := id hC
  unfold fj_J5_inflateIfNeededFor_a7421_c_21 at h
  cases h
  exact eV_ hx hb hr hlocks hM hS dJ5_inflateIfNeededFor_a7421_21 (Nat.le_of_ble_eq_true rfl) (Nat.le_of_ble_eq_true rfl)
noncomputable def f_J5_inflateIfNeededFor_a7421_c (this : Nat) (a1 : Nat) (M : Mem) : Option Mem :=
  (gI 12 193 this M).bind fun v1 =>
  (gS a1).bind fun _ =>
  (if v1 = 0 then
  fj_J5_inflateIfNeededFor_a7421_c_21 M
  else
  none)
set_option maxHeartbeats 4000000 in
set_option maxRecDepth 100000 in
theorem mt_J5_inflateIfNeededFor_a7421_c (l : Launch) (E : KEnv) (this : Nat) (a1 : Nat) (M M' : Mem) (h : f_J5_inflateIfNeededFor_a7421_c this a1 M = some M') : Met l yJ5_inflateIfNeededFor_a7421 (Cond.code yJ5_inflateIfNeededFor_a7421 cJ5_inflateIfNeededFor_a7421 2 none :: lw_G) rm_J5_inflateIfNeededFor_a7421_c (cPc E [.ref this, .ref (eS E a1)] M) (cQ E none M') 0 0 (eA E) := by
  refine Met.ofW (cc := cJ5_inflateIfNeededFor_a7421) (maxL := 2) (ret := none) (by decide) rfl ?_
  intro p e s m args below meth c s₁ B hml hv
  obtain ⟨rfl, hE, hM⟩ := hv
  have hx := B.exec
  have hb := B.bytes
  have hr := B.returns
  have hts0 := atoms_spec (ws := Cond.code yJ5_inflateIfNeededFor_a7421 cJ5_inflateIfNeededFor_a7421 2 none :: lw_G) B.pre
  have hts : ∀ w ∈ lw_G, w.before _ s = true := fun w hw => hts0 w (List.mem_cons_of_mem _ hw)
  have hown : s.vm.findClass RJ5 = some m.cls := findClass_of_methodNamed B.named
  have hlocks := B.notSynchronized
  have hC : CallFix p m c cJ5_inflateIfNeededFor_a7421 2 s _ lw_G RJ5 := ⟨hx, hb, hml, hown, hts⟩
  have hS : va_S (eA E) s.heap s.heap [] := va_S.rf
  have hl := lv_entry ([.ref this, .ref (eS E a1)]) (n := 2) (Nat.le_of_ble_eq_true rfl)
  rw [lg_entry_eq]
  generalize (lg_sl ([.ref this, .ref (eS E a1)]) ++ List.replicate (2 - (lg_sl ([.ref this, .ref (eS E a1)])).length) Slot.unset).toArray = ls at hl ⊢
  have hl : lv_has ls 2 [(0, .ref this), (1, .ref (eS E a1))] := hl
  unfold f_J5_inflateIfNeededFor_a7421_c at h
  show W p l e rm_J5_inflateIfNeededFor_a7421_c s m _ below meth c s.heap [] 0 0 _ _
  refine va_gets hx hb hE.2.2.2.2.2.1 hS hown (hts _ qw_813) (fun _ h9 => h9) dJ5_inflateIfNeededFor_a7421_0 ?_
  refine lv_if_eq (tgt := 21) hx hb dJ5_inflateIfNeededFor_a7421_3 (by decide) (fun c1 => ?_) (fun c1 => ?_)
  · exact absurd c1 (by decide)
  · refine lv_aload_n hx hb dJ5_inflateIfNeededFor_a7421_6 rfl (lv_at hl 0 rfl) ?_
    obtain ⟨v1, h1, h⟩ := ob h
    refine rg_6_1 hx hb hts hown hE hM qw_854 h1 dJ5_inflateIfNeededFor_a7421_7 ?_
    refine lv_aload_n hx hb dJ5_inflateIfNeededFor_a7421_10 rfl (lv_at hl 1 rfl) ?_
    obtain ⟨_, h1, h⟩ := ob h
    have hi9 := (ifs h1).1
    refine kJ (i := a1) (As := []) (rest := [.int v1]) hC hE hS hM hi9 (mt_J0_coder _ E a1 _ hi9) (gwV qw_755 qw_197 qw_198 qw_44 qw_199) ⟨rfl, rfl, (Nat.le_of_ble_eq_true rfl), (Nat.le_of_ble_eq_true rfl)⟩ dd_J0_coder_7d493 rfl rfl hl.1 (Nat.le_of_ble_eq_true rfl) dJ5_inflateIfNeededFor_a7421_11 ⟨(Nat.le_of_ble_eq_true rfl), (Nat.le_of_ble_eq_true rfl)⟩ (fun H locs hM hS => ?_)
    refine lv_icmp_eq (tgt := 21) hx hb dJ5_inflateIfNeededFor_a7421_14 (by decide) (fun c1 => ?_) (fun c1 => ?_)
    · have h := ifp c1 h
      refine W.widen (k := 0) (n := 0) (Nat.le_of_ble_eq_true rfl) (Nat.le_of_ble_eq_true rfl) ?_
      exact tj_J5_inflateIfNeededFor_a7421_c_21  hC hr hlocks hE  h hM hS (lv_sub hl [] rfl)
    · have h := ifn c1 h
      refine lv_aload_n hx hb dJ5_inflateIfNeededFor_a7421_17 rfl (lv_at hl 0 rfl) ?_
      cases h

theorem dd_J5_putStringAt_47b60 : yJ5_putStringAt_47b60.cls = RJ5 ∧ yJ5_putStringAt_47b60.cls ≠ "java/lang/invoke/MethodHandle" ∧ yJ5_putStringAt_47b60.cls ≠ "java/lang/invoke/VarHandle" ∧ (parseMethodDescriptor yJ5_putStringAt_47b60.desc).map (fun d => d.parameters.length) = some 2 := by decide +kernel
theorem du_J5_putStringAt_47b60 : yJ5_putStringAt_47b60.name ≠ "<init>" ∧ (parseMethodDescriptor yJ5_putStringAt_47b60.desc).map (fun d => d.parameters.length) = some 2 := by decide +kernel
theorem du2_J5_putStringAt_47b60 : "java/lang/AbstractStringBuilder" ≠ "java/lang/invoke/MethodHandle" ∧ "java/lang/AbstractStringBuilder" ≠ "java/lang/invoke/VarHandle" ∧ (parseMethodDescriptor yJ5_putStringAt_47b60.desc).map (fun d => d.parameters.length) = some 2 := by decide +kernel
abbrev rm_J5_putStringAt_47b60 : Room := ({ frames := 2, cells := 0, slots := 0, locals := 83 } : Room)
noncomputable def f_J5_putStringAt_47b60 (this : Nat) (a1 : Int32) (a2 : Nat) (M : Mem) : Option Mem :=
  (cK 12 this M (f_J5_inflateIfNeededFor_a7421 this a2 M)).bind fun M2 =>
  (gRn 12 192 this M2).bind fun v3 =>
  (gI 12 193 this M2).bind fun v4 =>
  (cK 6 a2 M2 (f_J0_getBytes_840e7 a2 v3 a1 v4 M2)).bind fun M6 =>
  some M6
set_option maxHeartbeats 4000000 in
set_option maxRecDepth 100000 in
theorem mt_J5_putStringAt_47b60 (l : Launch) (E : KEnv) (this : Nat) (a1 : Int32) (a2 : Nat) (M M' : Mem) (h : f_J5_putStringAt_47b60 this a1 a2 M = some M') : Met l yJ5_putStringAt_47b60 (Cond.code yJ5_putStringAt_47b60 cJ5_putStringAt_47b60 3 none :: lw_G) rm_J5_putStringAt_47b60 (cPc E [.ref this, .int a1, .ref a2] M) (cQ E none M') 0 0 (eA E) := by
  refine Met.ofW (cc := cJ5_putStringAt_47b60) (maxL := 3) (ret := none) (by decide) rfl ?_
  intro p e s m args below meth c s₁ B hml hv
  obtain ⟨rfl, hE, hM⟩ := hv
  have hx := B.exec
  have hb := B.bytes
  have hr := B.returns
  have hts0 := atoms_spec (ws := Cond.code yJ5_putStringAt_47b60 cJ5_putStringAt_47b60 3 none :: lw_G) B.pre
  have hts : ∀ w ∈ lw_G, w.before _ s = true := fun w hw => hts0 w (List.mem_cons_of_mem _ hw)
  have hown : s.vm.findClass RJ5 = some m.cls := findClass_of_methodNamed B.named
  have hlocks := B.notSynchronized
  have hC : CallFix p m c cJ5_putStringAt_47b60 3 s _ lw_G RJ5 := ⟨hx, hb, hml, hown, hts⟩
  have hS : va_S (eA E) s.heap s.heap [] := va_S.rf
  have hl := lv_entry ([.ref this, .int a1, .ref a2]) (n := 3) (Nat.le_of_ble_eq_true rfl)
  rw [lg_entry_eq]
  generalize (lg_sl ([.ref this, .int a1, .ref a2]) ++ List.replicate (3 - (lg_sl ([.ref this, .int a1, .ref a2])).length) Slot.unset).toArray = ls at hl ⊢
  have hl : lv_has ls 3 [(0, .ref this), (1, .int a1), (2, .ref a2)] := hl
  unfold f_J5_putStringAt_47b60 at h
  show W p l e rm_J5_putStringAt_47b60 s m _ below meth c s.heap [] 0 0 _ _
  refine lv_aload_n hx hb dJ5_putStringAt_47b60_0 rfl (lv_at hl 0 rfl) ?_
  refine lv_aload_n hx hb dJ5_putStringAt_47b60_1 rfl (lv_at hl 2 rfl) ?_
  obtain ⟨M2, h1, h⟩ := ob h
  obtain ⟨hk1, h1⟩ := ifg h1
  refine kU0 (owner := "java/lang/AbstractStringBuilder") (x := yJ5_inflateIfNeededFor_a7421) (y := yJ5_inflateIfNeededFor_a7421) (As := [.ref a2]) (rest := []) hC hE hS hM (mt_J5_inflateIfNeededFor_a7421 _ E this a2 _ _ h1) (gwU qw_833 qw_1209 qw_1213 qw_835 qw_50 qw_836) rfl ⟨rfl, rfl, (Nat.le_of_ble_eq_true rfl), (Nat.le_of_ble_eq_true rfl)⟩ du2_J5_inflateIfNeededFor_a7421 rfl hk1 rfl hl.1 (Nat.le_of_ble_eq_true rfl) dJ5_putStringAt_47b60_2 ⟨(Nat.le_of_ble_eq_true rfl), (Nat.le_of_ble_eq_true rfl)⟩ (fun H locs hM hS => ?_)
  refine lv_aload_n hx hb dJ5_putStringAt_47b60_5 rfl (lv_at hl 2 rfl) ?_
  refine lv_aload_n hx hb dJ5_putStringAt_47b60_6 rfl (lv_at hl 0 rfl) ?_
  obtain ⟨v3, h1, h⟩ := ob h
  refine rgn_6_0 hx hb hts hown hE hM qw_853 h1 dJ5_putStringAt_47b60_7 ?_
  refine lv_iload_n hx hb dJ5_putStringAt_47b60_10 rfl (lv_at hl 1 rfl) ?_
  refine lv_aload_n hx hb dJ5_putStringAt_47b60_11 rfl (lv_at hl 0 rfl) ?_
  obtain ⟨v4, h1, h⟩ := ob h
  refine rg_6_1 hx hb hts hown hE hM qw_854 h1 dJ5_putStringAt_47b60_12 ?_
  obtain ⟨M6, h1, h⟩ := ob h
  obtain ⟨hk1, h1⟩ := ifg h1
  refine kV0 (ci := 5) (As := [.ref v3, .int a1, .int v4]) (rest := []) hC hE hS hM (mt_J0_getBytes_840e7 _ E a2 v3 a1 v4 _ _ h1) (gwV qw_847 qw_848 qw_849 qw_44 qw_850) ⟨rfl, rfl, (Nat.le_of_ble_eq_true rfl), (Nat.le_of_ble_eq_true rfl)⟩ dd_J0_getBytes_840e7 rfl hk1 rfl rfl hl.1 (Nat.le_of_ble_eq_true rfl) dJ5_putStringAt_47b60_15 ⟨(Nat.le_of_ble_eq_true rfl), (Nat.le_of_ble_eq_true rfl)⟩ (fun H locs hM hS => ?_)
  cases h
  exact eV_ hx hb hr hlocks hM hS dJ5_putStringAt_47b60_18 (Nat.le_of_ble_eq_true rfl) (Nat.le_of_ble_eq_true rfl)

theorem dd_J5_putStringAt_47b60_c : yJ5_putStringAt_47b60.cls = RJ5 ∧ yJ5_putStringAt_47b60.cls ≠ "java/lang/invoke/MethodHandle" ∧ yJ5_putStringAt_47b60.cls ≠ "java/lang/invoke/VarHandle" ∧ (parseMethodDescriptor yJ5_putStringAt_47b60.desc).map (fun d => d.parameters.length) = some 2 := by decide +kernel
theorem du_J5_putStringAt_47b60_c : yJ5_putStringAt_47b60.name ≠ "<init>" ∧ (parseMethodDescriptor yJ5_putStringAt_47b60.desc).map (fun d => d.parameters.length) = some 2 := by decide +kernel
theorem du2_J5_putStringAt_47b60_c : "java/lang/AbstractStringBuilder" ≠ "java/lang/invoke/MethodHandle" ∧ "java/lang/AbstractStringBuilder" ≠ "java/lang/invoke/VarHandle" ∧ (parseMethodDescriptor yJ5_putStringAt_47b60.desc).map (fun d => d.parameters.length) = some 2 := by decide +kernel
abbrev rm_J5_putStringAt_47b60_c : Room := ({ frames := 2, cells := 0, slots := 0, locals := 83 } : Room)
noncomputable def f_J5_putStringAt_47b60_c (this : Nat) (a1 : Int32) (a2 : Nat) (M : Mem) : Option Mem :=
  (cK 12 this M (f_J5_inflateIfNeededFor_a7421_c this a2 M)).bind fun M2 =>
  (gRn 12 192 this M2).bind fun v3 =>
  (gI 12 193 this M2).bind fun v4 =>
  (gS a2).bind fun _ =>
  (f_J0_getBytes_840e7_c a2 v3 a1 v4 M2).bind fun M6 =>
  some M6
set_option maxHeartbeats 4000000 in
set_option maxRecDepth 100000 in
theorem mt_J5_putStringAt_47b60_c (l : Launch) (E : KEnv) (this : Nat) (a1 : Int32) (a2 : Nat) (M M' : Mem) (h : f_J5_putStringAt_47b60_c this a1 a2 M = some M') : Met l yJ5_putStringAt_47b60 (Cond.code yJ5_putStringAt_47b60 cJ5_putStringAt_47b60 3 none :: lw_G) rm_J5_putStringAt_47b60_c (cPc E [.ref this, .int a1, .ref (eS E a2)] M) (cQ E none M') 0 0 (eA E) := by
  refine Met.ofW (cc := cJ5_putStringAt_47b60) (maxL := 3) (ret := none) (by decide) rfl ?_
  intro p e s m args below meth c s₁ B hml hv
  obtain ⟨rfl, hE, hM⟩ := hv
  have hx := B.exec
  have hb := B.bytes
  have hr := B.returns
  have hts0 := atoms_spec (ws := Cond.code yJ5_putStringAt_47b60 cJ5_putStringAt_47b60 3 none :: lw_G) B.pre
  have hts : ∀ w ∈ lw_G, w.before _ s = true := fun w hw => hts0 w (List.mem_cons_of_mem _ hw)
  have hown : s.vm.findClass RJ5 = some m.cls := findClass_of_methodNamed B.named
  have hlocks := B.notSynchronized
  have hC : CallFix p m c cJ5_putStringAt_47b60 3 s _ lw_G RJ5 := ⟨hx, hb, hml, hown, hts⟩
  have hS : va_S (eA E) s.heap s.heap [] := va_S.rf
  have hl := lv_entry ([.ref this, .int a1, .ref (eS E a2)]) (n := 3) (Nat.le_of_ble_eq_true rfl)
  rw [lg_entry_eq]
  generalize (lg_sl ([.ref this, .int a1, .ref (eS E a2)]) ++ List.replicate (3 - (lg_sl ([.ref this, .int a1, .ref (eS E a2)])).length) Slot.unset).toArray = ls at hl ⊢
  have hl : lv_has ls 3 [(0, .ref this), (1, .int a1), (2, .ref (eS E a2))] := hl
  unfold f_J5_putStringAt_47b60_c at h
  show W p l e rm_J5_putStringAt_47b60_c s m _ below meth c s.heap [] 0 0 _ _
  refine lv_aload_n hx hb dJ5_putStringAt_47b60_0 rfl (lv_at hl 0 rfl) ?_
  refine lv_aload_n hx hb dJ5_putStringAt_47b60_1 rfl (lv_at hl 2 rfl) ?_
  obtain ⟨M2, h1, h⟩ := ob h
  obtain ⟨hk1, h1⟩ := ifg h1
  refine kU0 (owner := "java/lang/AbstractStringBuilder") (x := yJ5_inflateIfNeededFor_a7421) (y := yJ5_inflateIfNeededFor_a7421) (As := [.ref (eS E a2)]) (rest := []) hC hE hS hM (mt_J5_inflateIfNeededFor_a7421_c _ E this a2 _ _ h1) (gwU qw_833 qw_1209 qw_1213 qw_835 qw_50 qw_836) rfl ⟨rfl, rfl, (Nat.le_of_ble_eq_true rfl), (Nat.le_of_ble_eq_true rfl)⟩ du2_J5_inflateIfNeededFor_a7421_c rfl hk1 rfl hl.1 (Nat.le_of_ble_eq_true rfl) dJ5_putStringAt_47b60_2 ⟨(Nat.le_of_ble_eq_true rfl), (Nat.le_of_ble_eq_true rfl)⟩ (fun H locs hM hS => ?_)
  refine lv_aload_n hx hb dJ5_putStringAt_47b60_5 rfl (lv_at hl 2 rfl) ?_
  refine lv_aload_n hx hb dJ5_putStringAt_47b60_6 rfl (lv_at hl 0 rfl) ?_
  obtain ⟨v3, h1, h⟩ := ob h
  refine rgn_6_0 hx hb hts hown hE hM qw_853 h1 dJ5_putStringAt_47b60_7 ?_
  refine lv_iload_n hx hb dJ5_putStringAt_47b60_10 rfl (lv_at hl 1 rfl) ?_
  refine lv_aload_n hx hb dJ5_putStringAt_47b60_11 rfl (lv_at hl 0 rfl) ?_
  obtain ⟨v4, h1, h⟩ := ob h
  refine rg_6_1 hx hb hts hown hE hM qw_854 h1 dJ5_putStringAt_47b60_12 ?_
  obtain ⟨_, h1, h⟩ := ob h
  have hi9 := (ifs h1).1
  obtain ⟨M6, h1, h⟩ := ob h
  refine kJ0 (i := a2) (As := [.ref v3, .int a1, .int v4]) (rest := []) hC hE hS hM hi9 (mt_J0_getBytes_840e7_c _ E a2 v3 a1 v4 _ _ h1) (gwV qw_847 qw_848 qw_849 qw_44 qw_850) ⟨rfl, rfl, (Nat.le_of_ble_eq_true rfl), (Nat.le_of_ble_eq_true rfl)⟩ dd_J0_getBytes_840e7_c rfl rfl hl.1 (Nat.le_of_ble_eq_true rfl) dJ5_putStringAt_47b60_15 ⟨(Nat.le_of_ble_eq_true rfl), (Nat.le_of_ble_eq_true rfl)⟩ (fun H locs hM hS => ?_)
  cases h
  exact eV_ hx hb hr hlocks hM hS dJ5_putStringAt_47b60_18 (Nat.le_of_ble_eq_true rfl) (Nat.le_of_ble_eq_true rfl)

theorem dd_J5_append_cf1ce : yJ5_append_cf1ce.cls = RJ5 ∧ yJ5_append_cf1ce.cls ≠ "java/lang/invoke/MethodHandle" ∧ yJ5_append_cf1ce.cls ≠ "java/lang/invoke/VarHandle" ∧ (parseMethodDescriptor yJ5_append_cf1ce.desc).map (fun d => d.parameters.length) = some 1 := by decide +kernel
theorem du_J5_append_cf1ce : yJ5_append_cf1ce.name ≠ "<init>" ∧ (parseMethodDescriptor yJ5_append_cf1ce.desc).map (fun d => d.parameters.length) = some 1 := by decide +kernel
theorem du2_J5_append_cf1ce : "java/lang/AbstractStringBuilder" ≠ "java/lang/invoke/MethodHandle" ∧ "java/lang/AbstractStringBuilder" ≠ "java/lang/invoke/VarHandle" ∧ (parseMethodDescriptor yJ5_append_cf1ce.desc).map (fun d => d.parameters.length) = some 1 := by decide +kernel
abbrev rm_J5_append_cf1ce : Room := ({ frames := 4, cells := 1, slots := 512, locals := 105 } : Room)
noncomputable def f_J5_append_cf1ce (this : Nat) (a1 : Nat) (M : Mem) : Option (Nat × Mem) :=
  bn (cK 6 a1 M (f_J0_length_8abf5 a1 M)) fun v1 M2 =>
  (gI 12 195 this M2).bind fun v3 =>
  (cK 12 this M2 (f_J5_ensureCapacityInternal_d00df this (v3 + v1) M2)).bind fun M5 =>
  (gI 12 195 this M5).bind fun v6 =>
  (cK 12 this M5 (f_J5_putStringAt_47b60 this v6 a1 M5)).bind fun M8 =>
  (gI 12 195 this M8).bind fun v9 =>
  (sI 12 195 this (v9 + v1) M8).bind fun M10 =>
  some (this, M10)
set_option maxHeartbeats 4000000 in
set_option maxRecDepth 100000 in
theorem mt_J5_append_cf1ce (l : Launch) (E : KEnv) (this : Nat) (a1 : Nat) (M M' : Mem) (v : Nat) (h : f_J5_append_cf1ce this a1 M = some (v, M')) : Met l yJ5_append_cf1ce (Cond.code yJ5_append_cf1ce cJ5_append_cf1ce 3 (some (.object "java/lang/AbstractStringBuilder")) :: lw_G) rm_J5_append_cf1ce (cPc E [.ref this, .ref a1] M) (cQ E (some (.ref v)) M') 1 512 (eA E) := by
  refine Met.ofW (cc := cJ5_append_cf1ce) (maxL := 3) (ret := (some (.object "java/lang/AbstractStringBuilder"))) (by decide) rfl ?_
  intro p e s m args below meth c s₁ B hml hv
  obtain ⟨rfl, hE, hM⟩ := hv
  have hx := B.exec
  have hb := B.bytes
  have hr := B.returns
  have hts0 := atoms_spec (ws := Cond.code yJ5_append_cf1ce cJ5_append_cf1ce 3 (some (.object "java/lang/AbstractStringBuilder")) :: lw_G) B.pre
  have hts : ∀ w ∈ lw_G, w.before _ s = true := fun w hw => hts0 w (List.mem_cons_of_mem _ hw)
  have hown : s.vm.findClass RJ5 = some m.cls := findClass_of_methodNamed B.named
  have hlocks := B.notSynchronized
  have hC : CallFix p m c cJ5_append_cf1ce 3 s _ lw_G RJ5 := ⟨hx, hb, hml, hown, hts⟩
  have hS : va_S (eA E) s.heap s.heap [] := va_S.rf
  have hl := lv_entry ([.ref this, .ref a1]) (n := 3) (Nat.le_of_ble_eq_true rfl)
  rw [lg_entry_eq]
  generalize (lg_sl ([.ref this, .ref a1]) ++ List.replicate (3 - (lg_sl ([.ref this, .ref a1])).length) Slot.unset).toArray = ls at hl ⊢
  have hl : lv_has ls 3 [(0, .ref this), (1, .ref a1)] := hl
  unfold f_J5_append_cf1ce at h
  show W p l e rm_J5_append_cf1ce s m _ below meth c s.heap [] 0 0 _ _
  refine lv_aload_n hx hb dJ5_append_cf1ce_0 rfl (lv_at hl 1 rfl) ?_
  refine lv_ifnonnull (tgt := 9) hx hb dJ5_append_cf1ce_1 (by decide) ?_
  refine lv_aload_n hx hb dJ5_append_cf1ce_9 rfl (lv_at hl 1 rfl) ?_
  obtain ⟨v1, M2, h1, h⟩ := ob2 h
  obtain ⟨hk1, h1⟩ := ifg h1
  refine kV1 (ci := 5) (As := []) (rest := []) hC hE hS hM (mt_J0_length_8abf5 _ E a1 _ _ _ h1) (gwV qw_752 qw_193 qw_194 qw_44 qw_195) ⟨rfl, rfl, (Nat.le_of_ble_eq_true rfl), (Nat.le_of_ble_eq_true rfl)⟩ dd_J0_length_8abf5 rfl hk1 rfl rfl hl.1 (Nat.le_of_ble_eq_true rfl) dJ5_append_cf1ce_10 ⟨(Nat.le_of_ble_eq_true rfl), (Nat.le_of_ble_eq_true rfl)⟩ (fun H locs hM hS => ?_)
  refine lv_istore_n (lv' := [(2, .int v1), (0, .ref this), (1, .ref a1)]) hx hb dJ5_append_cf1ce_13 rfl hl (by decide) rfl (fun ls hl => ?_)
  refine lv_aload_n hx hb dJ5_append_cf1ce_14 rfl (lv_at hl 1 rfl) ?_
  refine lv_aload_n hx hb dJ5_append_cf1ce_15 rfl (lv_at hl 1 rfl) ?_
  obtain ⟨v3, h1, h⟩ := ob h
  refine rg_6_3 hx hb hts hown hE hM qw_856 h1 dJ5_append_cf1ce_16 ?_
  refine lv_iload_n hx hb dJ5_append_cf1ce_19 rfl (lv_at hl 0 rfl) ?_
  refine lv_iadd hx hb dJ5_append_cf1ce_20 ?_
  obtain ⟨M5, h1, h⟩ := ob h
  obtain ⟨hk1, h1⟩ := ifg h1
  refine kU0 (owner := "java/lang/AbstractStringBuilder") (x := yJ5_ensureCapacityInternal_d00df) (y := yJ5_ensureCapacityInternal_d00df) (As := [.int (v3 + v1)]) (rest := []) hC hE hS hM (mt_J5_ensureCapacityInternal_d00df _ E this (v3 + v1) _ _ h1) (gwU qw_780 qw_1206 qw_1216 qw_782 qw_50 qw_783) rfl ⟨rfl, rfl, (Nat.le_of_ble_eq_true rfl), (Nat.le_of_ble_eq_true rfl)⟩ du2_J5_ensureCapacityInternal_d00df rfl hk1 rfl hl.1 (Nat.le_of_ble_eq_true rfl) dJ5_append_cf1ce_21 ⟨(Nat.le_of_ble_eq_true rfl), (Nat.le_of_ble_eq_true rfl)⟩ (fun H locs hM hS => ?_)
  refine lv_aload_n hx hb dJ5_append_cf1ce_24 rfl (lv_at hl 1 rfl) ?_
  refine lv_aload_n hx hb dJ5_append_cf1ce_25 rfl (lv_at hl 1 rfl) ?_
  obtain ⟨v6, h1, h⟩ := ob h
  refine rg_6_3 hx hb hts hown hE hM qw_856 h1 dJ5_append_cf1ce_26 ?_
  refine lv_aload_n hx hb dJ5_append_cf1ce_29 rfl (lv_at hl 2 rfl) ?_
  obtain ⟨M8, h1, h⟩ := ob h
  obtain ⟨hk1, h1⟩ := ifg h1
  refine kU0 (owner := "java/lang/AbstractStringBuilder") (x := yJ5_putStringAt_47b60) (y := yJ5_putStringAt_47b60) (As := [.int v6, .ref a1]) (rest := []) hC hE hS hM (mt_J5_putStringAt_47b60 _ E this v6 a1 _ _ h1) (gwU qw_829 qw_1208 qw_1215 qw_831 qw_50 qw_832) rfl ⟨rfl, rfl, (Nat.le_of_ble_eq_true rfl), (Nat.le_of_ble_eq_true rfl)⟩ du2_J5_putStringAt_47b60 rfl hk1 rfl hl.1 (Nat.le_of_ble_eq_true rfl) dJ5_append_cf1ce_30 ⟨(Nat.le_of_ble_eq_true rfl), (Nat.le_of_ble_eq_true rfl)⟩ (fun H locs hM hS => ?_)
  refine lv_aload_n hx hb dJ5_append_cf1ce_33 rfl (lv_at hl 1 rfl) ?_
  refine lv_dup hx hb dJ5_append_cf1ce_34 rfl ?_
  obtain ⟨v9, h1, h⟩ := ob h
  refine rg_6_3 hx hb hts hown hE hM qw_856 h1 dJ5_append_cf1ce_35 ?_
  refine lv_iload_n hx hb dJ5_append_cf1ce_38 rfl (lv_at hl 0 rfl) ?_
  refine lv_iadd hx hb dJ5_append_cf1ce_39 ?_
  obtain ⟨M10, h1, h⟩ := ob h
  refine rp_6_3 hx hb hts hown hE hM qw_856 hS h1 dJ5_append_cf1ce_40 (fun H locs hM hS => ?_)
  refine lv_aload_n hx hb dJ5_append_cf1ce_43 rfl (lv_at hl 1 rfl) ?_
  cases h
  exact eR hx hb hr (by first | exact Or.inl ⟨_, rfl⟩ | exact Or.inr ⟨_, rfl⟩) hlocks hM hS dJ5_append_cf1ce_44 (Nat.le_of_ble_eq_true rfl) (Nat.le_of_ble_eq_true rfl)

theorem dd_J5_append_cf1ce_c : yJ5_append_cf1ce.cls = RJ5 ∧ yJ5_append_cf1ce.cls ≠ "java/lang/invoke/MethodHandle" ∧ yJ5_append_cf1ce.cls ≠ "java/lang/invoke/VarHandle" ∧ (parseMethodDescriptor yJ5_append_cf1ce.desc).map (fun d => d.parameters.length) = some 1 := by decide +kernel
theorem du_J5_append_cf1ce_c : yJ5_append_cf1ce.name ≠ "<init>" ∧ (parseMethodDescriptor yJ5_append_cf1ce.desc).map (fun d => d.parameters.length) = some 1 := by decide +kernel
theorem du2_J5_append_cf1ce_c : "java/lang/AbstractStringBuilder" ≠ "java/lang/invoke/MethodHandle" ∧ "java/lang/AbstractStringBuilder" ≠ "java/lang/invoke/VarHandle" ∧ (parseMethodDescriptor yJ5_append_cf1ce.desc).map (fun d => d.parameters.length) = some 1 := by decide +kernel
abbrev rm_J5_append_cf1ce_c : Room := ({ frames := 4, cells := 1, slots := 512, locals := 105 } : Room)
noncomputable def f_J5_append_cf1ce_c (this : Nat) (a1 : Nat) (M : Mem) : Option (Nat × Mem) :=
  (jLen a1).bind fun v3 =>
  (gI 12 195 this M).bind fun v4 =>
  (cK 12 this M (f_J5_ensureCapacityInternal_d00df this (v4 + v3) M)).bind fun M6 =>
  (gI 12 195 this M6).bind fun v7 =>
  (cK 12 this M6 (f_J5_putStringAt_47b60_c this v7 a1 M6)).bind fun M9 =>
  (gI 12 195 this M9).bind fun v10 =>
  (sI 12 195 this (v10 + v3) M9).bind fun M11 =>
  some (this, M11)
set_option maxHeartbeats 4000000 in
set_option maxRecDepth 100000 in
theorem mt_J5_append_cf1ce_c (l : Launch) (E : KEnv) (this : Nat) (a1 : Nat) (M M' : Mem) (v : Nat) (h : f_J5_append_cf1ce_c this a1 M = some (v, M')) : Met l yJ5_append_cf1ce (Cond.code yJ5_append_cf1ce cJ5_append_cf1ce 3 (some (.object "java/lang/AbstractStringBuilder")) :: lw_G) rm_J5_append_cf1ce_c (cPc E [.ref this, .ref (eS E a1)] M) (cQ E (some (.ref v)) M') 1 512 (eA E) := by
  refine Met.ofW (cc := cJ5_append_cf1ce) (maxL := 3) (ret := (some (.object "java/lang/AbstractStringBuilder"))) (by decide) rfl ?_
  intro p e s m args below meth c s₁ B hml hv
  obtain ⟨rfl, hE, hM⟩ := hv
  have hx := B.exec
  have hb := B.bytes
  have hr := B.returns
  have hts0 := atoms_spec (ws := Cond.code yJ5_append_cf1ce cJ5_append_cf1ce 3 (some (.object "java/lang/AbstractStringBuilder")) :: lw_G) B.pre
  have hts : ∀ w ∈ lw_G, w.before _ s = true := fun w hw => hts0 w (List.mem_cons_of_mem _ hw)
  have hown : s.vm.findClass RJ5 = some m.cls := findClass_of_methodNamed B.named
  have hlocks := B.notSynchronized
  have hC : CallFix p m c cJ5_append_cf1ce 3 s _ lw_G RJ5 := ⟨hx, hb, hml, hown, hts⟩
  have hS : va_S (eA E) s.heap s.heap [] := va_S.rf
  have hl := lv_entry ([.ref this, .ref (eS E a1)]) (n := 3) (Nat.le_of_ble_eq_true rfl)
  rw [lg_entry_eq]
  generalize (lg_sl ([.ref this, .ref (eS E a1)]) ++ List.replicate (3 - (lg_sl ([.ref this, .ref (eS E a1)])).length) Slot.unset).toArray = ls at hl ⊢
  have hl : lv_has ls 3 [(0, .ref this), (1, .ref (eS E a1))] := hl
  unfold f_J5_append_cf1ce_c at h
  show W p l e rm_J5_append_cf1ce_c s m _ below meth c s.heap [] 0 0 _ _
  refine lv_aload_n hx hb dJ5_append_cf1ce_0 rfl (lv_at hl 1 rfl) ?_
  refine lv_ifnonnull (tgt := 9) hx hb dJ5_append_cf1ce_1 (by decide) ?_
  refine lv_aload_n hx hb dJ5_append_cf1ce_9 rfl (lv_at hl 1 rfl) ?_
  obtain ⟨v3, h1, h⟩ := ob h
  refine rJ_length (rest := []) hC hE hS hM h1 qw_752 (Nat.le_of_ble_eq_true rfl) (Nat.le_of_ble_eq_true rfl) rfl rfl hl.1 (Nat.le_of_ble_eq_true rfl) dJ5_append_cf1ce_10 ⟨(Nat.le_of_ble_eq_true rfl), (Nat.le_of_ble_eq_true rfl)⟩ (fun H locs hM hS => ?_)
  refine lv_istore_n (lv' := [(2, .int v3), (0, .ref this), (1, .ref (eS E a1))]) hx hb dJ5_append_cf1ce_13 rfl hl (by decide) rfl (fun ls hl => ?_)
  refine lv_aload_n hx hb dJ5_append_cf1ce_14 rfl (lv_at hl 1 rfl) ?_
  refine lv_aload_n hx hb dJ5_append_cf1ce_15 rfl (lv_at hl 1 rfl) ?_
  obtain ⟨v4, h1, h⟩ := ob h
  refine rg_6_3 hx hb hts hown hE hM qw_856 h1 dJ5_append_cf1ce_16 ?_
  refine lv_iload_n hx hb dJ5_append_cf1ce_19 rfl (lv_at hl 0 rfl) ?_
  refine lv_iadd hx hb dJ5_append_cf1ce_20 ?_
  obtain ⟨M6, h1, h⟩ := ob h
  obtain ⟨hk1, h1⟩ := ifg h1
  refine kU0 (owner := "java/lang/AbstractStringBuilder") (x := yJ5_ensureCapacityInternal_d00df) (y := yJ5_ensureCapacityInternal_d00df) (As := [.int (v4 + v3)]) (rest := []) hC hE hS hM (mt_J5_ensureCapacityInternal_d00df _ E this (v4 + v3) _ _ h1) (gwU qw_780 qw_1206 qw_1216 qw_782 qw_50 qw_783) rfl ⟨rfl, rfl, (Nat.le_of_ble_eq_true rfl), (Nat.le_of_ble_eq_true rfl)⟩ du2_J5_ensureCapacityInternal_d00df rfl hk1 rfl hl.1 (Nat.le_of_ble_eq_true rfl) dJ5_append_cf1ce_21 ⟨(Nat.le_of_ble_eq_true rfl), (Nat.le_of_ble_eq_true rfl)⟩ (fun H locs hM hS => ?_)
  refine lv_aload_n hx hb dJ5_append_cf1ce_24 rfl (lv_at hl 1 rfl) ?_
  refine lv_aload_n hx hb dJ5_append_cf1ce_25 rfl (lv_at hl 1 rfl) ?_
  obtain ⟨v7, h1, h⟩ := ob h
  refine rg_6_3 hx hb hts hown hE hM qw_856 h1 dJ5_append_cf1ce_26 ?_
  refine lv_aload_n hx hb dJ5_append_cf1ce_29 rfl (lv_at hl 2 rfl) ?_
  obtain ⟨M9, h1, h⟩ := ob h
  obtain ⟨hk1, h1⟩ := ifg h1
  refine kU0 (owner := "java/lang/AbstractStringBuilder") (x := yJ5_putStringAt_47b60) (y := yJ5_putStringAt_47b60) (As := [.int v7, .ref (eS E a1)]) (rest := []) hC hE hS hM (mt_J5_putStringAt_47b60_c _ E this v7 a1 _ _ h1) (gwU qw_829 qw_1208 qw_1215 qw_831 qw_50 qw_832) rfl ⟨rfl, rfl, (Nat.le_of_ble_eq_true rfl), (Nat.le_of_ble_eq_true rfl)⟩ du2_J5_putStringAt_47b60_c rfl hk1 rfl hl.1 (Nat.le_of_ble_eq_true rfl) dJ5_append_cf1ce_30 ⟨(Nat.le_of_ble_eq_true rfl), (Nat.le_of_ble_eq_true rfl)⟩ (fun H locs hM hS => ?_)
  refine lv_aload_n hx hb dJ5_append_cf1ce_33 rfl (lv_at hl 1 rfl) ?_
  refine lv_dup hx hb dJ5_append_cf1ce_34 rfl ?_
  obtain ⟨v10, h1, h⟩ := ob h
  refine rg_6_3 hx hb hts hown hE hM qw_856 h1 dJ5_append_cf1ce_35 ?_
  refine lv_iload_n hx hb dJ5_append_cf1ce_38 rfl (lv_at hl 0 rfl) ?_
  refine lv_iadd hx hb dJ5_append_cf1ce_39 ?_
  obtain ⟨M11, h1, h⟩ := ob h
  refine rp_6_3 hx hb hts hown hE hM qw_856 hS h1 dJ5_append_cf1ce_40 (fun H locs hM hS => ?_)
  refine lv_aload_n hx hb dJ5_append_cf1ce_43 rfl (lv_at hl 1 rfl) ?_
  cases h
  exact eR hx hb hr (by first | exact Or.inl ⟨_, rfl⟩ | exact Or.inr ⟨_, rfl⟩) hlocks hM hS dJ5_append_cf1ce_44 (Nat.le_of_ble_eq_true rfl) (Nat.le_of_ble_eq_true rfl)

theorem dd_J4_append_15ec4 : yJ4_append_15ec4.cls = RJ4 ∧ yJ4_append_15ec4.cls ≠ "java/lang/invoke/MethodHandle" ∧ yJ4_append_15ec4.cls ≠ "java/lang/invoke/VarHandle" ∧ (parseMethodDescriptor yJ4_append_15ec4.desc).map (fun d => d.parameters.length) = some 1 := by decide +kernel
theorem du_J4_append_15ec4 : yJ4_append_15ec4.name ≠ "<init>" ∧ (parseMethodDescriptor yJ4_append_15ec4.desc).map (fun d => d.parameters.length) = some 1 := by decide +kernel
theorem du2_J4_append_15ec4 : "java/lang/AbstractStringBuilder" ≠ "java/lang/invoke/MethodHandle" ∧ "java/lang/AbstractStringBuilder" ≠ "java/lang/invoke/VarHandle" ∧ (parseMethodDescriptor yJ4_append_15ec4.desc).map (fun d => d.parameters.length) = some 1 := by decide +kernel
abbrev rm_J4_append_15ec4 : Room := ({ frames := 5, cells := 1, slots := 512, locals := 127 } : Room)
noncomputable def f_J4_append_15ec4 (this : Nat) (a1 : Nat) (M : Mem) : Option (Nat × Mem) :=
  bn (cK 12 this M (f_J5_append_cf1ce this a1 M)) fun v1 M2 =>
  some (this, M2)
set_option maxHeartbeats 4000000 in
set_option maxRecDepth 100000 in
theorem mt_J4_append_15ec4 (l : Launch) (E : KEnv) (this : Nat) (a1 : Nat) (M M' : Mem) (v : Nat) (h : f_J4_append_15ec4 this a1 M = some (v, M')) : Met l yJ4_append_15ec4 (Cond.code yJ4_append_15ec4 cJ4_append_15ec4 2 (some (.object "java/lang/StringBuilder")) :: lw_G) rm_J4_append_15ec4 (cPc E [.ref this, .ref a1] M) (cQ E (some (.ref v)) M') 1 512 (eA E) := by
  refine Met.ofW (cc := cJ4_append_15ec4) (maxL := 2) (ret := (some (.object "java/lang/StringBuilder"))) (by decide) rfl ?_
  intro p e s m args below meth c s₁ B hml hv
  obtain ⟨rfl, hE, hM⟩ := hv
  have hx := B.exec
  have hb := B.bytes
  have hr := B.returns
  have hts0 := atoms_spec (ws := Cond.code yJ4_append_15ec4 cJ4_append_15ec4 2 (some (.object "java/lang/StringBuilder")) :: lw_G) B.pre
  have hts : ∀ w ∈ lw_G, w.before _ s = true := fun w hw => hts0 w (List.mem_cons_of_mem _ hw)
  have hown : s.vm.findClass RJ4 = some m.cls := findClass_of_methodNamed B.named
  have hlocks := B.notSynchronized
  have hC : CallFix p m c cJ4_append_15ec4 2 s _ lw_G RJ4 := ⟨hx, hb, hml, hown, hts⟩
  have hS : va_S (eA E) s.heap s.heap [] := va_S.rf
  have hl := lv_entry ([.ref this, .ref a1]) (n := 2) (Nat.le_of_ble_eq_true rfl)
  rw [lg_entry_eq]
  generalize (lg_sl ([.ref this, .ref a1]) ++ List.replicate (2 - (lg_sl ([.ref this, .ref a1])).length) Slot.unset).toArray = ls at hl ⊢
  have hl : lv_has ls 2 [(0, .ref this), (1, .ref a1)] := hl
  unfold f_J4_append_15ec4 at h
  show W p l e rm_J4_append_15ec4 s m _ below meth c s.heap [] 0 0 _ _
  refine lv_aload_n hx hb dJ4_append_15ec4_0 rfl (lv_at hl 0 rfl) ?_
  refine lv_aload_n hx hb dJ4_append_15ec4_1 rfl (lv_at hl 1 rfl) ?_
  obtain ⟨v1, M2, h1, h⟩ := ob2 h
  obtain ⟨hk1, h1⟩ := ifg h1
  refine kSU1 (As := [.ref a1]) (rest := []) hC hE hS hM (mt_J5_append_cf1ce _ E this a1 _ _ _ h1) (gwSU qw_773 qw_765 qw_774 qw_764_1 qw_50 qw_775) ⟨rfl, rfl, (Nat.le_of_ble_eq_true rfl), (Nat.le_of_ble_eq_true rfl)⟩ du_J5_append_cf1ce rfl hk1 rfl hl.1 (Nat.le_of_ble_eq_true rfl) dJ4_append_15ec4_2 ⟨(Nat.le_of_ble_eq_true rfl), (Nat.le_of_ble_eq_true rfl)⟩ (fun H locs hM hS => ?_)
  refine lv_pop hx hb dJ4_append_15ec4_5 rfl ?_
  refine lv_aload_n hx hb dJ4_append_15ec4_6 rfl (lv_at hl 0 rfl) ?_
  cases h
  exact eR hx hb hr (by first | exact Or.inl ⟨_, rfl⟩ | exact Or.inr ⟨_, rfl⟩) hlocks hM hS dJ4_append_15ec4_7 (Nat.le_of_ble_eq_true rfl) (Nat.le_of_ble_eq_true rfl)

theorem dd_J4_append_15ec4_c : yJ4_append_15ec4.cls = RJ4 ∧ yJ4_append_15ec4.cls ≠ "java/lang/invoke/MethodHandle" ∧ yJ4_append_15ec4.cls ≠ "java/lang/invoke/VarHandle" ∧ (parseMethodDescriptor yJ4_append_15ec4.desc).map (fun d => d.parameters.length) = some 1 := by decide +kernel
theorem du_J4_append_15ec4_c : yJ4_append_15ec4.name ≠ "<init>" ∧ (parseMethodDescriptor yJ4_append_15ec4.desc).map (fun d => d.parameters.length) = some 1 := by decide +kernel
theorem du2_J4_append_15ec4_c : "java/lang/AbstractStringBuilder" ≠ "java/lang/invoke/MethodHandle" ∧ "java/lang/AbstractStringBuilder" ≠ "java/lang/invoke/VarHandle" ∧ (parseMethodDescriptor yJ4_append_15ec4.desc).map (fun d => d.parameters.length) = some 1 := by decide +kernel
abbrev rm_J4_append_15ec4_c : Room := ({ frames := 5, cells := 1, slots := 512, locals := 127 } : Room)
noncomputable def f_J4_append_15ec4_c (this : Nat) (a1 : Nat) (M : Mem) : Option (Nat × Mem) :=
  bn (cK 12 this M (f_J5_append_cf1ce_c this a1 M)) fun v1 M2 =>
  some (this, M2)
set_option maxHeartbeats 4000000 in
set_option maxRecDepth 100000 in
theorem mt_J4_append_15ec4_c (l : Launch) (E : KEnv) (this : Nat) (a1 : Nat) (M M' : Mem) (v : Nat) (h : f_J4_append_15ec4_c this a1 M = some (v, M')) : Met l yJ4_append_15ec4 (Cond.code yJ4_append_15ec4 cJ4_append_15ec4 2 (some (.object "java/lang/StringBuilder")) :: lw_G) rm_J4_append_15ec4_c (cPc E [.ref this, .ref (eS E a1)] M) (cQ E (some (.ref v)) M') 1 512 (eA E) := by
  refine Met.ofW (cc := cJ4_append_15ec4) (maxL := 2) (ret := (some (.object "java/lang/StringBuilder"))) (by decide) rfl ?_
  intro p e s m args below meth c s₁ B hml hv
  obtain ⟨rfl, hE, hM⟩ := hv
  have hx := B.exec
  have hb := B.bytes
  have hr := B.returns
  have hts0 := atoms_spec (ws := Cond.code yJ4_append_15ec4 cJ4_append_15ec4 2 (some (.object "java/lang/StringBuilder")) :: lw_G) B.pre
  have hts : ∀ w ∈ lw_G, w.before _ s = true := fun w hw => hts0 w (List.mem_cons_of_mem _ hw)
  have hown : s.vm.findClass RJ4 = some m.cls := findClass_of_methodNamed B.named
  have hlocks := B.notSynchronized
  have hC : CallFix p m c cJ4_append_15ec4 2 s _ lw_G RJ4 := ⟨hx, hb, hml, hown, hts⟩
  have hS : va_S (eA E) s.heap s.heap [] := va_S.rf
  have hl := lv_entry ([.ref this, .ref (eS E a1)]) (n := 2) (Nat.le_of_ble_eq_true rfl)
  rw [lg_entry_eq]
  generalize (lg_sl ([.ref this, .ref (eS E a1)]) ++ List.replicate (2 - (lg_sl ([.ref this, .ref (eS E a1)])).length) Slot.unset).toArray = ls at hl ⊢
  have hl : lv_has ls 2 [(0, .ref this), (1, .ref (eS E a1))] := hl
  unfold f_J4_append_15ec4_c at h
  show W p l e rm_J4_append_15ec4_c s m _ below meth c s.heap [] 0 0 _ _
  refine lv_aload_n hx hb dJ4_append_15ec4_0 rfl (lv_at hl 0 rfl) ?_
  refine lv_aload_n hx hb dJ4_append_15ec4_1 rfl (lv_at hl 1 rfl) ?_
  obtain ⟨v1, M2, h1, h⟩ := ob2 h
  obtain ⟨hk1, h1⟩ := ifg h1
  refine kSU1 (As := [.ref (eS E a1)]) (rest := []) hC hE hS hM (mt_J5_append_cf1ce_c _ E this a1 _ _ _ h1) (gwSU qw_773 qw_765 qw_774 qw_764_1 qw_50 qw_775) ⟨rfl, rfl, (Nat.le_of_ble_eq_true rfl), (Nat.le_of_ble_eq_true rfl)⟩ du_J5_append_cf1ce_c rfl hk1 rfl hl.1 (Nat.le_of_ble_eq_true rfl) dJ4_append_15ec4_2 ⟨(Nat.le_of_ble_eq_true rfl), (Nat.le_of_ble_eq_true rfl)⟩ (fun H locs hM hS => ?_)
  refine lv_pop hx hb dJ4_append_15ec4_5 rfl ?_
  refine lv_aload_n hx hb dJ4_append_15ec4_6 rfl (lv_at hl 0 rfl) ?_
  cases h
  exact eR hx hb hr (by first | exact Or.inl ⟨_, rfl⟩ | exact Or.inr ⟨_, rfl⟩) hlocks hM hS dJ4_append_15ec4_7 (Nat.le_of_ble_eq_true rfl) (Nat.le_of_ble_eq_true rfl)

theorem dd_J4_append_cf1ce_c : yJ4_append_cf1ce.cls = RJ4 ∧ yJ4_append_cf1ce.cls ≠ "java/lang/invoke/MethodHandle" ∧ yJ4_append_cf1ce.cls ≠ "java/lang/invoke/VarHandle" ∧ (parseMethodDescriptor yJ4_append_cf1ce.desc).map (fun d => d.parameters.length) = some 1 := by decide +kernel
theorem du_J4_append_cf1ce_c : yJ4_append_cf1ce.name ≠ "<init>" ∧ (parseMethodDescriptor yJ4_append_cf1ce.desc).map (fun d => d.parameters.length) = some 1 := by decide +kernel
theorem du2_J4_append_cf1ce_c : "java/lang/AbstractStringBuilder" ≠ "java/lang/invoke/MethodHandle" ∧ "java/lang/AbstractStringBuilder" ≠ "java/lang/invoke/VarHandle" ∧ (parseMethodDescriptor yJ4_append_cf1ce.desc).map (fun d => d.parameters.length) = some 1 := by decide +kernel
abbrev rm_J4_append_cf1ce_c : Room := ({ frames := 6, cells := 1, slots := 512, locals := 148 } : Room)
noncomputable def f_J4_append_cf1ce_c (this : Nat) (a1 : Nat) (M : Mem) : Option (Nat × Mem) :=
  bn (cK 12 this M (f_J4_append_15ec4_c this a1 M)) fun v1 M2 =>
  some (v1, M2)
set_option maxHeartbeats 4000000 in
set_option maxRecDepth 100000 in
theorem mt_J4_append_cf1ce_c (l : Launch) (E : KEnv) (this : Nat) (a1 : Nat) (M M' : Mem) (v : Nat) (h : f_J4_append_cf1ce_c this a1 M = some (v, M')) : Met l yJ4_append_cf1ce (Cond.code yJ4_append_cf1ce cJ4_append_cf1ce 2 (some (.object "java/lang/AbstractStringBuilder")) :: lw_G) rm_J4_append_cf1ce_c (cPc E [.ref this, .ref (eS E a1)] M) (cQ E (some (.ref v)) M') 1 512 (eA E) := by
  refine Met.ofW (cc := cJ4_append_cf1ce) (maxL := 2) (ret := (some (.object "java/lang/AbstractStringBuilder"))) (by decide) rfl ?_
  intro p e s m args below meth c s₁ B hml hv
  obtain ⟨rfl, hE, hM⟩ := hv
  have hx := B.exec
  have hb := B.bytes
  have hr := B.returns
  have hts0 := atoms_spec (ws := Cond.code yJ4_append_cf1ce cJ4_append_cf1ce 2 (some (.object "java/lang/AbstractStringBuilder")) :: lw_G) B.pre
  have hts : ∀ w ∈ lw_G, w.before _ s = true := fun w hw => hts0 w (List.mem_cons_of_mem _ hw)
  have hown : s.vm.findClass RJ4 = some m.cls := findClass_of_methodNamed B.named
  have hlocks := B.notSynchronized
  have hC : CallFix p m c cJ4_append_cf1ce 2 s _ lw_G RJ4 := ⟨hx, hb, hml, hown, hts⟩
  have hS : va_S (eA E) s.heap s.heap [] := va_S.rf
  have hl := lv_entry ([.ref this, .ref (eS E a1)]) (n := 2) (Nat.le_of_ble_eq_true rfl)
  rw [lg_entry_eq]
  generalize (lg_sl ([.ref this, .ref (eS E a1)]) ++ List.replicate (2 - (lg_sl ([.ref this, .ref (eS E a1)])).length) Slot.unset).toArray = ls at hl ⊢
  have hl : lv_has ls 2 [(0, .ref this), (1, .ref (eS E a1))] := hl
  unfold f_J4_append_cf1ce_c at h
  show W p l e rm_J4_append_cf1ce_c s m _ below meth c s.heap [] 0 0 _ _
  refine lv_aload_n hx hb dJ4_append_cf1ce_0 rfl (lv_at hl 0 rfl) ?_
  refine lv_aload_n hx hb dJ4_append_cf1ce_1 rfl (lv_at hl 1 rfl) ?_
  obtain ⟨v1, M2, h1, h⟩ := ob2 h
  obtain ⟨hk1, h1⟩ := ifg h1
  refine kV1 (ci := 6) (As := [.ref (eS E a1)]) (rest := []) hC hE hS hM (mt_J4_append_15ec4_c _ E this a1 _ _ _ h1) (gwV qw_769 qw_770 qw_771 qw_51 qw_772) ⟨rfl, rfl, (Nat.le_of_ble_eq_true rfl), (Nat.le_of_ble_eq_true rfl)⟩ dd_J4_append_15ec4_c rfl hk1 rfl rfl hl.1 (Nat.le_of_ble_eq_true rfl) dJ4_append_cf1ce_2 ⟨(Nat.le_of_ble_eq_true rfl), (Nat.le_of_ble_eq_true rfl)⟩ (fun H locs hM hS => ?_)
  cases h
  exact eR hx hb hr (by first | exact Or.inl ⟨_, rfl⟩ | exact Or.inr ⟨_, rfl⟩) hlocks hM hS dJ4_append_cf1ce_5 (Nat.le_of_ble_eq_true rfl) (Nat.le_of_ble_eq_true rfl)

theorem dd_J5_init_a7421_c : yJ5_init_a7421.cls = RJ5 ∧ yJ5_init_a7421.cls ≠ "java/lang/invoke/MethodHandle" ∧ yJ5_init_a7421.cls ≠ "java/lang/invoke/VarHandle" ∧ (parseMethodDescriptor yJ5_init_a7421.desc).map (fun d => d.parameters.length) = some 1 := by decide +kernel
theorem du2_J5_init_a7421_c : "java/lang/AbstractStringBuilder" ≠ "java/lang/invoke/MethodHandle" ∧ "java/lang/AbstractStringBuilder" ≠ "java/lang/invoke/VarHandle" ∧ (parseMethodDescriptor yJ5_init_a7421.desc).map (fun d => d.parameters.length) = some 1 := by decide +kernel
abbrev rm_J5_init_a7421_c : Room := ({ frames := 7, cells := 2, slots := 1024, locals := 169 } : Room)
noncomputable def fj_J5_init_a7421_c_53 (x0 : Nat) (x1 : Nat) (s0 : Nat) (s1 : Nat) (M : Mem) : Option Mem :=
  (sR 12 192 s0 (some s1) M).bind fun M9 =>
  bn (cK 12 x0 M9 (f_J4_append_cf1ce_c x0 x1 M9)) fun v10 M11 =>
  some M11
set_option maxHeartbeats 4000000 in
set_option maxRecDepth 100000 in
theorem tj_J5_init_a7421_c_53 {p : Program} {l : Launch} {e : Env} {s : State} {m : MethodId} {args : Array Value} {below : List Frame} {meth : Method} {c : Code} {E : KEnv} {H : Heap} {locs : List Loc} {ls : Array Slot} {x0 : Nat} {x1 : Nat} {s0 : Nat} {s1 : Nat} {M : Mem} {M' : Mem} (hC : CallFix p m c cJ5_init_a7421 5 s args lw_G RJ5) (hr : meth.sig.returnType = none) (hlocks : meth.locks = false) (hE : EnvOK E s) (hin : meth.name = "<init>") (h : fj_J5_init_a7421_c_53 x0 x1 s0 s1 M = some M') (hM : MOK E M H) (hS : va_S (eA E) s.heap H locs) (hl : lv_has ls 5 [(0, .ref x0), (1, .ref (eS E x1))]) : W p l e rm_J5_init_a7421_c s m args below meth c H locs 1 512 (MQ below (cQ E none M') args s 2 1024 (eA E)) (F0 m 53 ls [.ref s1, .ref s0]) := by
  obtain ⟨hx, hb, hml, hown, hts⟩ := id hC
  unfold fj_J5_init_a7421_c_53 at h
  obtain ⟨M9, h1, h⟩ := ob h
  refine rp_6_0 hx hb hts hown hE hM qw_853 hS h1 dJ5_init_a7421_53 (fun H locs hM hS => ?_)
  refine lv_aload_n hx hb dJ5_init_a7421_56 rfl (lv_at hl 0 rfl) ?_
  refine lv_aload_n hx hb dJ5_init_a7421_57 rfl (lv_at hl 1 rfl) ?_
  obtain ⟨v10, M11, h1, h⟩ := ob2 h
  obtain ⟨hk1, h1⟩ := ifg h1
  refine kO1 (owner := "java/lang/AbstractStringBuilder") (x := yJ5_append_cf1ce) (y := yJ4_append_cf1ce) (As := [.ref (eS E x1)]) (rest := []) hC hE hS hM (mt_J4_append_cf1ce_c _ E x0 x1 _ _ _ h1) (gwO qw_763 qw_765 qw_764_1 qw_766 qw_767 qw_51 qw_768) qw_775 ⟨rfl, rfl, (Nat.le_of_ble_eq_true rfl), (Nat.le_of_ble_eq_true rfl)⟩ du2_J5_append_cf1ce rfl hk1 rfl hl.1 (Nat.le_of_ble_eq_true rfl) dJ5_init_a7421_58 ⟨(Nat.le_of_ble_eq_true rfl), (Nat.le_of_ble_eq_true rfl)⟩ (fun H locs hM hS => ?_)
  refine lv_pop hx hb dJ5_init_a7421_61 rfl ?_
  cases h
  exact eV_ hx hb hr hlocks hM hS dJ5_init_a7421_62 (Nat.le_of_ble_eq_true rfl) (Nat.le_of_ble_eq_true rfl)
noncomputable def fj_J5_init_a7421_c_24 (x0 : Nat) (x1 : Nat) (s0 : Int32) (M : Mem) : Option Mem :=
  (gS x1).bind fun _ =>
  (sI 12 193 x0 0 M).bind fun M6 =>
  bnewb s0 M6 fun v7 M8 =>
  fj_J5_init_a7421_c_53 x0 x1 x0 v7 M8
set_option maxHeartbeats 4000000 in
set_option maxRecDepth 100000 in
theorem tj_J5_init_a7421_c_24 {p : Program} {l : Launch} {e : Env} {s : State} {m : MethodId} {args : Array Value} {below : List Frame} {meth : Method} {c : Code} {E : KEnv} {H : Heap} {locs : List Loc} {ls : Array Slot} {x0 : Nat} {x1 : Nat} {s0 : Int32} {M : Mem} {M' : Mem} (hC : CallFix p m c cJ5_init_a7421 5 s args lw_G RJ5) (hr : meth.sig.returnType = none) (hlocks : meth.locks = false) (hE : EnvOK E s) (hin : meth.name = "<init>") (h : fj_J5_init_a7421_c_24 x0 x1 s0 M = some M') (hM : MOK E M H) (hS : va_S (eA E) s.heap H locs) (hl : lv_has ls 5 [(0, .ref x0), (1, .ref (eS E x1))]) : W p l e rm_J5_init_a7421_c s m args below meth c H locs 0 0 (MQ below (cQ E none M') args s 2 1024 (eA E)) (F0 m 24 ls [.int s0]) := by
  obtain ⟨hx, hb, hml, hown, hts⟩ := id hC
  unfold fj_J5_init_a7421_c_24 at h
  refine lv_istore_n (lv' := [(3, .int s0), (0, .ref x0), (1, .ref (eS E x1))]) hx hb dJ5_init_a7421_24 rfl hl (by decide) rfl (fun ls hl => ?_)
  refine lv_aload_n hx hb dJ5_init_a7421_25 rfl (lv_at hl 2 rfl) ?_
  obtain ⟨_, h1, h⟩ := ob h
  have hi9 := (ifs h1).1
  refine kJ (i := x1) (As := []) (rest := []) hC hE hS hM hi9 (mt_J0_coder _ E x1 _ hi9) (gwV qw_755 qw_197 qw_198 qw_44 qw_199) ⟨rfl, rfl, (Nat.le_of_ble_eq_true rfl), (Nat.le_of_ble_eq_true rfl)⟩ dd_J0_coder_7d493 rfl rfl hl.1 (Nat.le_of_ble_eq_true rfl) dJ5_init_a7421_26 ⟨(Nat.le_of_ble_eq_true rfl), (Nat.le_of_ble_eq_true rfl)⟩ (fun H locs hM hS => ?_)
  refine lv_istore (lv' := [(4, .int 0), (3, .int s0), (0, .ref x0), (1, .ref (eS E x1))]) hx hb dJ5_init_a7421_29 hl (by decide) rfl (fun ls hl => ?_)
  refine lv_aload_n hx hb dJ5_init_a7421_31 rfl (lv_at hl 2 rfl) ?_
  refine lv_iload hx hb dJ5_init_a7421_32 (lv_at hl 0 rfl) ?_
  obtain ⟨M6, h1, h⟩ := ob h
  refine rp_6_1 hx hb hts hown hE hM qw_854 ⟨rfl, rfl⟩ hS h1 dJ5_init_a7421_34 (fun H locs hM hS => ?_)
  refine lv_aload_n hx hb dJ5_init_a7421_37 rfl (lv_at hl 2 rfl) ?_
  refine lv_iload hx hb dJ5_init_a7421_38 (lv_at hl 0 rfl) ?_
  refine lv_if_ne (tgt := 49) hx hb dJ5_init_a7421_40 (by decide) (fun c1 => ?_) (fun c1 => ?_)
  · exact absurd c1 (by decide)
  · refine lv_iload_n hx hb dJ5_init_a7421_43 rfl (lv_at hl 1 rfl) ?_
    obtain ⟨v7, M8, hn, eq, eM, h⟩ := obnewb h
    refine rna_byteV hx hb hts qw_231 hE hM hS hn (Nat.le_of_ble_eq_true rfl) (Nat.le_of_ble_eq_true rfl) eq eM dJ5_init_a7421_44 (fun H hM hS => ?_)
    refine lv_goto (tgt := 53) hx hb dJ5_init_a7421_46 (by decide) ?_
    refine W.widen (k := 1) (n := 512) (Nat.le_of_ble_eq_true rfl) (Nat.le_of_ble_eq_true rfl) ?_
    exact tj_J5_init_a7421_c_53  hC hr hlocks hE hin  h hM hS (lv_sub hl [2, 3] rfl)
noncomputable def f_J5_init_a7421_c (this : Nat) (a1 : Nat) (M : Mem) : Option Mem :=
  (jLen a1).bind fun v3 =>
  (if (2147483631 : Int32) ≤ v3 then
  fj_J5_init_a7421_c_24 this a1 2147483647 M
  else
  fj_J5_init_a7421_c_24 this a1 (v3 + 16) M)
set_option maxHeartbeats 4000000 in
set_option maxRecDepth 100000 in
theorem mt_J5_init_a7421_c (l : Launch) (E : KEnv) (this : Nat) (a1 : Nat) (M M' : Mem) (h : f_J5_init_a7421_c this a1 M = some M') : Met l yJ5_init_a7421 (Cond.code yJ5_init_a7421 cJ5_init_a7421 5 none :: lw_G) rm_J5_init_a7421_c (cPc E [.ref this, .ref (eS E a1)] M) (cQ E none M') 2 1024 (eA E) := by
  refine Met.ofW (cc := cJ5_init_a7421) (maxL := 5) (ret := none) (by decide) rfl ?_
  intro p e s m args below meth c s₁ B hml hv
  obtain ⟨rfl, hE, hM⟩ := hv
  have hx := B.exec
  have hb := B.bytes
  have hr := B.returns
  have hts0 := atoms_spec (ws := Cond.code yJ5_init_a7421 cJ5_init_a7421 5 none :: lw_G) B.pre
  have hts : ∀ w ∈ lw_G, w.before _ s = true := fun w hw => hts0 w (List.mem_cons_of_mem _ hw)
  have hown : s.vm.findClass RJ5 = some m.cls := findClass_of_methodNamed B.named
  have hlocks := B.notSynchronized
  have hin : meth.name = "<init>" := (name_of_methodNamed B.named B.method).1
  have hC : CallFix p m c cJ5_init_a7421 5 s _ lw_G RJ5 := ⟨hx, hb, hml, hown, hts⟩
  have hS : va_S (eA E) s.heap s.heap [] := va_S.rf
  have hl := lv_entry ([.ref this, .ref (eS E a1)]) (n := 5) (Nat.le_of_ble_eq_true rfl)
  rw [lg_entry_eq]
  generalize (lg_sl ([.ref this, .ref (eS E a1)]) ++ List.replicate (5 - (lg_sl ([.ref this, .ref (eS E a1)])).length) Slot.unset).toArray = ls at hl ⊢
  have hl : lv_has ls 5 [(0, .ref this), (1, .ref (eS E a1))] := hl
  unfold f_J5_init_a7421_c at h
  show W p l e rm_J5_init_a7421_c s m _ below meth c s.heap [] 0 0 _ _
  refine lv_aload_n hx hb dJ5_init_a7421_0 rfl (lv_at hl 0 rfl) ?_
  refine oInit hx hb hown (hts _ qw_751) (hts _ qw_67) (hts _ qw_68) (hl.1.trans hml.symm) dJ5_init_a7421_1 (Nat.le_of_ble_eq_true rfl) (Nat.le_of_ble_eq_true rfl) ?_
  refine lv_aload_n hx hb dJ5_init_a7421_4 rfl (lv_at hl 1 rfl) ?_
  obtain ⟨v3, h1, h⟩ := ob h
  refine rJ_length (rest := []) hC hE hS hM h1 qw_752 (Nat.le_of_ble_eq_true rfl) (Nat.le_of_ble_eq_true rfl) rfl rfl hl.1 (Nat.le_of_ble_eq_true rfl) dJ5_init_a7421_5 ⟨(Nat.le_of_ble_eq_true rfl), (Nat.le_of_ble_eq_true rfl)⟩ (fun H locs hM hS => ?_)
  refine lv_istore_n (lv' := [(2, .int v3), (0, .ref this), (1, .ref (eS E a1))]) hx hb dJ5_init_a7421_8 rfl hl (by decide) rfl (fun ls hl => ?_)
  refine lv_iload_n hx hb dJ5_init_a7421_9 rfl (lv_at hl 0 rfl) ?_
  refine lv_ldc (v := 2147483631) hx hb hown (hts _ qw_753) dJ5_init_a7421_10 ?_
  refine lv_icmp_ge (tgt := 22) hx hb dJ5_init_a7421_12 (by decide) (fun c1 => ?_) (fun c1 => ?_)
  · have h := ifp c1 h
    refine lv_ldc (v := 2147483647) hx hb hown (hts _ qw_754) dJ5_init_a7421_22 ?_
    refine W.widen (k := 0) (n := 0) (Nat.le_of_ble_eq_true rfl) (Nat.le_of_ble_eq_true rfl) ?_
    exact tj_J5_init_a7421_c_24  hC hr hlocks hE hin  h hM hS (lv_sub hl [1, 2] rfl)
  · have h := ifn c1 h
    refine lv_iload_n hx hb dJ5_init_a7421_15 rfl (lv_at hl 0 rfl) ?_
    refine lv_bipush (v := 16) hx hb dJ5_init_a7421_16 (by decide) ?_
    refine lv_iadd hx hb dJ5_init_a7421_18 ?_
    refine lv_goto (tgt := 24) hx hb dJ5_init_a7421_19 (by decide) ?_
    refine W.widen (k := 0) (n := 0) (Nat.le_of_ble_eq_true rfl) (Nat.le_of_ble_eq_true rfl) ?_
    exact tj_J5_init_a7421_c_24  hC hr hlocks hE hin  h hM hS (lv_sub hl [1, 2] rfl)

theorem dd_J4_init_da8c8 : yJ4_init_da8c8.cls = RJ4 ∧ yJ4_init_da8c8.cls ≠ "java/lang/invoke/MethodHandle" ∧ yJ4_init_da8c8.cls ≠ "java/lang/invoke/VarHandle" ∧ (parseMethodDescriptor yJ4_init_da8c8.desc).map (fun d => d.parameters.length) = some 0 := by decide +kernel
theorem du2_J4_init_da8c8 : "java/lang/AbstractStringBuilder" ≠ "java/lang/invoke/MethodHandle" ∧ "java/lang/AbstractStringBuilder" ≠ "java/lang/invoke/VarHandle" ∧ (parseMethodDescriptor yJ4_init_da8c8.desc).map (fun d => d.parameters.length) = some 0 := by decide +kernel
abbrev rm_J4_init_da8c8 : Room := ({ frames := 2, cells := 1, slots := 512, locals := 45 } : Room)
noncomputable def f_J4_init_da8c8 (this : Nat) (M : Mem) : Option Mem :=
  (f_J5_init_d00df this 16 M).bind fun M2 =>
  some M2
set_option maxHeartbeats 4000000 in
set_option maxRecDepth 100000 in
theorem mt_J4_init_da8c8 (l : Launch) (E : KEnv) (this : Nat) (M M' : Mem) (h : f_J4_init_da8c8 this M = some M') : Met l yJ4_init_da8c8 (Cond.code yJ4_init_da8c8 cJ4_init_da8c8 1 none :: lw_G) rm_J4_init_da8c8 (cPc E [.ref this] M) (cQ E none M') 1 512 (eA E) := by
  refine Met.ofW (cc := cJ4_init_da8c8) (maxL := 1) (ret := none) (by decide) rfl ?_
  intro p e s m args below meth c s₁ B hml hv
  obtain ⟨rfl, hE, hM⟩ := hv
  have hx := B.exec
  have hb := B.bytes
  have hr := B.returns
  have hts0 := atoms_spec (ws := Cond.code yJ4_init_da8c8 cJ4_init_da8c8 1 none :: lw_G) B.pre
  have hts : ∀ w ∈ lw_G, w.before _ s = true := fun w hw => hts0 w (List.mem_cons_of_mem _ hw)
  have hown : s.vm.findClass RJ4 = some m.cls := findClass_of_methodNamed B.named
  have hlocks := B.notSynchronized
  have hin : meth.name = "<init>" := (name_of_methodNamed B.named B.method).1
  have hC : CallFix p m c cJ4_init_da8c8 1 s _ lw_G RJ4 := ⟨hx, hb, hml, hown, hts⟩
  have hS : va_S (eA E) s.heap s.heap [] := va_S.rf
  have hl := lv_entry ([.ref this]) (n := 1) (Nat.le_of_ble_eq_true rfl)
  rw [lg_entry_eq]
  generalize (lg_sl ([.ref this]) ++ List.replicate (1 - (lg_sl ([.ref this])).length) Slot.unset).toArray = ls at hl ⊢
  have hl : lv_has ls 1 [(0, .ref this)] := hl
  unfold f_J4_init_da8c8 at h
  show W p l e rm_J4_init_da8c8 s m _ below meth c s.heap [] 0 0 _ _
  refine lv_aload_n hx hb dJ4_init_da8c8_0 rfl (lv_at hl 0 rfl) ?_
  refine lv_bipush (v := 16) hx hb dJ4_init_da8c8_1 (by decide) ?_
  obtain ⟨M2, h1, h⟩ := ob h
  refine kI (As := [.int 16]) (rest := []) hC hE hS hM (mt_J5_init_d00df _ E this 16 _ _ h1) qw_908 qw_906 qw_907 qw_50 ⟨rfl, rfl, (Nat.le_of_ble_eq_true rfl), (Nat.le_of_ble_eq_true rfl)⟩ dd_J5_init_d00df.2 rfl rfl rfl hl.1 (Nat.le_of_ble_eq_true rfl) dJ4_init_da8c8_3 ⟨(Nat.le_of_ble_eq_true rfl), (Nat.le_of_ble_eq_true rfl)⟩ (fun H locs hM hS => ?_)
  cases h
  exact eV_ hx hb hr hlocks hM hS dJ4_init_da8c8_6 (Nat.le_of_ble_eq_true rfl) (Nat.le_of_ble_eq_true rfl)

theorem dd_J4_init_a7421_c : yJ4_init_a7421.cls = RJ4 ∧ yJ4_init_a7421.cls ≠ "java/lang/invoke/MethodHandle" ∧ yJ4_init_a7421.cls ≠ "java/lang/invoke/VarHandle" ∧ (parseMethodDescriptor yJ4_init_a7421.desc).map (fun d => d.parameters.length) = some 1 := by decide +kernel
theorem du2_J4_init_a7421_c : "java/lang/AbstractStringBuilder" ≠ "java/lang/invoke/MethodHandle" ∧ "java/lang/AbstractStringBuilder" ≠ "java/lang/invoke/VarHandle" ∧ (parseMethodDescriptor yJ4_init_a7421.desc).map (fun d => d.parameters.length) = some 1 := by decide +kernel
abbrev rm_J4_init_a7421_c : Room := ({ frames := 8, cells := 2, slots := 1024, locals := 193 } : Room)
noncomputable def f_J4_init_a7421_c (this : Nat) (a1 : Nat) (M : Mem) : Option Mem :=
  (f_J5_init_a7421_c this a1 M).bind fun M2 =>
  some M2
set_option maxHeartbeats 4000000 in
set_option maxRecDepth 100000 in
theorem mt_J4_init_a7421_c (l : Launch) (E : KEnv) (this : Nat) (a1 : Nat) (M M' : Mem) (h : f_J4_init_a7421_c this a1 M = some M') : Met l yJ4_init_a7421 (Cond.code yJ4_init_a7421 cJ4_init_a7421 2 none :: lw_G) rm_J4_init_a7421_c (cPc E [.ref this, .ref (eS E a1)] M) (cQ E none M') 2 1024 (eA E) := by
  refine Met.ofW (cc := cJ4_init_a7421) (maxL := 2) (ret := none) (by decide) rfl ?_
  intro p e s m args below meth c s₁ B hml hv
  obtain ⟨rfl, hE, hM⟩ := hv
  have hx := B.exec
  have hb := B.bytes
  have hr := B.returns
  have hts0 := atoms_spec (ws := Cond.code yJ4_init_a7421 cJ4_init_a7421 2 none :: lw_G) B.pre
  have hts : ∀ w ∈ lw_G, w.before _ s = true := fun w hw => hts0 w (List.mem_cons_of_mem _ hw)
  have hown : s.vm.findClass RJ4 = some m.cls := findClass_of_methodNamed B.named
  have hlocks := B.notSynchronized
  have hin : meth.name = "<init>" := (name_of_methodNamed B.named B.method).1
  have hC : CallFix p m c cJ4_init_a7421 2 s _ lw_G RJ4 := ⟨hx, hb, hml, hown, hts⟩
  have hS : va_S (eA E) s.heap s.heap [] := va_S.rf
  have hl := lv_entry ([.ref this, .ref (eS E a1)]) (n := 2) (Nat.le_of_ble_eq_true rfl)
  rw [lg_entry_eq]
  generalize (lg_sl ([.ref this, .ref (eS E a1)]) ++ List.replicate (2 - (lg_sl ([.ref this, .ref (eS E a1)])).length) Slot.unset).toArray = ls at hl ⊢
  have hl : lv_has ls 2 [(0, .ref this), (1, .ref (eS E a1))] := hl
  unfold f_J4_init_a7421_c at h
  show W p l e rm_J4_init_a7421_c s m _ below meth c s.heap [] 0 0 _ _
  refine lv_aload_n hx hb dJ4_init_a7421_0 rfl (lv_at hl 0 rfl) ?_
  refine lv_aload_n hx hb dJ4_init_a7421_1 rfl (lv_at hl 1 rfl) ?_
  obtain ⟨M2, h1, h⟩ := ob h
  refine kI (As := [.ref (eS E a1)]) (rest := []) hC hE hS hM (mt_J5_init_a7421_c _ E this a1 _ _ h1) qw_750 qw_748 qw_749 qw_50 ⟨rfl, rfl, (Nat.le_of_ble_eq_true rfl), (Nat.le_of_ble_eq_true rfl)⟩ dd_J5_init_a7421_c.2 rfl rfl rfl hl.1 (Nat.le_of_ble_eq_true rfl) dJ4_init_a7421_2 ⟨(Nat.le_of_ble_eq_true rfl), (Nat.le_of_ble_eq_true rfl)⟩ (fun H locs hM hS => ?_)
  cases h
  exact eV_ hx hb hr hlocks hM hS dJ4_init_a7421_5 (Nat.le_of_ble_eq_true rfl) (Nat.le_of_ble_eq_true rfl)

theorem dd_J1_canEncode_fc78d : yJ1_canEncode_fc78d.cls ≠ "java/lang/invoke/MethodHandle" ∧ yJ1_canEncode_fc78d.cls ≠ "java/lang/invoke/VarHandle" ∧ (parseMethodDescriptor yJ1_canEncode_fc78d.desc).map (fun d => d.parameters.length) = some 1 := by decide +kernel
abbrev rm_J1_canEncode_fc78d : Room := ({ frames := 0, cells := 0, slots := 0, locals := 0 } : Room)
noncomputable def fj_J1_canEncode_fc78d_12 (s0 : Int32) (M : Mem) : Option (Int32 × Mem) :=
  (if s0 = 0 ∨ s0 = 1 then some (s0, M) else none)
set_option maxHeartbeats 4000000 in
set_option maxRecDepth 100000 in
theorem tj_J1_canEncode_fc78d_12 {p : Program} {l : Launch} {e : Env} {s : State} {m : MethodId} {args : Array Value} {below : List Frame} {meth : Method} {c : Code} {E : KEnv} {H : Heap} {locs : List Loc} {ls : Array Slot} {s0 : Int32} {M : Mem} {v : Int32} {M' : Mem} (hC : CallFix p m c cJ1_canEncode_fc78d 1 s args lw_G RJ1) (hr : meth.sig.returnType = (some .boolean)) (hlocks : meth.locks = false) (hE : EnvOK E s) (h : fj_J1_canEncode_fc78d_12 s0 M = some (v, M')) (hM : MOK E M H) (hS : va_S (eA E) s.heap H locs) (hl : lv_has ls 1 []) : W p l e rm_J1_canEncode_fc78d s m args below meth c H locs 0 0 (MQ below (cQ E (some (.int v)) M') args s 0 0 (eA E)) (F0 m 12 ls [.int s0]) := by
  obtain ⟨hx, hb, hml, hown, hts⟩ := id hC
  unfold fj_J1_canEncode_fc78d_12 at h
  obtain ⟨h01, h⟩ := ifg h
  cases h
  exact eZ hx hb hr hlocks hM hS dJ1_canEncode_fc78d_12 (Nat.le_of_ble_eq_true rfl) (Nat.le_of_ble_eq_true rfl) h01
noncomputable def f_J1_canEncode_fc78d (a1 : Int32) (M : Mem) : Option (Int32 × Mem) :=
  (if (255 : Int32) < a1 then
  fj_J1_canEncode_fc78d_12 0 M
  else
  fj_J1_canEncode_fc78d_12 1 M)
set_option maxHeartbeats 4000000 in
set_option maxRecDepth 100000 in
theorem mt_J1_canEncode_fc78d (l : Launch) (E : KEnv) (a1 : Int32) (M M' : Mem) (v : Int32) (h : f_J1_canEncode_fc78d a1 M = some (v, M')) : Met l yJ1_canEncode_fc78d (Cond.code yJ1_canEncode_fc78d cJ1_canEncode_fc78d 1 (some .boolean) :: lw_G) rm_J1_canEncode_fc78d (cPc E [.int a1] M) (cQ E (some (.int v)) M') 0 0 (eA E) := by
  refine Met.ofW (cc := cJ1_canEncode_fc78d) (maxL := 1) (ret := (some .boolean)) (by decide) rfl ?_
  intro p e s m args below meth c s₁ B hml hv
  obtain ⟨rfl, hE, hM⟩ := hv
  have hx := B.exec
  have hb := B.bytes
  have hr := B.returns
  have hts0 := atoms_spec (ws := Cond.code yJ1_canEncode_fc78d cJ1_canEncode_fc78d 1 (some .boolean) :: lw_G) B.pre
  have hts : ∀ w ∈ lw_G, w.before _ s = true := fun w hw => hts0 w (List.mem_cons_of_mem _ hw)
  have hown : s.vm.findClass RJ1 = some m.cls := findClass_of_methodNamed B.named
  have hlocks := B.notSynchronized
  have hC : CallFix p m c cJ1_canEncode_fc78d 1 s _ lw_G RJ1 := ⟨hx, hb, hml, hown, hts⟩
  have hS : va_S (eA E) s.heap s.heap [] := va_S.rf
  have hl := lv_entry ([.int a1]) (n := 1) (Nat.le_of_ble_eq_true rfl)
  rw [lg_entry_eq]
  generalize (lg_sl ([.int a1]) ++ List.replicate (1 - (lg_sl ([.int a1])).length) Slot.unset).toArray = ls at hl ⊢
  have hl : lv_has ls 1 [(0, .int a1)] := hl
  unfold f_J1_canEncode_fc78d at h
  show W p l e rm_J1_canEncode_fc78d s m _ below meth c s.heap [] 0 0 _ _
  refine lv_iload_n hx hb dJ1_canEncode_fc78d_0 rfl (lv_at hl 0 rfl) ?_
  refine lv_sipush (v := 255) hx hb dJ1_canEncode_fc78d_1 (by decide) ?_
  refine lv_icmp_gt (tgt := 11) hx hb dJ1_canEncode_fc78d_4 (by decide) (fun c1 => ?_) (fun c1 => ?_)
  · have h := ifp c1 h
    refine lv_iconst (v := 0) hx hb dJ1_canEncode_fc78d_11 (by decide) ?_
    refine W.widen (k := 0) (n := 0) (Nat.le_of_ble_eq_true rfl) (Nat.le_of_ble_eq_true rfl) ?_
    exact tj_J1_canEncode_fc78d_12  hC hr hlocks hE  h hM hS (lv_sub hl [] rfl)
  · have h := ifn c1 h
    refine lv_iconst (v := 1) hx hb dJ1_canEncode_fc78d_7 (by decide) ?_
    refine lv_goto (tgt := 12) hx hb dJ1_canEncode_fc78d_8 (by decide) ?_
    refine W.widen (k := 0) (n := 0) (Nat.le_of_ble_eq_true rfl) (Nat.le_of_ble_eq_true rfl) ?_
    exact tj_J1_canEncode_fc78d_12  hC hr hlocks hE  h hM hS (lv_sub hl [] rfl)

theorem dd_J5_append_3fe6f : yJ5_append_3fe6f.cls = RJ5 ∧ yJ5_append_3fe6f.cls ≠ "java/lang/invoke/MethodHandle" ∧ yJ5_append_3fe6f.cls ≠ "java/lang/invoke/VarHandle" ∧ (parseMethodDescriptor yJ5_append_3fe6f.desc).map (fun d => d.parameters.length) = some 1 := by decide +kernel
theorem du_J5_append_3fe6f : yJ5_append_3fe6f.name ≠ "<init>" ∧ (parseMethodDescriptor yJ5_append_3fe6f.desc).map (fun d => d.parameters.length) = some 1 := by decide +kernel
theorem du2_J5_append_3fe6f : "java/lang/AbstractStringBuilder" ≠ "java/lang/invoke/MethodHandle" ∧ "java/lang/AbstractStringBuilder" ≠ "java/lang/invoke/VarHandle" ∧ (parseMethodDescriptor yJ5_append_3fe6f.desc).map (fun d => d.parameters.length) = some 1 := by decide +kernel
abbrev rm_J5_append_3fe6f : Room := ({ frames := 4, cells := 1, slots := 512, locals := 104 } : Room)
noncomputable def fj_J5_append_3fe6f_56 (x0 : Nat) (x1 : Int32) (M : Mem) : Option (Nat × Mem) :=
  (gRn 12 192 x0 M).bind fun v8 =>
  (gI 12 195 x0 M).bind fun v9 =>
  (sI 12 195 x0 (v9 + 1) M).bind fun M10 =>
  none
set_option maxHeartbeats 4000000 in
set_option maxRecDepth 100000 in
theorem tj_J5_append_3fe6f_56 {p : Program} {l : Launch} {e : Env} {s : State} {m : MethodId} {args : Array Value} {below : List Frame} {meth : Method} {c : Code} {E : KEnv} {H : Heap} {locs : List Loc} {ls : Array Slot} {x0 : Nat} {x1 : Int32} {M : Mem} {v : Nat} {M' : Mem} (hC : CallFix p m c cJ5_append_3fe6f 2 s args lw_G RJ5) (hr : meth.sig.returnType = (some (.object "java/lang/AbstractStringBuilder"))) (hlocks : meth.locks = false) (hE : EnvOK E s) (h : fj_J5_append_3fe6f_56 x0 x1 M = some (v, M')) (hM : MOK E M H) (hS : va_S (eA E) s.heap H locs) (hl : lv_has ls 2 [(0, .ref x0), (1, .int x1)]) : W p l e rm_J5_append_3fe6f s m args below meth c H locs 1 512 (MQ below (cQ E (some (.ref v)) M') args s 1 512 (eA E)) (F0 m 56 ls []) := by
  obtain ⟨hx, hb, hml, hown, hts⟩ := id hC
  unfold fj_J5_append_3fe6f_56 at h
  refine lv_aload_n hx hb dJ5_append_3fe6f_56 rfl (lv_at hl 0 rfl) ?_
  obtain ⟨v8, h1, h⟩ := ob h
  refine rgn_6_0 hx hb hts hown hE hM qw_853 h1 dJ5_append_3fe6f_57 ?_
  refine lv_aload_n hx hb dJ5_append_3fe6f_60 rfl (lv_at hl 0 rfl) ?_
  refine lv_dup hx hb dJ5_append_3fe6f_61 rfl ?_
  obtain ⟨v9, h1, h⟩ := ob h
  refine rg_6_3 hx hb hts hown hE hM qw_856 h1 dJ5_append_3fe6f_62 ?_
  refine lv_dup_x1 hx hb dJ5_append_3fe6f_65 rfl rfl ?_
  refine lv_iconst (v := 1) hx hb dJ5_append_3fe6f_66 (by decide) ?_
  refine lv_iadd hx hb dJ5_append_3fe6f_67 ?_
  obtain ⟨M10, h1, h⟩ := ob h
  refine rp_6_3 hx hb hts hown hE hM qw_856 hS h1 dJ5_append_3fe6f_68 (fun H locs hM hS => ?_)
  refine lv_iload_n hx hb dJ5_append_3fe6f_71 rfl (lv_at hl 1 rfl) ?_
  cases h
noncomputable def fj_J5_append_3fe6f_45 (x0 : Nat) (x1 : Int32) (M : Mem) : Option (Nat × Mem) :=
  bn (cK 12 x0 M (f_J5_isLatin1_aae02 x0 M)) fun v6 M7 =>
  (if v6 = 0 then
  fj_J5_append_3fe6f_56 x0 x1 M7
  else
  none)
set_option maxHeartbeats 4000000 in
set_option maxRecDepth 100000 in
theorem tj_J5_append_3fe6f_45 {p : Program} {l : Launch} {e : Env} {s : State} {m : MethodId} {args : Array Value} {below : List Frame} {meth : Method} {c : Code} {E : KEnv} {H : Heap} {locs : List Loc} {ls : Array Slot} {x0 : Nat} {x1 : Int32} {M : Mem} {v : Nat} {M' : Mem} (hC : CallFix p m c cJ5_append_3fe6f 2 s args lw_G RJ5) (hr : meth.sig.returnType = (some (.object "java/lang/AbstractStringBuilder"))) (hlocks : meth.locks = false) (hE : EnvOK E s) (h : fj_J5_append_3fe6f_45 x0 x1 M = some (v, M')) (hM : MOK E M H) (hS : va_S (eA E) s.heap H locs) (hl : lv_has ls 2 [(0, .ref x0), (1, .int x1)]) : W p l e rm_J5_append_3fe6f s m args below meth c H locs 1 512 (MQ below (cQ E (some (.ref v)) M') args s 1 512 (eA E)) (F0 m 45 ls []) := by
  obtain ⟨hx, hb, hml, hown, hts⟩ := id hC
  unfold fj_J5_append_3fe6f_45 at h
  refine lv_aload_n hx hb dJ5_append_3fe6f_45 rfl (lv_at hl 0 rfl) ?_
  obtain ⟨v6, M7, h1, h⟩ := ob2 h
  obtain ⟨hk1, h1⟩ := ifg h1
  refine kU1 (owner := "java/lang/AbstractStringBuilder") (x := yJ5_isLatin1_aae02) (y := yJ5_isLatin1_aae02) (As := []) (rest := []) hC hE hS hM (mt_J5_isLatin1_aae02 _ E x0 _ _ _ h1) (gwU qw_808 qw_810 qw_811 qw_809 qw_50 qw_812) rfl ⟨rfl, rfl, (Nat.le_of_ble_eq_true rfl), (Nat.le_of_ble_eq_true rfl)⟩ du2_J5_isLatin1_aae02 rfl hk1 rfl hl.1 (Nat.le_of_ble_eq_true rfl) dJ5_append_3fe6f_46 ⟨(Nat.le_of_ble_eq_true rfl), (Nat.le_of_ble_eq_true rfl)⟩ (fun H locs hM hS => ?_)
  refine lv_if_eq (tgt := 56) hx hb dJ5_append_3fe6f_49 (by decide) (fun c1 => ?_) (fun c1 => ?_)
  · have h := ifp c1 h
    refine W.widen (k := 1) (n := 512) (Nat.le_of_ble_eq_true rfl) (Nat.le_of_ble_eq_true rfl) ?_
    exact tj_J5_append_3fe6f_56  hC hr hlocks hE  h hM hS (lv_sub hl [0, 1] rfl)
  · have h := ifn c1 h
    refine lv_aload_n hx hb dJ5_append_3fe6f_52 rfl (lv_at hl 0 rfl) ?_
    cases h
noncomputable def fj_J5_append_3fe6f_75 (x0 : Nat) (M : Mem) : Option (Nat × Mem) :=
  some (x0, M)
set_option maxHeartbeats 4000000 in
set_option maxRecDepth 100000 in
theorem tj_J5_append_3fe6f_75 {p : Program} {l : Launch} {e : Env} {s : State} {m : MethodId} {args : Array Value} {below : List Frame} {meth : Method} {c : Code} {E : KEnv} {H : Heap} {locs : List Loc} {ls : Array Slot} {x0 : Nat} {M : Mem} {v : Nat} {M' : Mem} (hC : CallFix p m c cJ5_append_3fe6f 2 s args lw_G RJ5) (hr : meth.sig.returnType = (some (.object "java/lang/AbstractStringBuilder"))) (hlocks : meth.locks = false) (hE : EnvOK E s) (h : fj_J5_append_3fe6f_75 x0 M = some (v, M')) (hM : MOK E M H) (hS : va_S (eA E) s.heap H locs) (hl : lv_has ls 2 [(0, .ref x0)]) : W p l e rm_J5_append_3fe6f s m args below meth c H locs 1 512 (MQ below (cQ E (some (.ref v)) M') args s 1 512 (eA E)) (F0 m 75 ls []) := by
  obtain ⟨hx, hb, hml, hown, hts⟩ := id hC
  unfold fj_J5_append_3fe6f_75 at h
  refine lv_aload_n hx hb dJ5_append_3fe6f_75 rfl (lv_at hl 0 rfl) ?_
  cases h
  exact eR hx hb hr (by first | exact Or.inl ⟨_, rfl⟩ | exact Or.inr ⟨_, rfl⟩) hlocks hM hS dJ5_append_3fe6f_76 (Nat.le_of_ble_eq_true rfl) (Nat.le_of_ble_eq_true rfl)
noncomputable def f_J5_append_3fe6f (this : Nat) (a1 : Int32) (M : Mem) : Option (Nat × Mem) :=
  (gI 12 195 this M).bind fun v1 =>
  (cK 12 this M (f_J5_ensureCapacityInternal_d00df this (v1 + 1) M)).bind fun M3 =>
  bn (cK 12 this M3 (f_J5_isLatin1_aae02 this M3)) fun v4 M5 =>
  (if v4 = 0 then
  fj_J5_append_3fe6f_45 this a1 M5
  else
  bn (f_J1_canEncode_fc78d a1 M5) fun v11 M12 =>
  (if v11 = 0 then
  fj_J5_append_3fe6f_45 this a1 M12
  else
  (gRn 12 192 this M12).bind fun v13 =>
  (gI 12 195 this M12).bind fun v14 =>
  (sI 12 195 this (v14 + 1) M12).bind fun M15 =>
  (sA 7 v13 v14 a1.toInt8.toInt32 M15).bind fun M16 =>
  fj_J5_append_3fe6f_75 this M16))
set_option maxHeartbeats 4000000 in
set_option maxRecDepth 100000 in
theorem mt_J5_append_3fe6f (l : Launch) (E : KEnv) (this : Nat) (a1 : Int32) (M M' : Mem) (v : Nat) (h : f_J5_append_3fe6f this a1 M = some (v, M')) : Met l yJ5_append_3fe6f (Cond.code yJ5_append_3fe6f cJ5_append_3fe6f 2 (some (.object "java/lang/AbstractStringBuilder")) :: lw_G) rm_J5_append_3fe6f (cPc E [.ref this, .int a1] M) (cQ E (some (.ref v)) M') 1 512 (eA E) := by
  refine Met.ofW (cc := cJ5_append_3fe6f) (maxL := 2) (ret := (some (.object "java/lang/AbstractStringBuilder"))) (by decide) rfl ?_
  intro p e s m args below meth c s₁ B hml hv
  obtain ⟨rfl, hE, hM⟩ := hv
  have hx := B.exec
  have hb := B.bytes
  have hr := B.returns
  have hts0 := atoms_spec (ws := Cond.code yJ5_append_3fe6f cJ5_append_3fe6f 2 (some (.object "java/lang/AbstractStringBuilder")) :: lw_G) B.pre
  have hts : ∀ w ∈ lw_G, w.before _ s = true := fun w hw => hts0 w (List.mem_cons_of_mem _ hw)
  have hown : s.vm.findClass RJ5 = some m.cls := findClass_of_methodNamed B.named
  have hlocks := B.notSynchronized
  have hC : CallFix p m c cJ5_append_3fe6f 2 s _ lw_G RJ5 := ⟨hx, hb, hml, hown, hts⟩
  have hS : va_S (eA E) s.heap s.heap [] := va_S.rf
  have hl := lv_entry ([.ref this, .int a1]) (n := 2) (Nat.le_of_ble_eq_true rfl)
  rw [lg_entry_eq]
  generalize (lg_sl ([.ref this, .int a1]) ++ List.replicate (2 - (lg_sl ([.ref this, .int a1])).length) Slot.unset).toArray = ls at hl ⊢
  have hl : lv_has ls 2 [(0, .ref this), (1, .int a1)] := hl
  unfold f_J5_append_3fe6f at h
  show W p l e rm_J5_append_3fe6f s m _ below meth c s.heap [] 0 0 _ _
  refine lv_aload_n hx hb dJ5_append_3fe6f_0 rfl (lv_at hl 0 rfl) ?_
  refine lv_aload_n hx hb dJ5_append_3fe6f_1 rfl (lv_at hl 0 rfl) ?_
  obtain ⟨v1, h1, h⟩ := ob h
  refine rg_6_3 hx hb hts hown hE hM qw_856 h1 dJ5_append_3fe6f_2 ?_
  refine lv_iconst (v := 1) hx hb dJ5_append_3fe6f_5 (by decide) ?_
  refine lv_iadd hx hb dJ5_append_3fe6f_6 ?_
  obtain ⟨M3, h1, h⟩ := ob h
  obtain ⟨hk1, h1⟩ := ifg h1
  refine kU0 (owner := "java/lang/AbstractStringBuilder") (x := yJ5_ensureCapacityInternal_d00df) (y := yJ5_ensureCapacityInternal_d00df) (As := [.int (v1 + 1)]) (rest := []) hC hE hS hM (mt_J5_ensureCapacityInternal_d00df _ E this (v1 + 1) _ _ h1) (gwU qw_780 qw_1206 qw_1216 qw_782 qw_50 qw_783) rfl ⟨rfl, rfl, (Nat.le_of_ble_eq_true rfl), (Nat.le_of_ble_eq_true rfl)⟩ du2_J5_ensureCapacityInternal_d00df rfl hk1 rfl hl.1 (Nat.le_of_ble_eq_true rfl) dJ5_append_3fe6f_7 ⟨(Nat.le_of_ble_eq_true rfl), (Nat.le_of_ble_eq_true rfl)⟩ (fun H locs hM hS => ?_)
  refine lv_aload_n hx hb dJ5_append_3fe6f_10 rfl (lv_at hl 0 rfl) ?_
  obtain ⟨v4, M5, h1, h⟩ := ob2 h
  obtain ⟨hk1, h1⟩ := ifg h1
  refine kU1 (owner := "java/lang/AbstractStringBuilder") (x := yJ5_isLatin1_aae02) (y := yJ5_isLatin1_aae02) (As := []) (rest := []) hC hE hS hM (mt_J5_isLatin1_aae02 _ E this _ _ _ h1) (gwU qw_808 qw_810 qw_811 qw_809 qw_50 qw_812) rfl ⟨rfl, rfl, (Nat.le_of_ble_eq_true rfl), (Nat.le_of_ble_eq_true rfl)⟩ du2_J5_isLatin1_aae02 rfl hk1 rfl hl.1 (Nat.le_of_ble_eq_true rfl) dJ5_append_3fe6f_11 ⟨(Nat.le_of_ble_eq_true rfl), (Nat.le_of_ble_eq_true rfl)⟩ (fun H locs hM hS => ?_)
  refine lv_if_eq (tgt := 45) hx hb dJ5_append_3fe6f_14 (by decide) (fun c1 => ?_) (fun c1 => ?_)
  · have h := ifp c1 h
    refine W.widen (k := 1) (n := 512) (Nat.le_of_ble_eq_true rfl) (Nat.le_of_ble_eq_true rfl) ?_
    exact tj_J5_append_3fe6f_45  hC hr hlocks hE  h hM hS (lv_sub hl [0, 1] rfl)
  · have h := ifn c1 h
    refine lv_iload_n hx hb dJ5_append_3fe6f_17 rfl (lv_at hl 1 rfl) ?_
    obtain ⟨v11, M12, h1, h⟩ := ob2 h
    refine kS1 (As := [.int a1]) (rest := []) hC hE hS hM (mt_J1_canEncode_fc78d _ E a1 _ _ _ h1) (gwS qw_897 qw_898 qw_45 qw_899) ⟨rfl, rfl, (Nat.le_of_ble_eq_true rfl), (Nat.le_of_ble_eq_true rfl)⟩ dd_J1_canEncode_fc78d rfl rfl hl.1 (Nat.le_of_ble_eq_true rfl) dJ5_append_3fe6f_18 ⟨(Nat.le_of_ble_eq_true rfl), (Nat.le_of_ble_eq_true rfl)⟩ (fun H locs hM hS => ?_)
    refine lv_if_eq (tgt := 45) hx hb dJ5_append_3fe6f_21 (by decide) (fun c1 => ?_) (fun c1 => ?_)
    · have h := ifp c1 h
      refine W.widen (k := 1) (n := 512) (Nat.le_of_ble_eq_true rfl) (Nat.le_of_ble_eq_true rfl) ?_
      exact tj_J5_append_3fe6f_45  hC hr hlocks hE  h hM hS (lv_sub hl [0, 1] rfl)
    · have h := ifn c1 h
      refine lv_aload_n hx hb dJ5_append_3fe6f_24 rfl (lv_at hl 0 rfl) ?_
      obtain ⟨v13, h1, h⟩ := ob h
      refine rgn_6_0 hx hb hts hown hE hM qw_853 h1 dJ5_append_3fe6f_25 ?_
      refine lv_aload_n hx hb dJ5_append_3fe6f_28 rfl (lv_at hl 0 rfl) ?_
      refine lv_dup hx hb dJ5_append_3fe6f_29 rfl ?_
      obtain ⟨v14, h1, h⟩ := ob h
      refine rg_6_3 hx hb hts hown hE hM qw_856 h1 dJ5_append_3fe6f_30 ?_
      refine lv_dup_x1 hx hb dJ5_append_3fe6f_33 rfl rfl ?_
      refine lv_iconst (v := 1) hx hb dJ5_append_3fe6f_34 (by decide) ?_
      refine lv_iadd hx hb dJ5_append_3fe6f_35 ?_
      obtain ⟨M15, h1, h⟩ := ob h
      refine rp_6_3 hx hb hts hown hE hM qw_856 hS h1 dJ5_append_3fe6f_36 (fun H locs hM hS => ?_)
      refine lv_iload_n hx hb dJ5_append_3fe6f_39 rfl (lv_at hl 1 rfl) ?_
      refine lv_i2b (v := a1.toInt8.toInt32) hx hb dJ5_append_3fe6f_40 rfl ?_
      obtain ⟨M16, h1, h⟩ := ob h
      refine r_bast hx hb hE hM hS h1 dJ5_append_3fe6f_41 (fun H locs hM hS => ?_)
      refine lv_goto (tgt := 75) hx hb dJ5_append_3fe6f_42 (by decide) ?_
      refine W.widen (k := 1) (n := 512) (Nat.le_of_ble_eq_true rfl) (Nat.le_of_ble_eq_true rfl) ?_
      exact tj_J5_append_3fe6f_75  hC hr hlocks hE  h hM hS (lv_sub hl [0] rfl)

theorem dd_J4_append_cf468 : yJ4_append_cf468.cls = RJ4 ∧ yJ4_append_cf468.cls ≠ "java/lang/invoke/MethodHandle" ∧ yJ4_append_cf468.cls ≠ "java/lang/invoke/VarHandle" ∧ (parseMethodDescriptor yJ4_append_cf468.desc).map (fun d => d.parameters.length) = some 1 := by decide +kernel
theorem du_J4_append_cf468 : yJ4_append_cf468.name ≠ "<init>" ∧ (parseMethodDescriptor yJ4_append_cf468.desc).map (fun d => d.parameters.length) = some 1 := by decide +kernel
theorem du2_J4_append_cf468 : "java/lang/AbstractStringBuilder" ≠ "java/lang/invoke/MethodHandle" ∧ "java/lang/AbstractStringBuilder" ≠ "java/lang/invoke/VarHandle" ∧ (parseMethodDescriptor yJ4_append_cf468.desc).map (fun d => d.parameters.length) = some 1 := by decide +kernel
abbrev rm_J4_append_cf468 : Room := ({ frames := 5, cells := 1, slots := 512, locals := 125 } : Room)
noncomputable def f_J4_append_cf468 (this : Nat) (a1 : Int32) (M : Mem) : Option (Nat × Mem) :=
  bn (cK 12 this M (f_J5_append_3fe6f this a1 M)) fun v1 M2 =>
  some (this, M2)
set_option maxHeartbeats 4000000 in
set_option maxRecDepth 100000 in
theorem mt_J4_append_cf468 (l : Launch) (E : KEnv) (this : Nat) (a1 : Int32) (M M' : Mem) (v : Nat) (h : f_J4_append_cf468 this a1 M = some (v, M')) : Met l yJ4_append_cf468 (Cond.code yJ4_append_cf468 cJ4_append_cf468 2 (some (.object "java/lang/StringBuilder")) :: lw_G) rm_J4_append_cf468 (cPc E [.ref this, .int a1] M) (cQ E (some (.ref v)) M') 1 512 (eA E) := by
  refine Met.ofW (cc := cJ4_append_cf468) (maxL := 2) (ret := (some (.object "java/lang/StringBuilder"))) (by decide) rfl ?_
  intro p e s m args below meth c s₁ B hml hv
  obtain ⟨rfl, hE, hM⟩ := hv
  have hx := B.exec
  have hb := B.bytes
  have hr := B.returns
  have hts0 := atoms_spec (ws := Cond.code yJ4_append_cf468 cJ4_append_cf468 2 (some (.object "java/lang/StringBuilder")) :: lw_G) B.pre
  have hts : ∀ w ∈ lw_G, w.before _ s = true := fun w hw => hts0 w (List.mem_cons_of_mem _ hw)
  have hown : s.vm.findClass RJ4 = some m.cls := findClass_of_methodNamed B.named
  have hlocks := B.notSynchronized
  have hC : CallFix p m c cJ4_append_cf468 2 s _ lw_G RJ4 := ⟨hx, hb, hml, hown, hts⟩
  have hS : va_S (eA E) s.heap s.heap [] := va_S.rf
  have hl := lv_entry ([.ref this, .int a1]) (n := 2) (Nat.le_of_ble_eq_true rfl)
  rw [lg_entry_eq]
  generalize (lg_sl ([.ref this, .int a1]) ++ List.replicate (2 - (lg_sl ([.ref this, .int a1])).length) Slot.unset).toArray = ls at hl ⊢
  have hl : lv_has ls 2 [(0, .ref this), (1, .int a1)] := hl
  unfold f_J4_append_cf468 at h
  show W p l e rm_J4_append_cf468 s m _ below meth c s.heap [] 0 0 _ _
  refine lv_aload_n hx hb dJ4_append_cf468_0 rfl (lv_at hl 0 rfl) ?_
  refine lv_iload_n hx hb dJ4_append_cf468_1 rfl (lv_at hl 1 rfl) ?_
  obtain ⟨v1, M2, h1, h⟩ := ob2 h
  obtain ⟨hk1, h1⟩ := ifg h1
  refine kSU1 (As := [.int a1]) (rest := []) hC hE hS hM (mt_J5_append_3fe6f _ E this a1 _ _ _ h1) (gwSU qw_894 qw_1212 qw_774 qw_895 qw_50 qw_896) ⟨rfl, rfl, (Nat.le_of_ble_eq_true rfl), (Nat.le_of_ble_eq_true rfl)⟩ du_J5_append_3fe6f rfl hk1 rfl hl.1 (Nat.le_of_ble_eq_true rfl) dJ4_append_cf468_2 ⟨(Nat.le_of_ble_eq_true rfl), (Nat.le_of_ble_eq_true rfl)⟩ (fun H locs hM hS => ?_)
  refine lv_pop hx hb dJ4_append_cf468_5 rfl ?_
  refine lv_aload_n hx hb dJ4_append_cf468_6 rfl (lv_at hl 0 rfl) ?_
  cases h
  exact eR hx hb hr (by first | exact Or.inl ⟨_, rfl⟩ | exact Or.inr ⟨_, rfl⟩) hlocks hM hS dJ4_append_cf468_7 (Nat.le_of_ble_eq_true rfl) (Nat.le_of_ble_eq_true rfl)

theorem dd_J6_stringSize_0f7a4 : yJ6_stringSize_0f7a4.cls ≠ "java/lang/invoke/MethodHandle" ∧ yJ6_stringSize_0f7a4.cls ≠ "java/lang/invoke/VarHandle" ∧ (parseMethodDescriptor yJ6_stringSize_0f7a4.desc).map (fun d => d.parameters.length) = some 1 := by decide +kernel
abbrev rm_J6_stringSize_0f7a4 : Room := ({ frames := 0, cells := 0, slots := 0, locals := 0 } : Room)
noncomputable def fj_J6_stringSize_0f7a4_42 (x1 : Int32) (M : Mem) : Option (Int32 × Mem) :=
  some (10 + x1, M)
set_option maxHeartbeats 4000000 in
set_option maxRecDepth 100000 in
theorem tj_J6_stringSize_0f7a4_42 {p : Program} {l : Launch} {e : Env} {s : State} {m : MethodId} {args : Array Value} {below : List Frame} {meth : Method} {c : Code} {E : KEnv} {H : Heap} {locs : List Loc} {ls : Array Slot} {x1 : Int32} {M : Mem} {v : Int32} {M' : Mem} (hC : CallFix p m c cJ6_stringSize_0f7a4 4 s args lw_G RJ6) (hr : meth.sig.returnType = (some .int)) (hlocks : meth.locks = false) (hE : EnvOK E s) (h : fj_J6_stringSize_0f7a4_42 x1 M = some (v, M')) (hM : MOK E M H) (hS : va_S (eA E) s.heap H locs) (hl : lv_has ls 4 [(1, .int x1)]) : W p l e rm_J6_stringSize_0f7a4 s m args below meth c H locs 0 0 (MQ below (cQ E (some (.int v)) M') args s 0 0 (eA E)) (F0 m 42 ls []) := by
  obtain ⟨hx, hb, hml, hown, hts⟩ := id hC
  unfold fj_J6_stringSize_0f7a4_42 at h
  refine lv_bipush (v := 10) hx hb dJ6_stringSize_0f7a4_42 (by decide) ?_
  refine lv_iload_n hx hb dJ6_stringSize_0f7a4_44 rfl (lv_at hl 0 rfl) ?_
  refine lv_iadd hx hb dJ6_stringSize_0f7a4_45 ?_
  cases h
  exact eI hx hb hr hlocks hM hS dJ6_stringSize_0f7a4_46 (Nat.le_of_ble_eq_true rfl) (Nat.le_of_ble_eq_true rfl)
noncomputable def fj_J6_stringSize_0f7a4_27 (x1 : Int32) (x3 : Int32) (M : Mem) : Option (Int32 × Mem) :=
  some (x3 + x1, M)
set_option maxHeartbeats 4000000 in
set_option maxRecDepth 100000 in
theorem tj_J6_stringSize_0f7a4_27 {p : Program} {l : Launch} {e : Env} {s : State} {m : MethodId} {args : Array Value} {below : List Frame} {meth : Method} {c : Code} {E : KEnv} {H : Heap} {locs : List Loc} {ls : Array Slot} {x1 : Int32} {x3 : Int32} {M : Mem} {v : Int32} {M' : Mem} (hC : CallFix p m c cJ6_stringSize_0f7a4 4 s args lw_G RJ6) (hr : meth.sig.returnType = (some .int)) (hlocks : meth.locks = false) (hE : EnvOK E s) (h : fj_J6_stringSize_0f7a4_27 x1 x3 M = some (v, M')) (hM : MOK E M H) (hS : va_S (eA E) s.heap H locs) (hl : lv_has ls 4 [(1, .int x1), (3, .int x3)]) : W p l e rm_J6_stringSize_0f7a4 s m args below meth c H locs 0 0 (MQ below (cQ E (some (.int v)) M') args s 0 0 (eA E)) (F0 m 27 ls []) := by
  obtain ⟨hx, hb, hml, hown, hts⟩ := id hC
  unfold fj_J6_stringSize_0f7a4_27 at h
  refine lv_iload_n hx hb dJ6_stringSize_0f7a4_27 rfl (lv_at hl 1 rfl) ?_
  refine lv_iload_n hx hb dJ6_stringSize_0f7a4_28 rfl (lv_at hl 0 rfl) ?_
  refine lv_iadd hx hb dJ6_stringSize_0f7a4_29 ?_
  cases h
  exact eI hx hb hr hlocks hM hS dJ6_stringSize_0f7a4_30 (Nat.le_of_ble_eq_true rfl) (Nat.le_of_ble_eq_true rfl)
noncomputable def fc_J6_stringSize_0f7a4_16 (x0 : Int32) (x1 : Int32) (x2 : Int32) (x3 : Int32) (M : Mem) : Option ((Int32 × Int32 × Mem) ⊕ (Int32 × Mem)) :=
  (if (10 : Int32) ≤ x3 then
  (fj_J6_stringSize_0f7a4_42 x1 M).map Sum.inr
  else
  (if x0 ≤ x2 then
  some (.inl (10 * x2, x3 + 1, M))
  else
  (fj_J6_stringSize_0f7a4_27 x1 x3 M).map Sum.inr))
noncomputable def fj_J6_stringSize_0f7a4_16 (x0 : Int32) (x1 : Int32) (x2 : Int32) (x3 : Int32) (M : Mem) : Option (Int32 × Mem) := loopM (fun q : (Int32 × Int32 × Mem) => fc_J6_stringSize_0f7a4_16 x0 x1 q.1 q.2.1 q.2.2) FU (x2, x3, M)
set_option maxHeartbeats 4000000 in
set_option maxRecDepth 100000 in
theorem tj_J6_stringSize_0f7a4_16 {p : Program} {l : Launch} {e : Env} {s : State} {m : MethodId} {args : Array Value} {below : List Frame} {meth : Method} {c : Code} {E : KEnv} {H : Heap} {locs : List Loc} {ls : Array Slot} {x0 : Int32} {x1 : Int32} {x2 : Int32} {x3 : Int32} {M : Mem} {v : Int32} {M' : Mem} (hC : CallFix p m c cJ6_stringSize_0f7a4 4 s args lw_G RJ6) (hr : meth.sig.returnType = (some .int)) (hlocks : meth.locks = false) (hE : EnvOK E s) (h : fj_J6_stringSize_0f7a4_16 x0 x1 x2 x3 M = some (v, M')) (hM : MOK E M H) (hS : va_S (eA E) s.heap H locs) (hl : lv_has ls 4 [(0, .int x0), (1, .int x1), (2, .int x2), (3, .int x3)]) : W p l e rm_J6_stringSize_0f7a4 s m args below meth c H locs 0 0 (MQ below (cQ E (some (.int v)) M') args s 0 0 (eA E)) (F0 m 16 ls []) := by
  refine loopM_ind (body := fun q : (Int32 × Int32 × Mem) => fc_J6_stringSize_0f7a4_16 x0 x1 q.1 q.2.1 q.2.2) (x0 := (v, M')) (Wd := fun q : (Int32 × Int32 × Mem) => ∀ (H : Heap) (locs : List Loc) (ls : Array Slot), MOK E (q.2.2) H → va_S (eA E) s.heap H locs → lv_has ls 4 [(0, .int x0), (1, .int x1), (2, .int q.1), (3, .int q.2.1)] → W p l e rm_J6_stringSize_0f7a4 s m args below meth c H locs 0 0 (MQ below (cQ E (some (.int v)) M') args s 0 0 (eA E)) (F0 m 16 ls [])) ?_ FU (x2, x3, M) h H locs ls hM hS hl
  clear h hM hS hl H locs ls M x2 x3
  obtain ⟨hx, hb, hml, hown, hts⟩ := id hC
  intro q y1 h hy1 H locs ls hM hS hl
  obtain ⟨x2, x3, M⟩ := q
  have h : fc_J6_stringSize_0f7a4_16 x0 x1 x2 x3 M = some y1 := h
  have hM : MOK E M H := hM
  have hl : lv_has ls 4 [(0, .int x0), (1, .int x1), (2, .int x2), (3, .int x3)] := hl
  unfold fc_J6_stringSize_0f7a4_16 at h
  show W p l e rm_J6_stringSize_0f7a4 s m args below meth c H locs _ _ _ _
  refine lv_iload_n hx hb dJ6_stringSize_0f7a4_16 rfl (lv_at hl 3 rfl) ?_
  refine lv_bipush (v := 10) hx hb dJ6_stringSize_0f7a4_17 (by decide) ?_
  refine lv_icmp_ge (tgt := 42) hx hb dJ6_stringSize_0f7a4_19 (by decide) (fun c1 => ?_) (fun c1 => ?_)
  · have h := ifp c1 h
    obtain ⟨z0, h9, rfl⟩ := om h
    have e0 := hy1.2 _ rfl
    subst e0
    have h := h9
    refine W.widen (k := 0) (n := 0) (Nat.le_of_ble_eq_true rfl) (Nat.le_of_ble_eq_true rfl) ?_
    exact tj_J6_stringSize_0f7a4_42  hC hr hlocks hE  h hM hS (lv_sub hl [1] rfl)
  · have h := ifn c1 h
    refine lv_iload_n hx hb dJ6_stringSize_0f7a4_22 rfl (lv_at hl 0 rfl) ?_
    refine lv_iload_n hx hb dJ6_stringSize_0f7a4_23 rfl (lv_at hl 2 rfl) ?_
    refine lv_icmp_le (tgt := 31) hx hb dJ6_stringSize_0f7a4_24 (by decide) (fun c1 => ?_) (fun c1 => ?_)
    · have h := ifp c1 h
      refine lv_bipush (v := 10) hx hb dJ6_stringSize_0f7a4_31 (by decide) ?_
      refine lv_iload_n hx hb dJ6_stringSize_0f7a4_33 rfl (lv_at hl 2 rfl) ?_
      refine lv_imul hx hb dJ6_stringSize_0f7a4_34 ?_
      refine lv_istore_n (lv' := [(2, .int (10 * x2)), (0, .int x0), (1, .int x1), (3, .int x3)]) hx hb dJ6_stringSize_0f7a4_35 rfl hl (by decide) rfl (fun ls hl => ?_)
      refine lv_iinc (v := x3 + 1) (lv' := [(3, .int (x3 + 1)), (2, .int (10 * x2)), (0, .int x0), (1, .int x1)]) hx hb dJ6_stringSize_0f7a4_36 hl (k := 3) rfl rfl (by decide) rfl (fun ls hl => ?_)
      refine lv_goto (tgt := 16) hx hb dJ6_stringSize_0f7a4_39 (by decide) ?_
      cases h
      exact hy1.1 _ rfl _ _ _ hM hS (lv_sub hl [2, 3, 1, 0] rfl)
    · have h := ifn c1 h
      obtain ⟨z0, h9, rfl⟩ := om h
      have e0 := hy1.2 _ rfl
      subst e0
      have h := h9
      refine W.widen (k := 0) (n := 0) (Nat.le_of_ble_eq_true rfl) (Nat.le_of_ble_eq_true rfl) ?_
      exact tj_J6_stringSize_0f7a4_27  hC hr hlocks hE  h hM hS (lv_sub hl [1, 3] rfl)
noncomputable def fj_J6_stringSize_0f7a4_11 (x0 : Int32) (x1 : Int32) (M : Mem) : Option (Int32 × Mem) :=
  fj_J6_stringSize_0f7a4_16 x0 x1 (-10) 1 M
set_option maxHeartbeats 4000000 in
set_option maxRecDepth 100000 in
theorem tj_J6_stringSize_0f7a4_11 {p : Program} {l : Launch} {e : Env} {s : State} {m : MethodId} {args : Array Value} {below : List Frame} {meth : Method} {c : Code} {E : KEnv} {H : Heap} {locs : List Loc} {ls : Array Slot} {x0 : Int32} {x1 : Int32} {M : Mem} {v : Int32} {M' : Mem} (hC : CallFix p m c cJ6_stringSize_0f7a4 4 s args lw_G RJ6) (hr : meth.sig.returnType = (some .int)) (hlocks : meth.locks = false) (hE : EnvOK E s) (h : fj_J6_stringSize_0f7a4_11 x0 x1 M = some (v, M')) (hM : MOK E M H) (hS : va_S (eA E) s.heap H locs) (hl : lv_has ls 4 [(0, .int x0), (1, .int x1)]) : W p l e rm_J6_stringSize_0f7a4 s m args below meth c H locs 0 0 (MQ below (cQ E (some (.int v)) M') args s 0 0 (eA E)) (F0 m 11 ls []) := by
  obtain ⟨hx, hb, hml, hown, hts⟩ := id hC
  unfold fj_J6_stringSize_0f7a4_11 at h
  refine lv_bipush (v := (-10)) hx hb dJ6_stringSize_0f7a4_11 (by decide) ?_
  refine lv_istore_n (lv' := [(2, .int (-10)), (0, .int x0), (1, .int x1)]) hx hb dJ6_stringSize_0f7a4_13 rfl hl (by decide) rfl (fun ls hl => ?_)
  refine lv_iconst (v := 1) hx hb dJ6_stringSize_0f7a4_14 (by decide) ?_
  refine lv_istore_n (lv' := [(3, .int 1), (2, .int (-10)), (0, .int x0), (1, .int x1)]) hx hb dJ6_stringSize_0f7a4_15 rfl hl (by decide) rfl (fun ls hl => ?_)
  refine W.widen (k := 0) (n := 0) (Nat.le_of_ble_eq_true rfl) (Nat.le_of_ble_eq_true rfl) ?_
  exact tj_J6_stringSize_0f7a4_16  hC hr hlocks hE  h hM hS (lv_sub hl [2, 3, 1, 0] rfl)
noncomputable def f_J6_stringSize_0f7a4 (a1 : Int32) (M : Mem) : Option (Int32 × Mem) :=
  (if a1 < 0 then
  fj_J6_stringSize_0f7a4_11 a1 1 M
  else
  fj_J6_stringSize_0f7a4_11 (-a1) 0 M)
set_option maxHeartbeats 4000000 in
set_option maxRecDepth 100000 in
theorem mt_J6_stringSize_0f7a4 (l : Launch) (E : KEnv) (a1 : Int32) (M M' : Mem) (v : Int32) (h : f_J6_stringSize_0f7a4 a1 M = some (v, M')) : Met l yJ6_stringSize_0f7a4 (Cond.code yJ6_stringSize_0f7a4 cJ6_stringSize_0f7a4 4 (some .int) :: lw_G) rm_J6_stringSize_0f7a4 (cPc E [.int a1] M) (cQ E (some (.int v)) M') 0 0 (eA E) := by
  refine Met.ofW (cc := cJ6_stringSize_0f7a4) (maxL := 4) (ret := (some .int)) (by decide) rfl ?_
  intro p e s m args below meth c s₁ B hml hv
  obtain ⟨rfl, hE, hM⟩ := hv
  have hx := B.exec
  have hb := B.bytes
  have hr := B.returns
  have hts0 := atoms_spec (ws := Cond.code yJ6_stringSize_0f7a4 cJ6_stringSize_0f7a4 4 (some .int) :: lw_G) B.pre
  have hts : ∀ w ∈ lw_G, w.before _ s = true := fun w hw => hts0 w (List.mem_cons_of_mem _ hw)
  have hown : s.vm.findClass RJ6 = some m.cls := findClass_of_methodNamed B.named
  have hlocks := B.notSynchronized
  have hC : CallFix p m c cJ6_stringSize_0f7a4 4 s _ lw_G RJ6 := ⟨hx, hb, hml, hown, hts⟩
  have hS : va_S (eA E) s.heap s.heap [] := va_S.rf
  have hl := lv_entry ([.int a1]) (n := 4) (Nat.le_of_ble_eq_true rfl)
  rw [lg_entry_eq]
  generalize (lg_sl ([.int a1]) ++ List.replicate (4 - (lg_sl ([.int a1])).length) Slot.unset).toArray = ls at hl ⊢
  have hl : lv_has ls 4 [(0, .int a1)] := hl
  unfold f_J6_stringSize_0f7a4 at h
  show W p l e rm_J6_stringSize_0f7a4 s m _ below meth c s.heap [] 0 0 _ _
  refine lv_iconst (v := 1) hx hb dJ6_stringSize_0f7a4_0 (by decide) ?_
  refine lv_istore_n (lv' := [(1, .int 1), (0, .int a1)]) hx hb dJ6_stringSize_0f7a4_1 rfl hl (by decide) rfl (fun ls hl => ?_)
  refine lv_iload_n hx hb dJ6_stringSize_0f7a4_2 rfl (lv_at hl 1 rfl) ?_
  refine lv_if_lt (tgt := 11) hx hb dJ6_stringSize_0f7a4_3 (by decide) (fun c1 => ?_) (fun c1 => ?_)
  · have h := ifp c1 h
    refine W.widen (k := 0) (n := 0) (Nat.le_of_ble_eq_true rfl) (Nat.le_of_ble_eq_true rfl) ?_
    exact tj_J6_stringSize_0f7a4_11  hC hr hlocks hE  h hM hS (lv_sub hl [1, 0] rfl)
  · have h := ifn c1 h
    refine lv_iconst (v := 0) hx hb dJ6_stringSize_0f7a4_6 (by decide) ?_
    refine lv_istore_n (lv' := [(1, .int 0), (0, .int a1)]) hx hb dJ6_stringSize_0f7a4_7 rfl hl (by decide) rfl (fun ls hl => ?_)
    refine lv_iload_n hx hb dJ6_stringSize_0f7a4_8 rfl (lv_at hl 1 rfl) ?_
    refine lv_ineg hx hb dJ6_stringSize_0f7a4_9 ?_
    refine lv_istore_n (lv' := [(0, .int (-a1)), (1, .int 0)]) hx hb dJ6_stringSize_0f7a4_10 rfl hl (by decide) rfl (fun ls hl => ?_)
    refine W.widen (k := 0) (n := 0) (Nat.le_of_ble_eq_true rfl) (Nat.le_of_ble_eq_true rfl) ?_
    exact tj_J6_stringSize_0f7a4_11  hC hr hlocks hE  h hM hS (lv_sub hl [0, 1] rfl)

theorem dd_J6_getChars_ba4f3 : yJ6_getChars_ba4f3.cls ≠ "java/lang/invoke/MethodHandle" ∧ yJ6_getChars_ba4f3.cls ≠ "java/lang/invoke/VarHandle" ∧ (parseMethodDescriptor yJ6_getChars_ba4f3.desc).map (fun d => d.parameters.length) = some 3 := by decide +kernel
abbrev rm_J6_getChars_ba4f3 : Room := ({ frames := 0, cells := 0, slots := 0, locals := 0 } : Room)
noncomputable def fj_J6_getChars_ba4f3_118 (x5 : Int32) (M : Mem) : Option (Int32 × Mem) :=
  some (x5, M)
set_option maxHeartbeats 4000000 in
set_option maxRecDepth 100000 in
theorem tj_J6_getChars_ba4f3_118 {p : Program} {l : Launch} {e : Env} {s : State} {m : MethodId} {args : Array Value} {below : List Frame} {meth : Method} {c : Code} {E : KEnv} {H : Heap} {locs : List Loc} {ls : Array Slot} {x5 : Int32} {M : Mem} {v : Int32} {M' : Mem} (hC : CallFix p m c cJ6_getChars_ba4f3 7 s args lw_G RJ6) (hr : meth.sig.returnType = (some .int)) (hlocks : meth.locks = false) (hE : EnvOK E s) (h : fj_J6_getChars_ba4f3_118 x5 M = some (v, M')) (hM : MOK E M H) (hS : va_S (eA E) s.heap H locs) (hl : lv_has ls 7 [(5, .int x5)]) : W p l e rm_J6_getChars_ba4f3 s m args below meth c H locs 0 0 (MQ below (cQ E (some (.int v)) M') args s 0 0 (eA E)) (F0 m 118 ls []) := by
  obtain ⟨hx, hb, hml, hown, hts⟩ := id hC
  unfold fj_J6_getChars_ba4f3_118 at h
  refine lv_iload hx hb dJ6_getChars_ba4f3_118 (lv_at hl 0 rfl) ?_
  cases h
  exact eI hx hb hr hlocks hM hS dJ6_getChars_ba4f3_120 (Nat.le_of_ble_eq_true rfl) (Nat.le_of_ble_eq_true rfl)
noncomputable def fj_J6_getChars_ba4f3_104 (x2 : Nat) (x5 : Int32) (x6 : Int32) (M : Mem) : Option (Int32 × Mem) :=
  (if x6 = 0 then
  fj_J6_getChars_ba4f3_118 x5 M
  else
  (sA 7 x2 (x5 + (-1)) 45 M).bind fun M3 =>
  fj_J6_getChars_ba4f3_118 (x5 + (-1)) M3)
set_option maxHeartbeats 4000000 in
set_option maxRecDepth 100000 in
theorem tj_J6_getChars_ba4f3_104 {p : Program} {l : Launch} {e : Env} {s : State} {m : MethodId} {args : Array Value} {below : List Frame} {meth : Method} {c : Code} {E : KEnv} {H : Heap} {locs : List Loc} {ls : Array Slot} {x2 : Nat} {x5 : Int32} {x6 : Int32} {M : Mem} {v : Int32} {M' : Mem} (hC : CallFix p m c cJ6_getChars_ba4f3 7 s args lw_G RJ6) (hr : meth.sig.returnType = (some .int)) (hlocks : meth.locks = false) (hE : EnvOK E s) (h : fj_J6_getChars_ba4f3_104 x2 x5 x6 M = some (v, M')) (hM : MOK E M H) (hS : va_S (eA E) s.heap H locs) (hl : lv_has ls 7 [(2, .ref x2), (5, .int x5), (6, .int x6)]) : W p l e rm_J6_getChars_ba4f3 s m args below meth c H locs 0 0 (MQ below (cQ E (some (.int v)) M') args s 0 0 (eA E)) (F0 m 104 ls []) := by
  obtain ⟨hx, hb, hml, hown, hts⟩ := id hC
  unfold fj_J6_getChars_ba4f3_104 at h
  refine lv_iload hx hb dJ6_getChars_ba4f3_104 (lv_at hl 2 rfl) ?_
  refine lv_if_eq (tgt := 118) hx hb dJ6_getChars_ba4f3_106 (by decide) (fun c1 => ?_) (fun c1 => ?_)
  · have h := ifp c1 h
    refine W.widen (k := 0) (n := 0) (Nat.le_of_ble_eq_true rfl) (Nat.le_of_ble_eq_true rfl) ?_
    exact tj_J6_getChars_ba4f3_118  hC hr hlocks hE  h hM hS (lv_sub hl [1] rfl)
  · have h := ifn c1 h
    refine lv_aload_n hx hb dJ6_getChars_ba4f3_109 rfl (lv_at hl 0 rfl) ?_
    refine lv_iinc (v := x5 + (-1)) (lv' := [(5, .int (x5 + (-1))), (2, .ref x2), (6, .int x6)]) hx hb dJ6_getChars_ba4f3_110 hl (k := 1) rfl rfl (by decide) rfl (fun ls hl => ?_)
    refine lv_iload hx hb dJ6_getChars_ba4f3_113 (lv_at hl 0 rfl) ?_
    refine lv_bipush (v := 45) hx hb dJ6_getChars_ba4f3_115 (by decide) ?_
    obtain ⟨M3, h1, h⟩ := ob h
    refine r_bast hx hb hE hM hS h1 dJ6_getChars_ba4f3_117 (fun H locs hM hS => ?_)
    refine W.widen (k := 0) (n := 0) (Nat.le_of_ble_eq_true rfl) (Nat.le_of_ble_eq_true rfl) ?_
    exact tj_J6_getChars_ba4f3_118  hC hr hlocks hE  h hM hS (lv_sub hl [0] rfl)
noncomputable def fj_J6_getChars_ba4f3_72 (x0 : Int32) (x2 : Nat) (x5 : Int32) (x6 : Int32) (M : Mem) : Option (Int32 × Mem) :=
  (gD 0 (-x0)).bind fun v1 =>
  (sA 7 x2 (x5 + (-1)) v1 M).bind fun M2 =>
  (if (-9 : Int32) ≤ x0 then
  fj_J6_getChars_ba4f3_104 x2 (x5 + (-1)) x6 M2
  else
  (gD 1 (-x0)).bind fun v4 =>
  (sA 7 x2 ((x5 + (-1)) + (-1)) v4 M2).bind fun M5 =>
  fj_J6_getChars_ba4f3_104 x2 ((x5 + (-1)) + (-1)) x6 M5)
set_option maxHeartbeats 4000000 in
set_option maxRecDepth 100000 in
theorem tj_J6_getChars_ba4f3_72 {p : Program} {l : Launch} {e : Env} {s : State} {m : MethodId} {args : Array Value} {below : List Frame} {meth : Method} {c : Code} {E : KEnv} {H : Heap} {locs : List Loc} {ls : Array Slot} {x0 : Int32} {x2 : Nat} {x5 : Int32} {x6 : Int32} {M : Mem} {v : Int32} {M' : Mem} (hC : CallFix p m c cJ6_getChars_ba4f3 7 s args lw_G RJ6) (hr : meth.sig.returnType = (some .int)) (hlocks : meth.locks = false) (hE : EnvOK E s) (h : fj_J6_getChars_ba4f3_72 x0 x2 x5 x6 M = some (v, M')) (hM : MOK E M H) (hS : va_S (eA E) s.heap H locs) (hl : lv_has ls 7 [(0, .int x0), (2, .ref x2), (5, .int x5), (6, .int x6)]) : W p l e rm_J6_getChars_ba4f3 s m args below meth c H locs 0 0 (MQ below (cQ E (some (.int v)) M') args s 0 0 (eA E)) (F0 m 72 ls []) := by
  obtain ⟨hx, hb, hml, hown, hts⟩ := id hC
  unfold fj_J6_getChars_ba4f3_72 at h
  refine lv_aload_n hx hb dJ6_getChars_ba4f3_72 rfl (lv_at hl 1 rfl) ?_
  refine lv_iinc (v := x5 + (-1)) (lv' := [(5, .int (x5 + (-1))), (0, .int x0), (2, .ref x2), (6, .int x6)]) hx hb dJ6_getChars_ba4f3_73 hl (k := 2) rfl rfl (by decide) rfl (fun ls hl => ?_)
  refine lv_iload hx hb dJ6_getChars_ba4f3_76 (lv_at hl 0 rfl) ?_
  refine va_gets hx hb (hE.2.2.2.2.2.2.2.2.2.2.2.2 0 (by decide)).1 hS hown (hts _ qw_878) (fun _ h9 => h9) dJ6_getChars_ba4f3_78 ?_
  refine lv_iload_n hx hb dJ6_getChars_ba4f3_81 rfl (lv_at hl 1 rfl) ?_
  refine lv_ineg hx hb dJ6_getChars_ba4f3_82 ?_
  obtain ⟨v1, h1, h⟩ := ob h
  refine r_dig hx hb hE hS h1 dJ6_getChars_ba4f3_83 ?_
  obtain ⟨M2, h1, h⟩ := ob h
  refine r_bast hx hb hE hM hS h1 dJ6_getChars_ba4f3_84 (fun H locs hM hS => ?_)
  refine lv_iload_n hx hb dJ6_getChars_ba4f3_85 rfl (lv_at hl 1 rfl) ?_
  refine lv_bipush (v := (-9)) hx hb dJ6_getChars_ba4f3_86 (by decide) ?_
  refine lv_icmp_ge (tgt := 104) hx hb dJ6_getChars_ba4f3_88 (by decide) (fun c1 => ?_) (fun c1 => ?_)
  · have h := ifp c1 h
    refine W.widen (k := 0) (n := 0) (Nat.le_of_ble_eq_true rfl) (Nat.le_of_ble_eq_true rfl) ?_
    exact tj_J6_getChars_ba4f3_104  hC hr hlocks hE  h hM hS (lv_sub hl [2, 0, 3] rfl)
  · have h := ifn c1 h
    refine lv_aload_n hx hb dJ6_getChars_ba4f3_91 rfl (lv_at hl 2 rfl) ?_
    refine lv_iinc (v := (x5 + (-1)) + (-1)) (lv' := [(5, .int ((x5 + (-1)) + (-1))), (0, .int x0), (2, .ref x2), (6, .int x6)]) hx hb dJ6_getChars_ba4f3_92 hl (k := 0) rfl rfl (by decide) rfl (fun ls hl => ?_)
    refine lv_iload hx hb dJ6_getChars_ba4f3_95 (lv_at hl 0 rfl) ?_
    refine va_gets hx hb (hE.2.2.2.2.2.2.2.2.2.2.2.2 1 (by decide)).1 hS hown (hts _ qw_880) (fun _ h9 => h9) dJ6_getChars_ba4f3_97 ?_
    refine lv_iload_n hx hb dJ6_getChars_ba4f3_100 rfl (lv_at hl 1 rfl) ?_
    refine lv_ineg hx hb dJ6_getChars_ba4f3_101 ?_
    obtain ⟨v4, h1, h⟩ := ob h
    refine r_dig hx hb hE hS h1 dJ6_getChars_ba4f3_102 ?_
    obtain ⟨M5, h1, h⟩ := ob h
    refine r_bast hx hb hE hM hS h1 dJ6_getChars_ba4f3_103 (fun H locs hM hS => ?_)
    refine W.widen (k := 0) (n := 0) (Nat.le_of_ble_eq_true rfl) (Nat.le_of_ble_eq_true rfl) ?_
    exact tj_J6_getChars_ba4f3_104  hC hr hlocks hE  h hM hS (lv_sub hl [2, 0, 3] rfl)
noncomputable def fc_J6_getChars_ba4f3_22 (x2 : Nat) (x6 : Int32) (x0 : Int32) (x5 : Int32) (M : Mem) : Option ((Int32 × Int32 × Mem) ⊕ (Int32 × Mem)) :=
  (if (-100 : Int32) < x0 then
  (fj_J6_getChars_ba4f3_72 x0 x2 x5 x6 M).map Sum.inr
  else
  (gD 0 (((x0 / 100) * 100) - x0)).bind fun v6 =>
  (sA 7 x2 (x5 + (-1)) v6 M).bind fun M7 =>
  (gD 1 (((x0 / 100) * 100) - x0)).bind fun v8 =>
  (sA 7 x2 ((x5 + (-1)) + (-1)) v8 M7).bind fun M9 =>
  some (.inl (x0 / 100, (x5 + (-1)) + (-1), M9)))
noncomputable def fj_J6_getChars_ba4f3_22 (x2 : Nat) (x6 : Int32) (x0 : Int32) (x5 : Int32) (M : Mem) : Option (Int32 × Mem) := loopM (fun q : (Int32 × Int32 × Mem) => fc_J6_getChars_ba4f3_22 x2 x6 q.1 q.2.1 q.2.2) FU (x0, x5, M)
set_option maxHeartbeats 4000000 in
set_option maxRecDepth 100000 in
theorem tj_J6_getChars_ba4f3_22 {p : Program} {l : Launch} {e : Env} {s : State} {m : MethodId} {args : Array Value} {below : List Frame} {meth : Method} {c : Code} {E : KEnv} {H : Heap} {locs : List Loc} {ls : Array Slot} {x2 : Nat} {x6 : Int32} {x0 : Int32} {x5 : Int32} {M : Mem} {v : Int32} {M' : Mem} (hC : CallFix p m c cJ6_getChars_ba4f3 7 s args lw_G RJ6) (hr : meth.sig.returnType = (some .int)) (hlocks : meth.locks = false) (hE : EnvOK E s) (h : fj_J6_getChars_ba4f3_22 x2 x6 x0 x5 M = some (v, M')) (hM : MOK E M H) (hS : va_S (eA E) s.heap H locs) (hl : lv_has ls 7 [(2, .ref x2), (6, .int x6), (0, .int x0), (5, .int x5)]) : W p l e rm_J6_getChars_ba4f3 s m args below meth c H locs 0 0 (MQ below (cQ E (some (.int v)) M') args s 0 0 (eA E)) (F0 m 22 ls []) := by
  refine loopM_ind (body := fun q : (Int32 × Int32 × Mem) => fc_J6_getChars_ba4f3_22 x2 x6 q.1 q.2.1 q.2.2) (x0 := (v, M')) (Wd := fun q : (Int32 × Int32 × Mem) => ∀ (H : Heap) (locs : List Loc) (ls : Array Slot), MOK E (q.2.2) H → va_S (eA E) s.heap H locs → lv_has ls 7 [(2, .ref x2), (6, .int x6), (0, .int q.1), (5, .int q.2.1)] → W p l e rm_J6_getChars_ba4f3 s m args below meth c H locs 0 0 (MQ below (cQ E (some (.int v)) M') args s 0 0 (eA E)) (F0 m 22 ls [])) ?_ FU (x0, x5, M) h H locs ls hM hS hl
  clear h hM hS hl H locs ls M x0 x5
  obtain ⟨hx, hb, hml, hown, hts⟩ := id hC
  intro q y1 h hy1 H locs ls hM hS hl
  obtain ⟨x0, x5, M⟩ := q
  have h : fc_J6_getChars_ba4f3_22 x2 x6 x0 x5 M = some y1 := h
  have hM : MOK E M H := hM
  have hl : lv_has ls 7 [(2, .ref x2), (6, .int x6), (0, .int x0), (5, .int x5)] := hl
  unfold fc_J6_getChars_ba4f3_22 at h
  show W p l e rm_J6_getChars_ba4f3 s m args below meth c H locs _ _ _ _
  refine lv_iload_n hx hb dJ6_getChars_ba4f3_22 rfl (lv_at hl 2 rfl) ?_
  refine lv_bipush (v := (-100)) hx hb dJ6_getChars_ba4f3_23 (by decide) ?_
  refine lv_icmp_gt (tgt := 72) hx hb dJ6_getChars_ba4f3_25 (by decide) (fun c1 => ?_) (fun c1 => ?_)
  · have h := ifp c1 h
    obtain ⟨z0, h9, rfl⟩ := om h
    have e0 := hy1.2 _ rfl
    subst e0
    have h := h9
    refine W.widen (k := 0) (n := 0) (Nat.le_of_ble_eq_true rfl) (Nat.le_of_ble_eq_true rfl) ?_
    exact tj_J6_getChars_ba4f3_72  hC hr hlocks hE  h hM hS (lv_sub hl [2, 0, 3, 1] rfl)
  · have h := ifn c1 h
    refine lv_iload_n hx hb dJ6_getChars_ba4f3_28 rfl (lv_at hl 2 rfl) ?_
    refine lv_bipush (v := 100) hx hb dJ6_getChars_ba4f3_29 (by decide) ?_
    refine lv_idiv hx hb dJ6_getChars_ba4f3_31 (by decide) ?_
    refine lv_istore_n (lv' := [(3, .int (x0 / 100)), (2, .ref x2), (6, .int x6), (0, .int x0), (5, .int x5)]) hx hb dJ6_getChars_ba4f3_32 rfl hl (by decide) rfl (fun ls hl => ?_)
    refine lv_iload_n hx hb dJ6_getChars_ba4f3_33 rfl (lv_at hl 0 rfl) ?_
    refine lv_bipush (v := 100) hx hb dJ6_getChars_ba4f3_34 (by decide) ?_
    refine lv_imul hx hb dJ6_getChars_ba4f3_36 ?_
    refine lv_iload_n hx hb dJ6_getChars_ba4f3_37 rfl (lv_at hl 3 rfl) ?_
    refine lv_isub hx hb dJ6_getChars_ba4f3_38 ?_
    refine lv_istore (lv' := [(4, .int (((x0 / 100) * 100) - x0)), (3, .int (x0 / 100)), (2, .ref x2), (6, .int x6), (0, .int x0), (5, .int x5)]) hx hb dJ6_getChars_ba4f3_39 hl (by decide) rfl (fun ls hl => ?_)
    refine lv_iload_n hx hb dJ6_getChars_ba4f3_41 rfl (lv_at hl 1 rfl) ?_
    refine lv_istore_n (lv' := [(0, .int (x0 / 100)), (4, .int (((x0 / 100) * 100) - x0)), (3, .int (x0 / 100)), (2, .ref x2), (6, .int x6), (5, .int x5)]) hx hb dJ6_getChars_ba4f3_42 rfl hl (by decide) rfl (fun ls hl => ?_)
    refine lv_aload_n hx hb dJ6_getChars_ba4f3_43 rfl (lv_at hl 3 rfl) ?_
    refine lv_iinc (v := x5 + (-1)) (lv' := [(5, .int (x5 + (-1))), (0, .int (x0 / 100)), (4, .int (((x0 / 100) * 100) - x0)), (3, .int (x0 / 100)), (2, .ref x2), (6, .int x6)]) hx hb dJ6_getChars_ba4f3_44 hl (k := 5) rfl rfl (by decide) rfl (fun ls hl => ?_)
    refine lv_iload hx hb dJ6_getChars_ba4f3_47 (lv_at hl 0 rfl) ?_
    refine va_gets hx hb (hE.2.2.2.2.2.2.2.2.2.2.2.2 0 (by decide)).1 hS hown (hts _ qw_878) (fun _ h9 => h9) dJ6_getChars_ba4f3_49 ?_
    refine lv_iload hx hb dJ6_getChars_ba4f3_52 (lv_at hl 2 rfl) ?_
    obtain ⟨v6, h1, h⟩ := ob h
    refine r_dig hx hb hE hS h1 dJ6_getChars_ba4f3_54 ?_
    obtain ⟨M7, h1, h⟩ := ob h
    refine r_bast hx hb hE hM hS h1 dJ6_getChars_ba4f3_55 (fun H locs hM hS => ?_)
    refine lv_aload_n hx hb dJ6_getChars_ba4f3_56 rfl (lv_at hl 4 rfl) ?_
    refine lv_iinc (v := (x5 + (-1)) + (-1)) (lv' := [(5, .int ((x5 + (-1)) + (-1))), (0, .int (x0 / 100)), (4, .int (((x0 / 100) * 100) - x0)), (3, .int (x0 / 100)), (2, .ref x2), (6, .int x6)]) hx hb dJ6_getChars_ba4f3_57 hl (k := 0) rfl rfl (by decide) rfl (fun ls hl => ?_)
    refine lv_iload hx hb dJ6_getChars_ba4f3_60 (lv_at hl 0 rfl) ?_
    refine va_gets hx hb (hE.2.2.2.2.2.2.2.2.2.2.2.2 1 (by decide)).1 hS hown (hts _ qw_880) (fun _ h9 => h9) dJ6_getChars_ba4f3_62 ?_
    refine lv_iload hx hb dJ6_getChars_ba4f3_65 (lv_at hl 2 rfl) ?_
    obtain ⟨v8, h1, h⟩ := ob h
    refine r_dig hx hb hE hS h1 dJ6_getChars_ba4f3_67 ?_
    obtain ⟨M9, h1, h⟩ := ob h
    refine r_bast hx hb hE hM hS h1 dJ6_getChars_ba4f3_68 (fun H locs hM hS => ?_)
    refine lv_goto (tgt := 22) hx hb dJ6_getChars_ba4f3_69 (by decide) ?_
    cases h
    exact hy1.1 _ rfl _ _ _ hM hS (lv_sub hl [4, 5, 1, 0] rfl)
noncomputable def fj_J6_getChars_ba4f3_12 (x0 : Int32) (x2 : Nat) (x5 : Int32) (s0 : Int32) (M : Mem) : Option (Int32 × Mem) :=
  (if s0 = 0 then
  fj_J6_getChars_ba4f3_22 x2 s0 (-x0) x5 M
  else
  fj_J6_getChars_ba4f3_22 x2 s0 x0 x5 M)
set_option maxHeartbeats 4000000 in
set_option maxRecDepth 100000 in
theorem tj_J6_getChars_ba4f3_12 {p : Program} {l : Launch} {e : Env} {s : State} {m : MethodId} {args : Array Value} {below : List Frame} {meth : Method} {c : Code} {E : KEnv} {H : Heap} {locs : List Loc} {ls : Array Slot} {x0 : Int32} {x2 : Nat} {x5 : Int32} {s0 : Int32} {M : Mem} {v : Int32} {M' : Mem} (hC : CallFix p m c cJ6_getChars_ba4f3 7 s args lw_G RJ6) (hr : meth.sig.returnType = (some .int)) (hlocks : meth.locks = false) (hE : EnvOK E s) (h : fj_J6_getChars_ba4f3_12 x0 x2 x5 s0 M = some (v, M')) (hM : MOK E M H) (hS : va_S (eA E) s.heap H locs) (hl : lv_has ls 7 [(0, .int x0), (2, .ref x2), (5, .int x5)]) : W p l e rm_J6_getChars_ba4f3 s m args below meth c H locs 0 0 (MQ below (cQ E (some (.int v)) M') args s 0 0 (eA E)) (F0 m 12 ls [.int s0]) := by
  obtain ⟨hx, hb, hml, hown, hts⟩ := id hC
  unfold fj_J6_getChars_ba4f3_12 at h
  refine lv_istore (lv' := [(6, .int s0), (0, .int x0), (2, .ref x2), (5, .int x5)]) hx hb dJ6_getChars_ba4f3_12 hl (by decide) rfl (fun ls hl => ?_)
  refine lv_iload hx hb dJ6_getChars_ba4f3_14 (lv_at hl 0 rfl) ?_
  refine lv_if_ne (tgt := 22) hx hb dJ6_getChars_ba4f3_16 (by decide) (fun c1 => ?_) (fun c1 => ?_)
  · have h := ifn c1 h
    refine W.widen (k := 0) (n := 0) (Nat.le_of_ble_eq_true rfl) (Nat.le_of_ble_eq_true rfl) ?_
    exact tj_J6_getChars_ba4f3_22  hC hr hlocks hE  h hM hS (lv_sub hl [2, 0, 1, 3] rfl)
  · have h := ifp c1 h
    refine lv_iload_n hx hb dJ6_getChars_ba4f3_19 rfl (lv_at hl 1 rfl) ?_
    refine lv_ineg hx hb dJ6_getChars_ba4f3_20 ?_
    refine lv_istore_n (lv' := [(0, .int (-x0)), (6, .int s0), (2, .ref x2), (5, .int x5)]) hx hb dJ6_getChars_ba4f3_21 rfl hl (by decide) rfl (fun ls hl => ?_)
    refine W.widen (k := 0) (n := 0) (Nat.le_of_ble_eq_true rfl) (Nat.le_of_ble_eq_true rfl) ?_
    exact tj_J6_getChars_ba4f3_22  hC hr hlocks hE  h hM hS (lv_sub hl [2, 1, 0, 3] rfl)
noncomputable def f_J6_getChars_ba4f3 (a1 : Int32) (a2 : Int32) (a3 : Nat) (M : Mem) : Option (Int32 × Mem) :=
  (if (0 : Int32) ≤ a1 then
  fj_J6_getChars_ba4f3_12 a1 a3 a2 0 M
  else
  fj_J6_getChars_ba4f3_12 a1 a3 a2 1 M)
set_option maxHeartbeats 4000000 in
set_option maxRecDepth 100000 in
theorem mt_J6_getChars_ba4f3 (l : Launch) (E : KEnv) (a1 : Int32) (a2 : Int32) (a3 : Nat) (M M' : Mem) (v : Int32) (h : f_J6_getChars_ba4f3 a1 a2 a3 M = some (v, M')) : Met l yJ6_getChars_ba4f3 (Cond.code yJ6_getChars_ba4f3 cJ6_getChars_ba4f3 7 (some .int) :: lw_G) rm_J6_getChars_ba4f3 (cPc E [.int a1, .int a2, .ref a3] M) (cQ E (some (.int v)) M') 0 0 (eA E) := by
  refine Met.ofW (cc := cJ6_getChars_ba4f3) (maxL := 7) (ret := (some .int)) (by decide) rfl ?_
  intro p e s m args below meth c s₁ B hml hv
  obtain ⟨rfl, hE, hM⟩ := hv
  have hx := B.exec
  have hb := B.bytes
  have hr := B.returns
  have hts0 := atoms_spec (ws := Cond.code yJ6_getChars_ba4f3 cJ6_getChars_ba4f3 7 (some .int) :: lw_G) B.pre
  have hts : ∀ w ∈ lw_G, w.before _ s = true := fun w hw => hts0 w (List.mem_cons_of_mem _ hw)
  have hown : s.vm.findClass RJ6 = some m.cls := findClass_of_methodNamed B.named
  have hlocks := B.notSynchronized
  have hC : CallFix p m c cJ6_getChars_ba4f3 7 s _ lw_G RJ6 := ⟨hx, hb, hml, hown, hts⟩
  have hS : va_S (eA E) s.heap s.heap [] := va_S.rf
  have hl := lv_entry ([.int a1, .int a2, .ref a3]) (n := 7) (Nat.le_of_ble_eq_true rfl)
  rw [lg_entry_eq]
  generalize (lg_sl ([.int a1, .int a2, .ref a3]) ++ List.replicate (7 - (lg_sl ([.int a1, .int a2, .ref a3])).length) Slot.unset).toArray = ls at hl ⊢
  have hl : lv_has ls 7 [(0, .int a1), (1, .int a2), (2, .ref a3)] := hl
  unfold f_J6_getChars_ba4f3 at h
  show W p l e rm_J6_getChars_ba4f3 s m _ below meth c s.heap [] 0 0 _ _
  refine lv_iload_n hx hb dJ6_getChars_ba4f3_0 rfl (lv_at hl 1 rfl) ?_
  refine lv_istore (lv' := [(5, .int a2), (0, .int a1), (1, .int a2), (2, .ref a3)]) hx hb dJ6_getChars_ba4f3_1 hl (by decide) rfl (fun ls hl => ?_)
  refine lv_iload_n hx hb dJ6_getChars_ba4f3_3 rfl (lv_at hl 1 rfl) ?_
  refine lv_if_ge (tgt := 11) hx hb dJ6_getChars_ba4f3_4 (by decide) (fun c1 => ?_) (fun c1 => ?_)
  · have h := ifp c1 h
    refine lv_iconst (v := 0) hx hb dJ6_getChars_ba4f3_11 (by decide) ?_
    refine W.widen (k := 0) (n := 0) (Nat.le_of_ble_eq_true rfl) (Nat.le_of_ble_eq_true rfl) ?_
    exact tj_J6_getChars_ba4f3_12  hC hr hlocks hE  h hM hS (lv_sub hl [1, 3, 0] rfl)
  · have h := ifn c1 h
    refine lv_iconst (v := 1) hx hb dJ6_getChars_ba4f3_7 (by decide) ?_
    refine lv_goto (tgt := 12) hx hb dJ6_getChars_ba4f3_8 (by decide) ?_
    refine W.widen (k := 0) (n := 0) (Nat.le_of_ble_eq_true rfl) (Nat.le_of_ble_eq_true rfl) ?_
    exact tj_J6_getChars_ba4f3_12  hC hr hlocks hE  h hM hS (lv_sub hl [1, 3, 0] rfl)

theorem dd_J5_append_c97b9 : yJ5_append_c97b9.cls = RJ5 ∧ yJ5_append_c97b9.cls ≠ "java/lang/invoke/MethodHandle" ∧ yJ5_append_c97b9.cls ≠ "java/lang/invoke/VarHandle" ∧ (parseMethodDescriptor yJ5_append_c97b9.desc).map (fun d => d.parameters.length) = some 1 := by decide +kernel
theorem du_J5_append_c97b9 : yJ5_append_c97b9.name ≠ "<init>" ∧ (parseMethodDescriptor yJ5_append_c97b9.desc).map (fun d => d.parameters.length) = some 1 := by decide +kernel
theorem du2_J5_append_c97b9 : "java/lang/AbstractStringBuilder" ≠ "java/lang/invoke/MethodHandle" ∧ "java/lang/AbstractStringBuilder" ≠ "java/lang/invoke/VarHandle" ∧ (parseMethodDescriptor yJ5_append_c97b9.desc).map (fun d => d.parameters.length) = some 1 := by decide +kernel
abbrev rm_J5_append_c97b9 : Room := ({ frames := 4, cells := 1, slots := 512, locals := 104 } : Room)
noncomputable def fj_J5_append_c97b9_48 (x0 : Nat) (x3 : Int32) (M : Mem) : Option (Nat × Mem) :=
  (sI 12 195 x0 x3 M).bind fun M12 =>
  some (x0, M12)
set_option maxHeartbeats 4000000 in
set_option maxRecDepth 100000 in
theorem tj_J5_append_c97b9_48 {p : Program} {l : Launch} {e : Env} {s : State} {m : MethodId} {args : Array Value} {below : List Frame} {meth : Method} {c : Code} {E : KEnv} {H : Heap} {locs : List Loc} {ls : Array Slot} {x0 : Nat} {x3 : Int32} {M : Mem} {v : Nat} {M' : Mem} (hC : CallFix p m c cJ5_append_c97b9 4 s args lw_G RJ5) (hr : meth.sig.returnType = (some (.object "java/lang/AbstractStringBuilder"))) (hlocks : meth.locks = false) (hE : EnvOK E s) (h : fj_J5_append_c97b9_48 x0 x3 M = some (v, M')) (hM : MOK E M H) (hS : va_S (eA E) s.heap H locs) (hl : lv_has ls 4 [(0, .ref x0), (3, .int x3)]) : W p l e rm_J5_append_c97b9 s m args below meth c H locs 1 512 (MQ below (cQ E (some (.ref v)) M') args s 1 512 (eA E)) (F0 m 48 ls []) := by
  obtain ⟨hx, hb, hml, hown, hts⟩ := id hC
  unfold fj_J5_append_c97b9_48 at h
  refine lv_aload_n hx hb dJ5_append_c97b9_48 rfl (lv_at hl 0 rfl) ?_
  refine lv_iload_n hx hb dJ5_append_c97b9_49 rfl (lv_at hl 1 rfl) ?_
  obtain ⟨M12, h1, h⟩ := ob h
  refine rp_6_3 hx hb hts hown hE hM qw_856 hS h1 dJ5_append_c97b9_50 (fun H locs hM hS => ?_)
  refine lv_aload_n hx hb dJ5_append_c97b9_53 rfl (lv_at hl 0 rfl) ?_
  cases h
  exact eR hx hb hr (by first | exact Or.inl ⟨_, rfl⟩ | exact Or.inr ⟨_, rfl⟩) hlocks hM hS dJ5_append_c97b9_54 (Nat.le_of_ble_eq_true rfl) (Nat.le_of_ble_eq_true rfl)
noncomputable def f_J5_append_c97b9 (this : Nat) (a1 : Int32) (M : Mem) : Option (Nat × Mem) :=
  (gI 12 195 this M).bind fun v1 =>
  bn (f_J6_stringSize_0f7a4 a1 M) fun v2 M3 =>
  (cK 12 this M3 (f_J5_ensureCapacityInternal_d00df this (v1 + v2) M3)).bind fun M5 =>
  bn (cK 12 this M5 (f_J5_isLatin1_aae02 this M5)) fun v6 M7 =>
  (if v6 = 0 then
  (gRn 12 192 this M7).bind fun v8 =>
  none
  else
  (gRn 12 192 this M7).bind fun v9 =>
  bn (f_J6_getChars_ba4f3 a1 (v1 + v2) v9 M7) fun v10 M11 =>
  fj_J5_append_c97b9_48 this (v1 + v2) M11)
set_option maxHeartbeats 4000000 in
set_option maxRecDepth 100000 in
theorem mt_J5_append_c97b9 (l : Launch) (E : KEnv) (this : Nat) (a1 : Int32) (M M' : Mem) (v : Nat) (h : f_J5_append_c97b9 this a1 M = some (v, M')) : Met l yJ5_append_c97b9 (Cond.code yJ5_append_c97b9 cJ5_append_c97b9 4 (some (.object "java/lang/AbstractStringBuilder")) :: lw_G) rm_J5_append_c97b9 (cPc E [.ref this, .int a1] M) (cQ E (some (.ref v)) M') 1 512 (eA E) := by
  refine Met.ofW (cc := cJ5_append_c97b9) (maxL := 4) (ret := (some (.object "java/lang/AbstractStringBuilder"))) (by decide) rfl ?_
  intro p e s m args below meth c s₁ B hml hv
  obtain ⟨rfl, hE, hM⟩ := hv
  have hx := B.exec
  have hb := B.bytes
  have hr := B.returns
  have hts0 := atoms_spec (ws := Cond.code yJ5_append_c97b9 cJ5_append_c97b9 4 (some (.object "java/lang/AbstractStringBuilder")) :: lw_G) B.pre
  have hts : ∀ w ∈ lw_G, w.before _ s = true := fun w hw => hts0 w (List.mem_cons_of_mem _ hw)
  have hown : s.vm.findClass RJ5 = some m.cls := findClass_of_methodNamed B.named
  have hlocks := B.notSynchronized
  have hC : CallFix p m c cJ5_append_c97b9 4 s _ lw_G RJ5 := ⟨hx, hb, hml, hown, hts⟩
  have hS : va_S (eA E) s.heap s.heap [] := va_S.rf
  have hl := lv_entry ([.ref this, .int a1]) (n := 4) (Nat.le_of_ble_eq_true rfl)
  rw [lg_entry_eq]
  generalize (lg_sl ([.ref this, .int a1]) ++ List.replicate (4 - (lg_sl ([.ref this, .int a1])).length) Slot.unset).toArray = ls at hl ⊢
  have hl : lv_has ls 4 [(0, .ref this), (1, .int a1)] := hl
  unfold f_J5_append_c97b9 at h
  show W p l e rm_J5_append_c97b9 s m _ below meth c s.heap [] 0 0 _ _
  refine lv_aload_n hx hb dJ5_append_c97b9_0 rfl (lv_at hl 0 rfl) ?_
  obtain ⟨v1, h1, h⟩ := ob h
  refine rg_6_3 hx hb hts hown hE hM qw_856 h1 dJ5_append_c97b9_1 ?_
  refine lv_istore_n (lv' := [(2, .int v1), (0, .ref this), (1, .int a1)]) hx hb dJ5_append_c97b9_4 rfl hl (by decide) rfl (fun ls hl => ?_)
  refine lv_iload_n hx hb dJ5_append_c97b9_5 rfl (lv_at hl 0 rfl) ?_
  refine lv_iload_n hx hb dJ5_append_c97b9_6 rfl (lv_at hl 2 rfl) ?_
  obtain ⟨v2, M3, h1, h⟩ := ob2 h
  refine kS1 (As := [.int a1]) (rest := [.int v1]) hC hE hS hM (mt_J6_stringSize_0f7a4 _ E a1 _ _ _ h1) (gwS qw_872 qw_873 qw_54 qw_874) ⟨rfl, rfl, (Nat.le_of_ble_eq_true rfl), (Nat.le_of_ble_eq_true rfl)⟩ dd_J6_stringSize_0f7a4 rfl rfl hl.1 (Nat.le_of_ble_eq_true rfl) dJ5_append_c97b9_7 ⟨(Nat.le_of_ble_eq_true rfl), (Nat.le_of_ble_eq_true rfl)⟩ (fun H locs hM hS => ?_)
  refine lv_iadd hx hb dJ5_append_c97b9_10 ?_
  refine lv_istore_n (lv' := [(3, .int (v1 + v2)), (2, .int v1), (0, .ref this), (1, .int a1)]) hx hb dJ5_append_c97b9_11 rfl hl (by decide) rfl (fun ls hl => ?_)
  refine lv_aload_n hx hb dJ5_append_c97b9_12 rfl (lv_at hl 2 rfl) ?_
  refine lv_iload_n hx hb dJ5_append_c97b9_13 rfl (lv_at hl 0 rfl) ?_
  obtain ⟨M5, h1, h⟩ := ob h
  obtain ⟨hk1, h1⟩ := ifg h1
  refine kU0 (owner := "java/lang/AbstractStringBuilder") (x := yJ5_ensureCapacityInternal_d00df) (y := yJ5_ensureCapacityInternal_d00df) (As := [.int (v1 + v2)]) (rest := []) hC hE hS hM (mt_J5_ensureCapacityInternal_d00df _ E this (v1 + v2) _ _ h1) (gwU qw_780 qw_1206 qw_1216 qw_782 qw_50 qw_783) rfl ⟨rfl, rfl, (Nat.le_of_ble_eq_true rfl), (Nat.le_of_ble_eq_true rfl)⟩ du2_J5_ensureCapacityInternal_d00df rfl hk1 rfl hl.1 (Nat.le_of_ble_eq_true rfl) dJ5_append_c97b9_14 ⟨(Nat.le_of_ble_eq_true rfl), (Nat.le_of_ble_eq_true rfl)⟩ (fun H locs hM hS => ?_)
  refine lv_aload_n hx hb dJ5_append_c97b9_17 rfl (lv_at hl 2 rfl) ?_
  obtain ⟨v6, M7, h1, h⟩ := ob2 h
  obtain ⟨hk1, h1⟩ := ifg h1
  refine kU1 (owner := "java/lang/AbstractStringBuilder") (x := yJ5_isLatin1_aae02) (y := yJ5_isLatin1_aae02) (As := []) (rest := []) hC hE hS hM (mt_J5_isLatin1_aae02 _ E this _ _ _ h1) (gwU qw_808 qw_810 qw_811 qw_809 qw_50 qw_812) rfl ⟨rfl, rfl, (Nat.le_of_ble_eq_true rfl), (Nat.le_of_ble_eq_true rfl)⟩ du2_J5_isLatin1_aae02 rfl hk1 rfl hl.1 (Nat.le_of_ble_eq_true rfl) dJ5_append_c97b9_18 ⟨(Nat.le_of_ble_eq_true rfl), (Nat.le_of_ble_eq_true rfl)⟩ (fun H locs hM hS => ?_)
  refine lv_if_eq (tgt := 37) hx hb dJ5_append_c97b9_21 (by decide) (fun c1 => ?_) (fun c1 => ?_)
  · have h := ifp c1 h
    refine lv_iload_n hx hb dJ5_append_c97b9_37 rfl (lv_at hl 3 rfl) ?_
    refine lv_iload_n hx hb dJ5_append_c97b9_38 rfl (lv_at hl 1 rfl) ?_
    refine lv_iload_n hx hb dJ5_append_c97b9_39 rfl (lv_at hl 0 rfl) ?_
    refine lv_aload_n hx hb dJ5_append_c97b9_40 rfl (lv_at hl 2 rfl) ?_
    obtain ⟨v8, h1, h⟩ := ob h
    refine rgn_6_0 hx hb hts hown hE hM qw_853 h1 dJ5_append_c97b9_41 ?_
    cases h
  · have h := ifn c1 h
    refine lv_iload_n hx hb dJ5_append_c97b9_24 rfl (lv_at hl 3 rfl) ?_
    refine lv_iload_n hx hb dJ5_append_c97b9_25 rfl (lv_at hl 0 rfl) ?_
    refine lv_aload_n hx hb dJ5_append_c97b9_26 rfl (lv_at hl 2 rfl) ?_
    obtain ⟨v9, h1, h⟩ := ob h
    refine rgn_6_0 hx hb hts hown hE hM qw_853 h1 dJ5_append_c97b9_27 ?_
    obtain ⟨v10, M11, h1, h⟩ := ob2 h
    refine kS1 (As := [.int a1, .int (v1 + v2), .ref v9]) (rest := []) hC hE hS hM (mt_J6_getChars_ba4f3 _ E a1 (v1 + v2) v9 _ _ _ h1) (gwS qw_875 qw_876 qw_54 qw_877) ⟨rfl, rfl, (Nat.le_of_ble_eq_true rfl), (Nat.le_of_ble_eq_true rfl)⟩ dd_J6_getChars_ba4f3 rfl rfl hl.1 (Nat.le_of_ble_eq_true rfl) dJ5_append_c97b9_30 ⟨(Nat.le_of_ble_eq_true rfl), (Nat.le_of_ble_eq_true rfl)⟩ (fun H locs hM hS => ?_)
    refine lv_pop hx hb dJ5_append_c97b9_33 rfl ?_
    refine lv_goto (tgt := 48) hx hb dJ5_append_c97b9_34 (by decide) ?_
    refine W.widen (k := 1) (n := 512) (Nat.le_of_ble_eq_true rfl) (Nat.le_of_ble_eq_true rfl) ?_
    exact tj_J5_append_c97b9_48  hC hr hlocks hE  h hM hS (lv_sub hl [2, 0] rfl)

theorem dd_J4_append_bf812 : yJ4_append_bf812.cls = RJ4 ∧ yJ4_append_bf812.cls ≠ "java/lang/invoke/MethodHandle" ∧ yJ4_append_bf812.cls ≠ "java/lang/invoke/VarHandle" ∧ (parseMethodDescriptor yJ4_append_bf812.desc).map (fun d => d.parameters.length) = some 1 := by decide +kernel
theorem du_J4_append_bf812 : yJ4_append_bf812.name ≠ "<init>" ∧ (parseMethodDescriptor yJ4_append_bf812.desc).map (fun d => d.parameters.length) = some 1 := by decide +kernel
theorem du2_J4_append_bf812 : "java/lang/AbstractStringBuilder" ≠ "java/lang/invoke/MethodHandle" ∧ "java/lang/AbstractStringBuilder" ≠ "java/lang/invoke/VarHandle" ∧ (parseMethodDescriptor yJ4_append_bf812.desc).map (fun d => d.parameters.length) = some 1 := by decide +kernel
abbrev rm_J4_append_bf812 : Room := ({ frames := 5, cells := 1, slots := 512, locals := 127 } : Room)
noncomputable def f_J4_append_bf812 (this : Nat) (a1 : Int32) (M : Mem) : Option (Nat × Mem) :=
  bn (cK 12 this M (f_J5_append_c97b9 this a1 M)) fun v1 M2 =>
  some (this, M2)
set_option maxHeartbeats 4000000 in
set_option maxRecDepth 100000 in
theorem mt_J4_append_bf812 (l : Launch) (E : KEnv) (this : Nat) (a1 : Int32) (M M' : Mem) (v : Nat) (h : f_J4_append_bf812 this a1 M = some (v, M')) : Met l yJ4_append_bf812 (Cond.code yJ4_append_bf812 cJ4_append_bf812 2 (some (.object "java/lang/StringBuilder")) :: lw_G) rm_J4_append_bf812 (cPc E [.ref this, .int a1] M) (cQ E (some (.ref v)) M') 1 512 (eA E) := by
  refine Met.ofW (cc := cJ4_append_bf812) (maxL := 2) (ret := (some (.object "java/lang/StringBuilder"))) (by decide) rfl ?_
  intro p e s m args below meth c s₁ B hml hv
  obtain ⟨rfl, hE, hM⟩ := hv
  have hx := B.exec
  have hb := B.bytes
  have hr := B.returns
  have hts0 := atoms_spec (ws := Cond.code yJ4_append_bf812 cJ4_append_bf812 2 (some (.object "java/lang/StringBuilder")) :: lw_G) B.pre
  have hts : ∀ w ∈ lw_G, w.before _ s = true := fun w hw => hts0 w (List.mem_cons_of_mem _ hw)
  have hown : s.vm.findClass RJ4 = some m.cls := findClass_of_methodNamed B.named
  have hlocks := B.notSynchronized
  have hC : CallFix p m c cJ4_append_bf812 2 s _ lw_G RJ4 := ⟨hx, hb, hml, hown, hts⟩
  have hS : va_S (eA E) s.heap s.heap [] := va_S.rf
  have hl := lv_entry ([.ref this, .int a1]) (n := 2) (Nat.le_of_ble_eq_true rfl)
  rw [lg_entry_eq]
  generalize (lg_sl ([.ref this, .int a1]) ++ List.replicate (2 - (lg_sl ([.ref this, .int a1])).length) Slot.unset).toArray = ls at hl ⊢
  have hl : lv_has ls 2 [(0, .ref this), (1, .int a1)] := hl
  unfold f_J4_append_bf812 at h
  show W p l e rm_J4_append_bf812 s m _ below meth c s.heap [] 0 0 _ _
  refine lv_aload_n hx hb dJ4_append_bf812_0 rfl (lv_at hl 0 rfl) ?_
  refine lv_iload_n hx hb dJ4_append_bf812_1 rfl (lv_at hl 1 rfl) ?_
  obtain ⟨v1, M2, h1, h⟩ := ob2 h
  obtain ⟨hk1, h1⟩ := ifg h1
  refine kSU1 (As := [.int a1]) (rest := []) hC hE hS hM (mt_J5_append_c97b9 _ E this a1 _ _ _ h1) (gwSU qw_869 qw_1211 qw_774 qw_870 qw_50 qw_871) ⟨rfl, rfl, (Nat.le_of_ble_eq_true rfl), (Nat.le_of_ble_eq_true rfl)⟩ du_J5_append_c97b9 rfl hk1 rfl hl.1 (Nat.le_of_ble_eq_true rfl) dJ4_append_bf812_2 ⟨(Nat.le_of_ble_eq_true rfl), (Nat.le_of_ble_eq_true rfl)⟩ (fun H locs hM hS => ?_)
  refine lv_pop hx hb dJ4_append_bf812_5 rfl ?_
  refine lv_aload_n hx hb dJ4_append_bf812_6 rfl (lv_at hl 0 rfl) ?_
  cases h
  exact eR hx hb hr (by first | exact Or.inl ⟨_, rfl⟩ | exact Or.inr ⟨_, rfl⟩) hlocks hM hS dJ4_append_bf812_7 (Nat.le_of_ble_eq_true rfl) (Nat.le_of_ble_eq_true rfl)

theorem dd_J7_checkLength_df160 : yJ7_checkLength_df160.cls ≠ "java/lang/invoke/MethodHandle" ∧ yJ7_checkLength_df160.cls ≠ "java/lang/invoke/VarHandle" ∧ (parseMethodDescriptor yJ7_checkLength_df160.desc).map (fun d => d.parameters.length) = some 2 := by decide +kernel
abbrev rm_J7_checkLength_df160 : Room := ({ frames := 0, cells := 0, slots := 0, locals := 0 } : Room)
noncomputable def f_J7_checkLength_df160 (a1 : Int32) (a2 : Int32) (M : Mem) : Option Mem :=
  (if a1 ≤ a2 then
  some M
  else
  none)
set_option maxHeartbeats 4000000 in
set_option maxRecDepth 100000 in
theorem mt_J7_checkLength_df160 (l : Launch) (E : KEnv) (a1 : Int32) (a2 : Int32) (M M' : Mem) (h : f_J7_checkLength_df160 a1 a2 M = some M') : Met l yJ7_checkLength_df160 (Cond.code yJ7_checkLength_df160 cJ7_checkLength_df160 2 none :: lw_G) rm_J7_checkLength_df160 (cPc E [.int a1, .int a2] M) (cQ E none M') 0 0 (eA E) := by
  refine Met.ofW (cc := cJ7_checkLength_df160) (maxL := 2) (ret := none) (by decide) rfl ?_
  intro p e s m args below meth c s₁ B hml hv
  obtain ⟨rfl, hE, hM⟩ := hv
  have hx := B.exec
  have hb := B.bytes
  have hr := B.returns
  have hts0 := atoms_spec (ws := Cond.code yJ7_checkLength_df160 cJ7_checkLength_df160 2 none :: lw_G) B.pre
  have hts : ∀ w ∈ lw_G, w.before _ s = true := fun w hw => hts0 w (List.mem_cons_of_mem _ hw)
  have hown : s.vm.findClass RJ7 = some m.cls := findClass_of_methodNamed B.named
  have hlocks := B.notSynchronized
  have hC : CallFix p m c cJ7_checkLength_df160 2 s _ lw_G RJ7 := ⟨hx, hb, hml, hown, hts⟩
  have hS : va_S (eA E) s.heap s.heap [] := va_S.rf
  have hl := lv_entry ([.int a1, .int a2]) (n := 2) (Nat.le_of_ble_eq_true rfl)
  rw [lg_entry_eq]
  generalize (lg_sl ([.int a1, .int a2]) ++ List.replicate (2 - (lg_sl ([.int a1, .int a2])).length) Slot.unset).toArray = ls at hl ⊢
  have hl : lv_has ls 2 [(0, .int a1), (1, .int a2)] := hl
  unfold f_J7_checkLength_df160 at h
  show W p l e rm_J7_checkLength_df160 s m _ below meth c s.heap [] 0 0 _ _
  refine lv_iload_n hx hb dJ7_checkLength_df160_0 rfl (lv_at hl 1 rfl) ?_
  refine lv_iload_n hx hb dJ7_checkLength_df160_1 rfl (lv_at hl 0 rfl) ?_
  refine lv_icmp_ge (tgt := 37) hx hb dJ7_checkLength_df160_2 (by decide) (fun c1 => ?_) (fun c1 => ?_)
  · have h := ifp c1 h
    cases h
    exact eV_ hx hb hr hlocks hM hS dJ7_checkLength_df160_37 (Nat.le_of_ble_eq_true rfl) (Nat.le_of_ble_eq_true rfl)
  · have h := ifn c1 h
    cases h

theorem dd_J7_copyOfRangeByte_39247 : yJ7_copyOfRangeByte_39247.cls ≠ "java/lang/invoke/MethodHandle" ∧ yJ7_copyOfRangeByte_39247.cls ≠ "java/lang/invoke/VarHandle" ∧ (parseMethodDescriptor yJ7_copyOfRangeByte_39247.desc).map (fun d => d.parameters.length) = some 3 := by decide +kernel
abbrev rm_J7_copyOfRangeByte_39247 : Room := ({ frames := 1, cells := 1, slots := 512, locals := 60 } : Room)
noncomputable def f_J7_copyOfRangeByte_39247 (a1 : Nat) (a2 : Int32) (a3 : Int32) (M : Mem) : Option (Nat × Mem) :=
  (f_J7_checkLength_df160 a2 a3 M).bind fun M2 =>
  bnewb (a3 - a2) M2 fun v3 M4 =>
  (gN 7 a1 M4).bind fun v5 =>
  (cpB a1 a2 v3 0 (if (a3 - a2) < (v5 - a2) then (a3 - a2) else (v5 - a2)) M4).bind fun M7 =>
  some (v3, M7)
set_option maxHeartbeats 4000000 in
set_option maxRecDepth 100000 in
theorem mt_J7_copyOfRangeByte_39247 (l : Launch) (E : KEnv) (a1 : Nat) (a2 : Int32) (a3 : Int32) (M M' : Mem) (v : Nat) (h : f_J7_copyOfRangeByte_39247 a1 a2 a3 M = some (v, M')) : Met l yJ7_copyOfRangeByte_39247 (Cond.code yJ7_copyOfRangeByte_39247 cJ7_copyOfRangeByte_39247 5 (some (.array .byte)) :: lw_G) rm_J7_copyOfRangeByte_39247 (cPc E [.ref a1, .int a2, .int a3] M) (cQ E (some (.ref v)) M') 1 512 (eA E) := by
  refine Met.ofW (cc := cJ7_copyOfRangeByte_39247) (maxL := 5) (ret := (some (.array .byte))) (by decide) rfl ?_
  intro p e s m args below meth c s₁ B hml hv
  obtain ⟨rfl, hE, hM⟩ := hv
  have hx := B.exec
  have hb := B.bytes
  have hr := B.returns
  have hts0 := atoms_spec (ws := Cond.code yJ7_copyOfRangeByte_39247 cJ7_copyOfRangeByte_39247 5 (some (.array .byte)) :: lw_G) B.pre
  have hts : ∀ w ∈ lw_G, w.before _ s = true := fun w hw => hts0 w (List.mem_cons_of_mem _ hw)
  have hown : s.vm.findClass RJ7 = some m.cls := findClass_of_methodNamed B.named
  have hlocks := B.notSynchronized
  have hC : CallFix p m c cJ7_copyOfRangeByte_39247 5 s _ lw_G RJ7 := ⟨hx, hb, hml, hown, hts⟩
  have hS : va_S (eA E) s.heap s.heap [] := va_S.rf
  have hl := lv_entry ([.ref a1, .int a2, .int a3]) (n := 5) (Nat.le_of_ble_eq_true rfl)
  rw [lg_entry_eq]
  generalize (lg_sl ([.ref a1, .int a2, .int a3]) ++ List.replicate (5 - (lg_sl ([.ref a1, .int a2, .int a3])).length) Slot.unset).toArray = ls at hl ⊢
  have hl : lv_has ls 5 [(0, .ref a1), (1, .int a2), (2, .int a3)] := hl
  unfold f_J7_copyOfRangeByte_39247 at h
  show W p l e rm_J7_copyOfRangeByte_39247 s m _ below meth c s.heap [] 0 0 _ _
  refine lv_iload_n hx hb dJ7_copyOfRangeByte_39247_0 rfl (lv_at hl 1 rfl) ?_
  refine lv_iload_n hx hb dJ7_copyOfRangeByte_39247_1 rfl (lv_at hl 2 rfl) ?_
  obtain ⟨M2, h1, h⟩ := ob h
  refine kS0 (As := [.int a2, .int a3]) (rest := []) hC hE hS hM (mt_J7_checkLength_df160 _ E a2 a3 _ _ h1) (gwS qw_945 qw_946 qw_53 qw_947) ⟨rfl, rfl, (Nat.le_of_ble_eq_true rfl), (Nat.le_of_ble_eq_true rfl)⟩ dd_J7_checkLength_df160 rfl rfl hl.1 (Nat.le_of_ble_eq_true rfl) dJ7_copyOfRangeByte_39247_2 ⟨(Nat.le_of_ble_eq_true rfl), (Nat.le_of_ble_eq_true rfl)⟩ (fun H locs hM hS => ?_)
  refine lv_iload_n hx hb dJ7_copyOfRangeByte_39247_5 rfl (lv_at hl 2 rfl) ?_
  refine lv_iload_n hx hb dJ7_copyOfRangeByte_39247_6 rfl (lv_at hl 1 rfl) ?_
  refine lv_isub hx hb dJ7_copyOfRangeByte_39247_7 ?_
  refine lv_istore_n (lv' := [(3, .int (a3 - a2)), (0, .ref a1), (1, .int a2), (2, .int a3)]) hx hb dJ7_copyOfRangeByte_39247_8 rfl hl (by decide) rfl (fun ls hl => ?_)
  refine lv_iload_n hx hb dJ7_copyOfRangeByte_39247_9 rfl (lv_at hl 0 rfl) ?_
  obtain ⟨v3, M4, hn, eq, eM, h⟩ := obnewb h
  refine rna_byteV hx hb hts qw_231 hE hM hS hn (Nat.le_of_ble_eq_true rfl) (Nat.le_of_ble_eq_true rfl) eq eM dJ7_copyOfRangeByte_39247_10 (fun H hM hS => ?_)
  refine lv_astore (lv' := [(4, .ref v3), (3, .int (a3 - a2)), (0, .ref a1), (1, .int a2), (2, .int a3)]) hx hb dJ7_copyOfRangeByte_39247_12 hl (by decide) rfl (fun ls hl => ?_)
  refine lv_aload_n hx hb dJ7_copyOfRangeByte_39247_14 rfl (lv_at hl 2 rfl) ?_
  refine lv_iload_n hx hb dJ7_copyOfRangeByte_39247_15 rfl (lv_at hl 3 rfl) ?_
  refine lv_aload hx hb dJ7_copyOfRangeByte_39247_16 (lv_at hl 0 rfl) ?_
  refine lv_iconst (v := 0) hx hb dJ7_copyOfRangeByte_39247_18 (by decide) ?_
  refine lv_aload_n hx hb dJ7_copyOfRangeByte_39247_19 rfl (lv_at hl 2 rfl) ?_
  obtain ⟨v5, h1, h⟩ := ob h
  refine r_blen hx hb hE hM h1 dJ7_copyOfRangeByte_39247_20 ?_
  refine lv_iload_n hx hb dJ7_copyOfRangeByte_39247_21 rfl (lv_at hl 3 rfl) ?_
  refine lv_isub hx hb dJ7_copyOfRangeByte_39247_22 ?_
  refine lv_iload_n hx hb dJ7_copyOfRangeByte_39247_23 rfl (lv_at hl 1 rfl) ?_
  refine va_mmin hx hb (hml.trans hl.1.symm) hown (hts _ qw_806) (hts _ qw_540) (hts _ qw_48) (hts _ qw_541) (Nat.le_of_ble_eq_true rfl) (Nat.le_of_ble_eq_true rfl) (Nat.le_of_ble_eq_true rfl) (Nat.le_of_ble_eq_true rfl) dJ7_copyOfRangeByte_39247_24 ?_
  obtain ⟨M7, h1, h⟩ := ob h
  refine r_copyB hx hb (hml.trans hl.1.symm) hts hown qw_807 qw_392 qw_391 qw_49 hE hM hS h1 (Nat.le_of_ble_eq_true rfl) (Nat.le_of_ble_eq_true rfl) dJ7_copyOfRangeByte_39247_27 (fun H locs hM hS => ?_)
  refine lv_aload hx hb dJ7_copyOfRangeByte_39247_30 (lv_at hl 0 rfl) ?_
  cases h
  exact eR hx hb hr (by first | exact Or.inl ⟨_, rfl⟩ | exact Or.inr ⟨_, rfl⟩) hlocks hM hS dJ7_copyOfRangeByte_39247_32 (Nat.le_of_ble_eq_true rfl) (Nat.le_of_ble_eq_true rfl)

theorem dd_J7_copyOfRange_39247 : yJ7_copyOfRange_39247.cls ≠ "java/lang/invoke/MethodHandle" ∧ yJ7_copyOfRange_39247.cls ≠ "java/lang/invoke/VarHandle" ∧ (parseMethodDescriptor yJ7_copyOfRange_39247.desc).map (fun d => d.parameters.length) = some 3 := by decide +kernel
abbrev rm_J7_copyOfRange_39247 : Room := ({ frames := 2, cells := 1, slots := 512, locals := 84 } : Room)
noncomputable def fj_J7_copyOfRange_39247_10 (x0 : Nat) (x1 : Int32) (x2 : Int32) (M : Mem) : Option (Nat × Mem) :=
  bn (f_J7_copyOfRangeByte_39247 x0 x1 x2 M) fun v1 M2 =>
  some (v1, M2)
set_option maxHeartbeats 4000000 in
set_option maxRecDepth 100000 in
theorem tj_J7_copyOfRange_39247_10 {p : Program} {l : Launch} {e : Env} {s : State} {m : MethodId} {args : Array Value} {below : List Frame} {meth : Method} {c : Code} {E : KEnv} {H : Heap} {locs : List Loc} {ls : Array Slot} {x0 : Nat} {x1 : Int32} {x2 : Int32} {M : Mem} {v : Nat} {M' : Mem} (hC : CallFix p m c cJ7_copyOfRange_39247 3 s args lw_G RJ7) (hr : meth.sig.returnType = (some (.array .byte))) (hlocks : meth.locks = false) (hE : EnvOK E s) (h : fj_J7_copyOfRange_39247_10 x0 x1 x2 M = some (v, M')) (hM : MOK E M H) (hS : va_S (eA E) s.heap H locs) (hl : lv_has ls 3 [(0, .ref x0), (1, .int x1), (2, .int x2)]) : W p l e rm_J7_copyOfRange_39247 s m args below meth c H locs 0 0 (MQ below (cQ E (some (.ref v)) M') args s 1 512 (eA E)) (F0 m 10 ls []) := by
  obtain ⟨hx, hb, hml, hown, hts⟩ := id hC
  unfold fj_J7_copyOfRange_39247_10 at h
  refine lv_aload_n hx hb dJ7_copyOfRange_39247_10 rfl (lv_at hl 0 rfl) ?_
  refine lv_iload_n hx hb dJ7_copyOfRange_39247_11 rfl (lv_at hl 1 rfl) ?_
  refine lv_iload_n hx hb dJ7_copyOfRange_39247_12 rfl (lv_at hl 2 rfl) ?_
  obtain ⟨v1, M2, h1, h⟩ := ob2 h
  refine kS1 (As := [.ref x0, .int x1, .int x2]) (rest := []) hC hE hS hM (mt_J7_copyOfRangeByte_39247 _ E x0 x1 x2 _ _ _ h1) (gwS qw_942 qw_943 qw_53 qw_944) ⟨rfl, rfl, (Nat.le_of_ble_eq_true rfl), (Nat.le_of_ble_eq_true rfl)⟩ dd_J7_copyOfRangeByte_39247 rfl rfl hl.1 (Nat.le_of_ble_eq_true rfl) dJ7_copyOfRange_39247_13 ⟨(Nat.le_of_ble_eq_true rfl), (Nat.le_of_ble_eq_true rfl)⟩ (fun H locs hM hS => ?_)
  cases h
  exact eR hx hb hr (by first | exact Or.inl ⟨_, rfl⟩ | exact Or.inr ⟨_, rfl⟩) hlocks hM hS dJ7_copyOfRange_39247_16 (Nat.le_of_ble_eq_true rfl) (Nat.le_of_ble_eq_true rfl)
noncomputable def f_J7_copyOfRange_39247 (a1 : Nat) (a2 : Int32) (a3 : Int32) (M : Mem) : Option (Nat × Mem) :=
  (if a2 = 0 then
  (gN 7 a1 M).bind fun v3 =>
  (if a3 = v3 then
  (clB a1 M).bind fun M4 =>
  some ((mZ M), M4)
  else
  fj_J7_copyOfRange_39247_10 a1 a2 a3 M)
  else
  fj_J7_copyOfRange_39247_10 a1 a2 a3 M)
set_option maxHeartbeats 4000000 in
set_option maxRecDepth 100000 in
theorem mt_J7_copyOfRange_39247 (l : Launch) (E : KEnv) (a1 : Nat) (a2 : Int32) (a3 : Int32) (M M' : Mem) (v : Nat) (h : f_J7_copyOfRange_39247 a1 a2 a3 M = some (v, M')) : Met l yJ7_copyOfRange_39247 (Cond.code yJ7_copyOfRange_39247 cJ7_copyOfRange_39247 3 (some (.array .byte)) :: lw_G) rm_J7_copyOfRange_39247 (cPc E [.ref a1, .int a2, .int a3] M) (cQ E (some (.ref v)) M') 1 512 (eA E) := by
  refine Met.ofW (cc := cJ7_copyOfRange_39247) (maxL := 3) (ret := (some (.array .byte))) (by decide) rfl ?_
  intro p e s m args below meth c s₁ B hml hv
  obtain ⟨rfl, hE, hM⟩ := hv
  have hx := B.exec
  have hb := B.bytes
  have hr := B.returns
  have hts0 := atoms_spec (ws := Cond.code yJ7_copyOfRange_39247 cJ7_copyOfRange_39247 3 (some (.array .byte)) :: lw_G) B.pre
  have hts : ∀ w ∈ lw_G, w.before _ s = true := fun w hw => hts0 w (List.mem_cons_of_mem _ hw)
  have hown : s.vm.findClass RJ7 = some m.cls := findClass_of_methodNamed B.named
  have hlocks := B.notSynchronized
  have hC : CallFix p m c cJ7_copyOfRange_39247 3 s _ lw_G RJ7 := ⟨hx, hb, hml, hown, hts⟩
  have hS : va_S (eA E) s.heap s.heap [] := va_S.rf
  have hl := lv_entry ([.ref a1, .int a2, .int a3]) (n := 3) (Nat.le_of_ble_eq_true rfl)
  rw [lg_entry_eq]
  generalize (lg_sl ([.ref a1, .int a2, .int a3]) ++ List.replicate (3 - (lg_sl ([.ref a1, .int a2, .int a3])).length) Slot.unset).toArray = ls at hl ⊢
  have hl : lv_has ls 3 [(0, .ref a1), (1, .int a2), (2, .int a3)] := hl
  unfold f_J7_copyOfRange_39247 at h
  show W p l e rm_J7_copyOfRange_39247 s m _ below meth c s.heap [] 0 0 _ _
  refine lv_iload_n hx hb dJ7_copyOfRange_39247_0 rfl (lv_at hl 1 rfl) ?_
  refine lv_if_ne (tgt := 10) hx hb dJ7_copyOfRange_39247_1 (by decide) (fun c1 => ?_) (fun c1 => ?_)
  · have h := ifn c1 h
    refine W.widen (k := 0) (n := 0) (Nat.le_of_ble_eq_true rfl) (Nat.le_of_ble_eq_true rfl) ?_
    exact tj_J7_copyOfRange_39247_10  hC hr hlocks hE  h hM hS (lv_sub hl [0, 1, 2] rfl)
  · have h := ifp c1 h
    refine lv_iload_n hx hb dJ7_copyOfRange_39247_4 rfl (lv_at hl 2 rfl) ?_
    refine lv_aload_n hx hb dJ7_copyOfRange_39247_5 rfl (lv_at hl 0 rfl) ?_
    obtain ⟨v3, h1, h⟩ := ob h
    refine r_blen hx hb hE hM h1 dJ7_copyOfRange_39247_6 ?_
    refine lv_icmp_eq (tgt := 17) hx hb dJ7_copyOfRange_39247_7 (by decide) (fun c1 => ?_) (fun c1 => ?_)
    · have h := ifp c1 h
      refine lv_aload_n hx hb dJ7_copyOfRange_39247_17 rfl (lv_at hl 0 rfl) ?_
      obtain ⟨M4, h1, h⟩ := ob h
      refine r_clone hx hb (hml.trans hl.1.symm) hts hown qw_799 qw_800 qw_801 qw_802 qw_803 qw_805 hE hM hS h1 (Nat.le_of_ble_eq_true rfl) (Nat.le_of_ble_eq_true rfl) (Nat.le_of_ble_eq_true rfl) (Nat.le_of_ble_eq_true rfl) dJ7_copyOfRange_39247_18 dJ7_copyOfRange_39247_21 (fun H hM hS => ?_)
      cases h
      exact eR hx hb hr (by first | exact Or.inl ⟨_, rfl⟩ | exact Or.inr ⟨_, rfl⟩) hlocks hM hS dJ7_copyOfRange_39247_24 (Nat.le_of_ble_eq_true rfl) (Nat.le_of_ble_eq_true rfl)
    · have h := ifn c1 h
      refine W.widen (k := 0) (n := 0) (Nat.le_of_ble_eq_true rfl) (Nat.le_of_ble_eq_true rfl) ?_
      exact tj_J7_copyOfRange_39247_10  hC hr hlocks hE  h hM hS (lv_sub hl [0, 1, 2] rfl)

theorem dd_J0_init_db425 : yJ0_init_db425.cls = RJ0 ∧ yJ0_init_db425.cls ≠ "java/lang/invoke/MethodHandle" ∧ yJ0_init_db425.cls ≠ "java/lang/invoke/VarHandle" ∧ (parseMethodDescriptor yJ0_init_db425.desc).map (fun d => d.parameters.length) = some 2 := by decide +kernel
abbrev rm_J0_init_db425 : Room := ({ frames := 3, cells := 1, slots := 512, locals := 106 } : Room)
noncomputable def fj_J0_init_db425_97  (M : Mem) : Option Mem :=
  some M
set_option maxHeartbeats 4000000 in
set_option maxRecDepth 100000 in
theorem tj_J0_init_db425_97 {p : Program} {l : Launch} {e : Env} {s : State} {m : MethodId} {args : Array Value} {below : List Frame} {meth : Method} {c : Code} {E : KEnv} {H : Heap} {locs : List Loc} {ls : Array Slot}  {M : Mem} {M' : Mem} (hC : CallFix p m c cJ0_init_db425 5 s args lw_G RJ0) (hr : meth.sig.returnType = none) (hlocks : meth.locks = false) (hE : EnvOK E s) (hin : meth.name = "<init>") (h : fj_J0_init_db425_97  M = some M') (hM : MOK E M H) (hS : va_S (eA E) s.heap H locs) (hl : lv_has ls 5 []) : W p l e rm_J0_init_db425 s m args below meth c H locs 1 512 (MQ below (cQ E none M') args s 1 512 (eA E)) (F0 m 97 ls []) := by
  obtain ⟨hx, hb, hml, hown, hts⟩ := id hC
  unfold fj_J0_init_db425_97 at h
  cases h
  exact eV_ hx hb hr hlocks hM hS dJ0_init_db425_97 (Nat.le_of_ble_eq_true rfl) (Nat.le_of_ble_eq_true rfl)
noncomputable def fj_J0_init_db425_79 (x0 : Nat) (x3 : Nat) (x4 : Int32) (M : Mem) : Option Mem :=
  (sI 6 161 x0 1 M).bind fun M8 =>
  bn (f_J7_copyOfRange_39247 x3 0 (x4 <<< (1 &&& 31)) M8) fun v9 M10 =>
  (sR 6 160 x0 (some v9) M10).bind fun M11 =>
  fj_J0_init_db425_97 M11
set_option maxHeartbeats 4000000 in
set_option maxRecDepth 100000 in
theorem tj_J0_init_db425_79 {p : Program} {l : Launch} {e : Env} {s : State} {m : MethodId} {args : Array Value} {below : List Frame} {meth : Method} {c : Code} {E : KEnv} {H : Heap} {locs : List Loc} {ls : Array Slot} {x0 : Nat} {x3 : Nat} {x4 : Int32} {M : Mem} {M' : Mem} (hC : CallFix p m c cJ0_init_db425 5 s args lw_G RJ0) (hr : meth.sig.returnType = none) (hlocks : meth.locks = false) (hE : EnvOK E s) (hin : meth.name = "<init>") (h : fj_J0_init_db425_79 x0 x3 x4 M = some M') (hM : MOK E M H) (hS : va_S (eA E) s.heap H locs) (hl : lv_has ls 5 [(0, .ref x0), (3, .ref x3), (4, .int x4)]) : W p l e rm_J0_init_db425 s m args below meth c H locs 0 0 (MQ below (cQ E none M') args s 1 512 (eA E)) (F0 m 79 ls []) := by
  obtain ⟨hx, hb, hml, hown, hts⟩ := id hC
  unfold fj_J0_init_db425_79 at h
  refine lv_aload_n hx hb dJ0_init_db425_79 rfl (lv_at hl 0 rfl) ?_
  refine lv_iconst (v := 1) hx hb dJ0_init_db425_80 (by decide) ?_
  obtain ⟨M8, h1, h⟩ := ob h
  refine rp_5_1 hx hb hts hown hE hM qw_967 hin rfl ⟨rfl, rfl⟩ hS h1 dJ0_init_db425_81 (fun H locs hM hS => ?_)
  refine lv_aload_n hx hb dJ0_init_db425_84 rfl (lv_at hl 0 rfl) ?_
  refine lv_aload_n hx hb dJ0_init_db425_85 rfl (lv_at hl 1 rfl) ?_
  refine lv_iconst (v := 0) hx hb dJ0_init_db425_86 (by decide) ?_
  refine lv_iload hx hb dJ0_init_db425_87 (lv_at hl 2 rfl) ?_
  refine lv_iconst (v := 1) hx hb dJ0_init_db425_89 (by decide) ?_
  refine lv_ishl hx hb dJ0_init_db425_90 ?_
  obtain ⟨v9, M10, h1, h⟩ := ob2 h
  refine kS1 (As := [.ref x3, .int 0, .int (x4 <<< (1 &&& 31))]) (rest := [.ref x0]) hC hE hS hM (mt_J7_copyOfRange_39247 _ E x3 0 (x4 <<< (1 &&& 31)) _ _ _ h1) (gwS qw_939 qw_940 qw_53 qw_941) ⟨rfl, rfl, (Nat.le_of_ble_eq_true rfl), (Nat.le_of_ble_eq_true rfl)⟩ dd_J7_copyOfRange_39247 rfl rfl hl.1 (Nat.le_of_ble_eq_true rfl) dJ0_init_db425_91 ⟨(Nat.le_of_ble_eq_true rfl), (Nat.le_of_ble_eq_true rfl)⟩ (fun H locs hM hS => ?_)
  obtain ⟨M11, h1, h⟩ := ob h
  refine rp_5_0 hx hb hts hown hE hM qw_966 hin rfl hS h1 dJ0_init_db425_94 (fun H locs hM hS => ?_)
  refine W.widen (k := 1) (n := 512) (Nat.le_of_ble_eq_true rfl) (Nat.le_of_ble_eq_true rfl) ?_
  exact tj_J0_init_db425_97  hC hr hlocks hE hin  h hM hS (lv_sub hl [] rfl)
noncomputable def f_J0_init_db425 (this : Nat) (a1 : Nat) (M : Mem) : Option Mem :=
  bn (cK 12 a1 M (f_J5_getValue_6d5f1 a1 M)) fun v1 M2 =>
  bn (cK 12 a1 M2 (f_J4_length_8abf5 a1 M2)) fun v3 M4 =>
  bn (cK 12 a1 M4 (f_J5_isLatin1_aae02 a1 M4)) fun v5 M6 =>
  (if v5 = 0 then
  (gI 12 194 a1 M6).bind fun v7 =>
  (if v7 = 0 then
  fj_J0_init_db425_79 this v1 v3 M6
  else
  none)
  else
  (sI 6 161 this 0 M6).bind fun M12 =>
  bn (f_J7_copyOfRange_39247 v1 0 v3 M12) fun v13 M14 =>
  (sR 6 160 this (some v13) M14).bind fun M15 =>
  fj_J0_init_db425_97 M15)
set_option maxHeartbeats 4000000 in
set_option maxRecDepth 100000 in
theorem mt_J0_init_db425 (l : Launch) (E : KEnv) (this : Nat) (a1 : Nat) (M M' : Mem) (h : f_J0_init_db425 this a1 M = some M') : Met l yJ0_init_db425 (Cond.code yJ0_init_db425 cJ0_init_db425 5 none :: lw_G) rm_J0_init_db425 (cPc E [.ref this, .ref a1, .null] M) (cQ E none M') 1 512 (eA E) := by
  refine Met.ofW (cc := cJ0_init_db425) (maxL := 5) (ret := none) (by decide) rfl ?_
  intro p e s m args below meth c s₁ B hml hv
  obtain ⟨rfl, hE, hM⟩ := hv
  have hx := B.exec
  have hb := B.bytes
  have hr := B.returns
  have hts0 := atoms_spec (ws := Cond.code yJ0_init_db425 cJ0_init_db425 5 none :: lw_G) B.pre
  have hts : ∀ w ∈ lw_G, w.before _ s = true := fun w hw => hts0 w (List.mem_cons_of_mem _ hw)
  have hown : s.vm.findClass RJ0 = some m.cls := findClass_of_methodNamed B.named
  have hlocks := B.notSynchronized
  have hin : meth.name = "<init>" := (name_of_methodNamed B.named B.method).1
  have hC : CallFix p m c cJ0_init_db425 5 s _ lw_G RJ0 := ⟨hx, hb, hml, hown, hts⟩
  have hS : va_S (eA E) s.heap s.heap [] := va_S.rf
  have hl := lv_entry ([.ref this, .ref a1, .null]) (n := 5) (Nat.le_of_ble_eq_true rfl)
  rw [lg_entry_eq]
  generalize (lg_sl ([.ref this, .ref a1, .null]) ++ List.replicate (5 - (lg_sl ([.ref this, .ref a1, .null])).length) Slot.unset).toArray = ls at hl ⊢
  have hl : lv_has ls 5 [(0, .ref this), (1, .ref a1), (2, .null)] := hl
  unfold f_J0_init_db425 at h
  show W p l e rm_J0_init_db425 s m _ below meth c s.heap [] 0 0 _ _
  refine lv_aload_n hx hb dJ0_init_db425_0 rfl (lv_at hl 0 rfl) ?_
  refine oInit hx hb hown (hts _ qw_924) (hts _ qw_67) (hts _ qw_68) (hl.1.trans hml.symm) dJ0_init_db425_1 (Nat.le_of_ble_eq_true rfl) (Nat.le_of_ble_eq_true rfl) ?_
  refine lv_aload_n hx hb dJ0_init_db425_4 rfl (lv_at hl 1 rfl) ?_
  obtain ⟨v1, M2, h1, h⟩ := ob2 h
  obtain ⟨hk1, h1⟩ := ifg h1
  refine kU1 (owner := "java/lang/AbstractStringBuilder") (x := yJ5_getValue_6d5f1) (y := yJ5_getValue_6d5f1) (As := []) (rest := []) hC hE hS hM (mt_J5_getValue_6d5f1 _ E a1 _ _ _ h1) (gwU qw_925 qw_927 qw_928 qw_926 qw_50 qw_929) rfl ⟨rfl, rfl, (Nat.le_of_ble_eq_true rfl), (Nat.le_of_ble_eq_true rfl)⟩ du2_J5_getValue_6d5f1 rfl hk1 rfl hl.1 (Nat.le_of_ble_eq_true rfl) dJ0_init_db425_5 ⟨(Nat.le_of_ble_eq_true rfl), (Nat.le_of_ble_eq_true rfl)⟩ (fun H locs hM hS => ?_)
  refine lv_astore_n (lv' := [(3, .ref v1), (0, .ref this), (1, .ref a1), (2, .null)]) hx hb dJ0_init_db425_8 rfl hl (by decide) rfl (fun ls hl => ?_)
  refine lv_aload_n hx hb dJ0_init_db425_9 rfl (lv_at hl 2 rfl) ?_
  obtain ⟨v3, M4, h1, h⟩ := ob2 h
  obtain ⟨hk1, h1⟩ := ifg h1
  refine kO1 (owner := "java/lang/AbstractStringBuilder") (x := yJ5_length_8abf5) (y := yJ4_length_8abf5) (As := []) (rest := []) hC hE hS hM (mt_J4_length_8abf5 _ E a1 _ _ _ h1) (gwO qw_930 qw_932 qw_931_1 qw_933 qw_934 qw_51 qw_935) qw_937 ⟨rfl, rfl, (Nat.le_of_ble_eq_true rfl), (Nat.le_of_ble_eq_true rfl)⟩ du2_J5_length_8abf5 rfl hk1 rfl hl.1 (Nat.le_of_ble_eq_true rfl) dJ0_init_db425_10 ⟨(Nat.le_of_ble_eq_true rfl), (Nat.le_of_ble_eq_true rfl)⟩ (fun H locs hM hS => ?_)
  refine lv_istore (lv' := [(4, .int v3), (3, .ref v1), (0, .ref this), (1, .ref a1), (2, .null)]) hx hb dJ0_init_db425_13 hl (by decide) rfl (fun ls hl => ?_)
  refine lv_aload_n hx hb dJ0_init_db425_15 rfl (lv_at hl 3 rfl) ?_
  obtain ⟨v5, M6, h1, h⟩ := ob2 h
  obtain ⟨hk1, h1⟩ := ifg h1
  refine kU1 (owner := "java/lang/AbstractStringBuilder") (x := yJ5_isLatin1_aae02) (y := yJ5_isLatin1_aae02) (As := []) (rest := []) hC hE hS hM (mt_J5_isLatin1_aae02 _ E a1 _ _ _ h1) (gwU qw_938 qw_810 qw_811 qw_809 qw_50 qw_812) rfl ⟨rfl, rfl, (Nat.le_of_ble_eq_true rfl), (Nat.le_of_ble_eq_true rfl)⟩ du2_J5_isLatin1_aae02 rfl hk1 rfl hl.1 (Nat.le_of_ble_eq_true rfl) dJ0_init_db425_16 ⟨(Nat.le_of_ble_eq_true rfl), (Nat.le_of_ble_eq_true rfl)⟩ (fun H locs hM hS => ?_)
  refine lv_if_eq (tgt := 41) hx hb dJ0_init_db425_19 (by decide) (fun c1 => ?_) (fun c1 => ?_)
  · have h := ifp c1 h
    refine va_gets hx hb hE.2.2.2.2.2.1 hS hown (hts _ qw_155) (fun _ h9 => h9) dJ0_init_db425_41 ?_
    refine lv_if_eq (tgt := 79) hx hb dJ0_init_db425_44 (by decide) (fun c1 => ?_) (fun c1 => ?_)
    · exact absurd c1 (by decide)
    · refine lv_aload_n hx hb dJ0_init_db425_47 rfl (lv_at hl 3 rfl) ?_
      obtain ⟨v7, h1, h⟩ := ob h
      refine rg_6_2 hx hb hts hown hE hM qw_855 h1 dJ0_init_db425_48 ?_
      refine lv_if_eq (tgt := 79) hx hb dJ0_init_db425_51 (by decide) (fun c1 => ?_) (fun c1 => ?_)
      · have h := ifp c1 h
        refine W.widen (k := 0) (n := 0) (Nat.le_of_ble_eq_true rfl) (Nat.le_of_ble_eq_true rfl) ?_
        exact tj_J0_init_db425_79  hC hr hlocks hE hin  h hM hS (lv_sub hl [2, 1, 0] rfl)
      · have h := ifn c1 h
        refine lv_aload_n hx hb dJ0_init_db425_54 rfl (lv_at hl 2 rfl) ?_
        refine lv_aload_n hx hb dJ0_init_db425_55 rfl (lv_at hl 1 rfl) ?_
        refine lv_iconst (v := 0) hx hb dJ0_init_db425_56 (by decide) ?_
        refine lv_iload hx hb dJ0_init_db425_57 (lv_at hl 0 rfl) ?_
        cases h
  · have h := ifn c1 h
    refine lv_aload_n hx hb dJ0_init_db425_22 rfl (lv_at hl 2 rfl) ?_
    refine lv_iconst (v := 0) hx hb dJ0_init_db425_23 (by decide) ?_
    obtain ⟨M12, h1, h⟩ := ob h
    refine rp_5_1 hx hb hts hown hE hM qw_967 hin rfl ⟨rfl, rfl⟩ hS h1 dJ0_init_db425_24 (fun H locs hM hS => ?_)
    refine lv_aload_n hx hb dJ0_init_db425_27 rfl (lv_at hl 2 rfl) ?_
    refine lv_aload_n hx hb dJ0_init_db425_28 rfl (lv_at hl 1 rfl) ?_
    refine lv_iconst (v := 0) hx hb dJ0_init_db425_29 (by decide) ?_
    refine lv_iload hx hb dJ0_init_db425_30 (lv_at hl 0 rfl) ?_
    obtain ⟨v13, M14, h1, h⟩ := ob2 h
    refine kS1 (As := [.ref v1, .int 0, .int v3]) (rest := [.ref this]) hC hE hS hM (mt_J7_copyOfRange_39247 _ E v1 0 v3 _ _ _ h1) (gwS qw_939 qw_940 qw_53 qw_941) ⟨rfl, rfl, (Nat.le_of_ble_eq_true rfl), (Nat.le_of_ble_eq_true rfl)⟩ dd_J7_copyOfRange_39247 rfl rfl hl.1 (Nat.le_of_ble_eq_true rfl) dJ0_init_db425_32 ⟨(Nat.le_of_ble_eq_true rfl), (Nat.le_of_ble_eq_true rfl)⟩ (fun H locs hM hS => ?_)
    obtain ⟨M15, h1, h⟩ := ob h
    refine rp_5_0 hx hb hts hown hE hM qw_966 hin rfl hS h1 dJ0_init_db425_35 (fun H locs hM hS => ?_)
    refine lv_goto (tgt := 97) hx hb dJ0_init_db425_38 (by decide) ?_
    refine W.widen (k := 1) (n := 512) (Nat.le_of_ble_eq_true rfl) (Nat.le_of_ble_eq_true rfl) ?_
    exact tj_J0_init_db425_97  hC hr hlocks hE hin  h hM hS (lv_sub hl [] rfl)

theorem dd_J0_init_81219 : yJ0_init_81219.cls = RJ0 ∧ yJ0_init_81219.cls ≠ "java/lang/invoke/MethodHandle" ∧ yJ0_init_81219.cls ≠ "java/lang/invoke/VarHandle" ∧ (parseMethodDescriptor yJ0_init_81219.desc).map (fun d => d.parameters.length) = some 1 := by decide +kernel
abbrev rm_J0_init_81219 : Room := ({ frames := 4, cells := 1, slots := 512, locals := 130 } : Room)
noncomputable def f_J0_init_81219 (this : Nat) (a1 : Nat) (M : Mem) : Option Mem :=
  (f_J0_init_db425 this a1 M).bind fun M2 =>
  some M2
set_option maxHeartbeats 4000000 in
set_option maxRecDepth 100000 in
theorem mt_J0_init_81219 (l : Launch) (E : KEnv) (this : Nat) (a1 : Nat) (M M' : Mem) (h : f_J0_init_81219 this a1 M = some M') : Met l yJ0_init_81219 (Cond.code yJ0_init_81219 cJ0_init_81219 2 none :: lw_G) rm_J0_init_81219 (cPc E [.ref this, .ref a1] M) (cQ E none M') 1 512 (eA E) := by
  refine Met.ofW (cc := cJ0_init_81219) (maxL := 2) (ret := none) (by decide) rfl ?_
  intro p e s m args below meth c s₁ B hml hv
  obtain ⟨rfl, hE, hM⟩ := hv
  have hx := B.exec
  have hb := B.bytes
  have hr := B.returns
  have hts0 := atoms_spec (ws := Cond.code yJ0_init_81219 cJ0_init_81219 2 none :: lw_G) B.pre
  have hts : ∀ w ∈ lw_G, w.before _ s = true := fun w hw => hts0 w (List.mem_cons_of_mem _ hw)
  have hown : s.vm.findClass RJ0 = some m.cls := findClass_of_methodNamed B.named
  have hlocks := B.notSynchronized
  have hin : meth.name = "<init>" := (name_of_methodNamed B.named B.method).1
  have hC : CallFix p m c cJ0_init_81219 2 s _ lw_G RJ0 := ⟨hx, hb, hml, hown, hts⟩
  have hS : va_S (eA E) s.heap s.heap [] := va_S.rf
  have hl := lv_entry ([.ref this, .ref a1]) (n := 2) (Nat.le_of_ble_eq_true rfl)
  rw [lg_entry_eq]
  generalize (lg_sl ([.ref this, .ref a1]) ++ List.replicate (2 - (lg_sl ([.ref this, .ref a1])).length) Slot.unset).toArray = ls at hl ⊢
  have hl : lv_has ls 2 [(0, .ref this), (1, .ref a1)] := hl
  unfold f_J0_init_81219 at h
  show W p l e rm_J0_init_81219 s m _ below meth c s.heap [] 0 0 _ _
  refine lv_aload_n hx hb dJ0_init_81219_0 rfl (lv_at hl 0 rfl) ?_
  refine lv_aload_n hx hb dJ0_init_81219_1 rfl (lv_at hl 1 rfl) ?_
  refine lv_null hx hb dJ0_init_81219_2 ?_
  obtain ⟨M2, h1, h⟩ := ob h
  refine kI (As := [.ref a1, .null]) (rest := []) hC hE hS hM (mt_J0_init_db425 _ E this a1 _ _ h1) qw_923 qw_921 qw_922 qw_44 ⟨rfl, rfl, (Nat.le_of_ble_eq_true rfl), (Nat.le_of_ble_eq_true rfl)⟩ dd_J0_init_db425.2 rfl rfl rfl hl.1 (Nat.le_of_ble_eq_true rfl) dJ0_init_81219_3 ⟨(Nat.le_of_ble_eq_true rfl), (Nat.le_of_ble_eq_true rfl)⟩ (fun H locs hM hS => ?_)
  cases h
  exact eV_ hx hb hr hlocks hM hS dJ0_init_81219_6 (Nat.le_of_ble_eq_true rfl) (Nat.le_of_ble_eq_true rfl)

theorem dd_J4_toString_0e30d : yJ4_toString_0e30d.cls = RJ4 ∧ yJ4_toString_0e30d.cls ≠ "java/lang/invoke/MethodHandle" ∧ yJ4_toString_0e30d.cls ≠ "java/lang/invoke/VarHandle" ∧ (parseMethodDescriptor yJ4_toString_0e30d.desc).map (fun d => d.parameters.length) = some 0 := by decide +kernel
theorem du_J4_toString_0e30d : yJ4_toString_0e30d.name ≠ "<init>" ∧ (parseMethodDescriptor yJ4_toString_0e30d.desc).map (fun d => d.parameters.length) = some 0 := by decide +kernel
theorem du2_J4_toString_0e30d : "java/lang/AbstractStringBuilder" ≠ "java/lang/invoke/MethodHandle" ∧ "java/lang/AbstractStringBuilder" ≠ "java/lang/invoke/VarHandle" ∧ (parseMethodDescriptor yJ4_toString_0e30d.desc).map (fun d => d.parameters.length) = some 0 := by decide +kernel
abbrev rm_J4_toString_0e30d : Room := ({ frames := 5, cells := 2, slots := 516, locals := 151 } : Room)
noncomputable def f_J4_toString_0e30d (this : Nat) (M : Mem) : Option (Nat × Mem) :=
  bnew 6 M fun v1 M2 =>
  (f_J0_init_81219 v1 this M2).bind fun M4 =>
  some (v1, M4)
set_option maxHeartbeats 4000000 in
set_option maxRecDepth 100000 in
theorem mt_J4_toString_0e30d (l : Launch) (E : KEnv) (this : Nat) (M M' : Mem) (v : Nat) (h : f_J4_toString_0e30d this M = some (v, M')) : Met l yJ4_toString_0e30d (Cond.code yJ4_toString_0e30d cJ4_toString_0e30d 1 (some (.object "java/lang/String")) :: lw_G) rm_J4_toString_0e30d (cPc E [.ref this] M) (cQ E (some (.ref v)) M') 2 516 (eA E) := by
  refine Met.ofW (cc := cJ4_toString_0e30d) (maxL := 1) (ret := (some (.object "java/lang/String"))) (by decide) rfl ?_
  intro p e s m args below meth c s₁ B hml hv
  obtain ⟨rfl, hE, hM⟩ := hv
  have hx := B.exec
  have hb := B.bytes
  have hr := B.returns
  have hts0 := atoms_spec (ws := Cond.code yJ4_toString_0e30d cJ4_toString_0e30d 1 (some (.object "java/lang/String")) :: lw_G) B.pre
  have hts : ∀ w ∈ lw_G, w.before _ s = true := fun w hw => hts0 w (List.mem_cons_of_mem _ hw)
  have hown : s.vm.findClass RJ4 = some m.cls := findClass_of_methodNamed B.named
  have hlocks := B.notSynchronized
  have hC : CallFix p m c cJ4_toString_0e30d 1 s _ lw_G RJ4 := ⟨hx, hb, hml, hown, hts⟩
  have hS : va_S (eA E) s.heap s.heap [] := va_S.rf
  have hl := lv_entry ([.ref this]) (n := 1) (Nat.le_of_ble_eq_true rfl)
  rw [lg_entry_eq]
  generalize (lg_sl ([.ref this]) ++ List.replicate (1 - (lg_sl ([.ref this])).length) Slot.unset).toArray = ls at hl ⊢
  have hl : lv_has ls 1 [(0, .ref this)] := hl
  unfold f_J4_toString_0e30d at h
  show W p l e rm_J4_toString_0e30d s m _ below meth c s.heap [] 0 0 _ _
  obtain ⟨v1, M2, eq, eM, h⟩ := obnew h
  refine rn_5 hx hb hts hown hE hM hS qw_916 qw_917 qw_44 eq eM (Nat.le_of_ble_eq_true rfl) (Nat.le_of_ble_eq_true rfl) dJ4_toString_0e30d_0 (fun H hM hS => ?_)
  refine lv_dup hx hb dJ4_toString_0e30d_3 rfl ?_
  refine lv_aload_n hx hb dJ4_toString_0e30d_4 rfl (lv_at hl 0 rfl) ?_
  obtain ⟨M4, h1, h⟩ := ob h
  refine kI (As := [.ref this]) (rest := [.ref v1]) hC hE hS hM (mt_J0_init_81219 _ E v1 this _ _ h1) qw_920 qw_918 qw_919 qw_44 ⟨rfl, rfl, (Nat.le_of_ble_eq_true rfl), (Nat.le_of_ble_eq_true rfl)⟩ dd_J0_init_81219.2 rfl rfl rfl hl.1 (Nat.le_of_ble_eq_true rfl) dJ4_toString_0e30d_5 ⟨(Nat.le_of_ble_eq_true rfl), (Nat.le_of_ble_eq_true rfl)⟩ (fun H locs hM hS => ?_)
  cases h
  exact eR hx hb hr (by first | exact Or.inl ⟨_, rfl⟩ | exact Or.inr ⟨_, rfl⟩) hlocks hM hS dJ4_toString_0e30d_8 (Nat.le_of_ble_eq_true rfl) (Nat.le_of_ble_eq_true rfl)
