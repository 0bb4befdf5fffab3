/-! printed by wip/p56/gen2.py: methods as functions over the memory, and that the code does what they say -/
theorem dd_L_load : yL_load.cls ≠ "java/lang/invoke/MethodHandle" ∧ yL_load.cls ≠ "java/lang/invoke/VarHandle" ∧ (parseMethodDescriptor yL_load.desc).map (fun d => d.parameters.length) = some 2 := by decide +kernel
abbrev rm_L_load : Room := ({ frames := 8, cells := 3, slots := 19, locals := 251 } : Room)
noncomputable def f_L_load (a1 : Nat) (a2 : Nat) (M : Mem) : Option (Int32 × Mem) :=
  bn (f_L_type a1 a2 M) fun v1 M2 =>
  bx (cK 5 a1 M2 (f_X4_load a1 v1 M2)) (fun ex M9 => if ex = 0 then
  some ((-2), (setZ M9 (mZ M9 + 1)))
  else if ex = 1 then
  some ((-1), (setZ M9 (mZ M9 + 1)))
  else none) fun v3 M4 =>
  some (v3, M4)
set_option maxHeartbeats 4000000 in
set_option maxRecDepth 100000 in
theorem mt_L_load (l : Launch) (hfl : l.stackTraces = false) (E : KEnv) (a1 : Nat) (a2 : Nat) (M M' : Mem) (v : Int32) (h : f_L_load a1 a2 M = some (v, M')) : Met l yL_load (Cond.codeWith yL_load cL_load 4 (some .int) [(6, 11, 12, 34), (6, 11, 16, 36)] :: lw_G) rm_L_load (cPc E [.ref a1, .ref a2] M) (cQ E (some (.int v)) M') 3 19 (eA E) := by
  refine Met_ofWH (cc := cL_load) (maxL := 4) (ret := (some .int)) (hh := [(6, 11, 12, 34), (6, 11, 16, 36)]) (by decide) rfl ?_
  intro p e s m args below meth c s₁ B hml hv
  obtain ⟨rfl, hE, hM⟩ := hv
  have hx := B.exec
  have hb := B.bytes
  have hr := B.returns
  have hts0 := atoms_spec (ws := Cond.codeWith yL_load cL_load 4 (some .int) [(6, 11, 12, 34), (6, 11, 16, 36)] :: lw_G) B.pre
  have hts : ∀ w ∈ lw_G, w.before _ s = true := fun w hw => hts0 w (List.mem_cons_of_mem _ hw)
  have htab := vx_table (x := yL_load) B (hts0 _ List.mem_cons_self)
  have hown : s.vm.findClass RL = some m.cls := findClass_of_methodNamed B.named
  have hlocks := B.notSynchronized
  have hC : CallFix p m c cL_load 4 s _ lw_G RL := ⟨hx, hb, hml, hown, hts⟩
  have hS : va_S (eA E) s.heap s.heap [] := va_S.rf
  have hl := lv_entry ([.ref a1, .ref a2]) (n := 4) (Nat.le_of_ble_eq_true rfl)
  rw [lg_entry_eq]
  generalize (lg_sl ([.ref a1, .ref a2]) ++ List.replicate (4 - (lg_sl ([.ref a1, .ref a2])).length) Slot.unset).toArray = ls at hl ⊢
  have hl : lv_has ls 4 [(0, .ref a1), (1, .ref a2)] := hl
  unfold f_L_load at h
  show W p l e rm_L_load s m _ below meth c s.heap [] 0 0 _ _
  refine lv_aload_n hx hb dL_load_0 rfl (lv_at hl 0 rfl) ?_
  refine lv_aload_n hx hb dL_load_1 rfl (lv_at hl 1 rfl) ?_
  obtain ⟨v1, M2, h1, h⟩ := ob2 h
  refine kS1 (As := [.ref a1, .ref a2]) (rest := []) hC hE hS hM (mt_L_type _ E a1 a2 _ _ _ h1) (gwS qw_556 qw_557 qw_38 qw_558) ⟨rfl, rfl, (Nat.le_of_ble_eq_true rfl), (Nat.le_of_ble_eq_true rfl)⟩ dd_L_type rfl rfl hl.1 (Nat.le_of_ble_eq_true rfl) dL_load_2 ⟨(Nat.le_of_ble_eq_true rfl), (Nat.le_of_ble_eq_true rfl)⟩ (fun H locs hM hS => ?_)
  refine lv_istore_n (lv' := [(2, .int v1), (0, .ref a1), (1, .ref a2)]) hx hb dL_load_5 rfl hl (by decide) rfl (fun ls hl => ?_)
  refine lv_aload_n hx hb dL_load_6 rfl (lv_at hl 1 rfl) ?_
  refine lv_iload_n hx hb dL_load_7 rfl (lv_at hl 0 rfl) ?_
  rcases obx h with ⟨v3, M4, h1, h⟩ | ⟨ex, M9, h1, h⟩
  rotate_left
  · obtain ⟨hk1, h1⟩ := ifg h1
    by_cases e1 : ex = 0
    · have h := ifp e1 h
      subst e1
      refine kx_hand (hpc := 12) (kx_V (ci := 4) (As := [.int v1]) (rest := []) hC hE hS hM (mt_X4_load _ hfl E a1 v1 _ _ _ h1) (gwV qw_570 qw_571 qw_572 qw_39 qw_573) ⟨rfl, rfl, (Nat.le_of_ble_eq_true rfl), (Nat.le_of_ble_eq_true rfl)⟩ dd_X4_load rfl hk1 rfl rfl hl.1 (Nat.le_of_ble_eq_true rfl) dL_load_8 ⟨(Nat.le_of_ble_eq_true rfl), (Nat.le_of_ble_eq_true rfl)⟩) hS hown [] (⟨6, 11, 12, 34⟩ : ExceptionTableEntry) [(⟨6, 11, 16, 36⟩ : ExceptionTableEntry)] htab (fun z hz => nomatch hz) (by decide) (by decide) (hts _ qw_554) (va_Nw.use rfl (hE.2.2.2.2.2.2.2.1 (exN 0, exN 0) (by decide))) rfl (fun H locs q9 hM hS => ?_)
      refine lv_astore_n (lv' := [(3, .ref q9), (2, .int v1), (0, .ref a1), (1, .ref a2)]) hx hb dL_load_12 rfl hl (by decide) rfl (fun ls hl => ?_)
      refine lv_bipush (v := (-2)) hx hb dL_load_13 (by decide) ?_
      cases h
      exact eI hx hb hr hlocks hM hS dL_load_15 (Nat.le_of_ble_eq_true rfl) (Nat.le_of_ble_eq_true rfl)
    · have h := ifn e1 h
      by_cases e1 : ex = 1
      · have h := ifp e1 h
        subst e1
        refine kx_hand (hpc := 16) (kx_V (ci := 4) (As := [.int v1]) (rest := []) hC hE hS hM (mt_X4_load _ hfl E a1 v1 _ _ _ h1) (gwV qw_570 qw_571 qw_572 qw_39 qw_573) ⟨rfl, rfl, (Nat.le_of_ble_eq_true rfl), (Nat.le_of_ble_eq_true rfl)⟩ dd_X4_load rfl hk1 rfl rfl hl.1 (Nat.le_of_ble_eq_true rfl) dL_load_8 ⟨(Nat.le_of_ble_eq_true rfl), (Nat.le_of_ble_eq_true rfl)⟩) hS hown [(⟨6, 11, 12, 34⟩ : ExceptionTableEntry)] (⟨6, 11, 16, 36⟩ : ExceptionTableEntry) [] htab (fun z hz => by rw [List.mem_singleton.mp hz]; exact Or.inr ⟨by decide, _, hts _ qw_554, hE.2.2.2.2.2.2.2.2.2.2.2.1 (exN 1, "java/lang/IndexOutOfBoundsException") (by decide)⟩) (by decide) (by decide) (hts _ qw_555) (va_Nw.use rfl (hE.2.2.2.2.2.2.2.1 (exN 1, exN 1) (by decide))) rfl (fun H locs q9 hM hS => ?_)
        refine lv_astore_n (lv' := [(3, .ref q9), (2, .int v1), (0, .ref a1), (1, .ref a2)]) hx hb dL_load_16 rfl hl (by decide) rfl (fun ls hl => ?_)
        refine lv_iconst (v := (-1)) hx hb dL_load_17 (by decide) ?_
        cases h
        exact eI hx hb hr hlocks hM hS dL_load_18 (Nat.le_of_ble_eq_true rfl) (Nat.le_of_ble_eq_true rfl)
      · have h := ifn e1 h
        cases h
  obtain ⟨hk1, h1⟩ := ifg h1
  refine kx_ok1 (kx_V (ci := 4) (As := [.int v1]) (rest := []) hC hE hS hM (mt_X4_load _ hfl E a1 v1 _ _ _ h1) (gwV qw_570 qw_571 qw_572 qw_39 qw_573) ⟨rfl, rfl, (Nat.le_of_ble_eq_true rfl), (Nat.le_of_ble_eq_true rfl)⟩ dd_X4_load rfl hk1 rfl rfl hl.1 (Nat.le_of_ble_eq_true rfl) dL_load_8 ⟨(Nat.le_of_ble_eq_true rfl), (Nat.le_of_ble_eq_true rfl)⟩) hS (fun H locs hM hS => ?_)
  cases h
  exact eI hx hb hr hlocks hM hS dL_load_11 (Nat.le_of_ble_eq_true rfl) (Nat.le_of_ble_eq_true rfl)

theorem dd_L_undone : yL_undone.cls ≠ "java/lang/invoke/MethodHandle" ∧ yL_undone.cls ≠ "java/lang/invoke/VarHandle" ∧ (parseMethodDescriptor yL_undone.desc).map (fun d => d.parameters.length) = some 1 := by decide +kernel
abbrev rm_L_undone : Room := ({ frames := 7, cells := 24, slots := 1353, locals := 128 } : Room)
noncomputable def f_L_undone (a1 : Nat) (M : Mem) : Option (Int32 × Mem) :=
  bx (cK 5 a1 M (f_X4_undo a1 M)) (fun ex M9 => if ex = 2 then
  some ((-1), (setZ M9 (mZ M9 + 1)))
  else none) fun v1 M2 =>
  some (v1, M2)
set_option maxHeartbeats 4000000 in
set_option maxRecDepth 100000 in
theorem mt_L_undone (l : Launch) (hfl : l.stackTraces = false) (E : KEnv) (a1 : Nat) (M M' : Mem) (v : Int32) (h : f_L_undone a1 M = some (v, M')) : Met l yL_undone (Cond.codeWith yL_undone cL_undone 2 (some .int) [(0, 4, 5, 41)] :: lw_G) rm_L_undone (cPc E [.ref a1] M) (cQ E (some (.int v)) M') 24 1353 (eA E) := by
  refine Met_ofWH (cc := cL_undone) (maxL := 2) (ret := (some .int)) (hh := [(0, 4, 5, 41)]) (by decide) rfl ?_
  intro p e s m args below meth c s₁ B hml hv
  obtain ⟨rfl, hE, hM⟩ := hv
  have hx := B.exec
  have hb := B.bytes
  have hr := B.returns
  have hts0 := atoms_spec (ws := Cond.codeWith yL_undone cL_undone 2 (some .int) [(0, 4, 5, 41)] :: lw_G) B.pre
  have hts : ∀ w ∈ lw_G, w.before _ s = true := fun w hw => hts0 w (List.mem_cons_of_mem _ hw)
  have htab := vx_table (x := yL_undone) B (hts0 _ List.mem_cons_self)
  have hown : s.vm.findClass RL = some m.cls := findClass_of_methodNamed B.named
  have hlocks := B.notSynchronized
  have hC : CallFix p m c cL_undone 2 s _ lw_G RL := ⟨hx, hb, hml, hown, hts⟩
  have hS : va_S (eA E) s.heap s.heap [] := va_S.rf
  have hl := lv_entry ([.ref a1]) (n := 2) (Nat.le_of_ble_eq_true rfl)
  rw [lg_entry_eq]
  generalize (lg_sl ([.ref a1]) ++ List.replicate (2 - (lg_sl ([.ref a1])).length) Slot.unset).toArray = ls at hl ⊢
  have hl : lv_has ls 2 [(0, .ref a1)] := hl
  unfold f_L_undone at h
  show W p l e rm_L_undone s m _ below meth c s.heap [] 0 0 _ _
  refine lv_aload_n hx hb dL_undone_0 rfl (lv_at hl 0 rfl) ?_
  rcases obx h with ⟨v1, M2, h1, h⟩ | ⟨ex, M9, h1, h⟩
  rotate_left
  · obtain ⟨hk1, h1⟩ := ifg h1
    by_cases e1 : ex = 2
    · have h := ifp e1 h
      subst e1
      refine kx_hand (hpc := 5) (kx_V (ci := 4) (As := []) (rest := []) hC hE hS hM (mt_X4_undo _ hfl E a1 _ _ _ h1) (gwV qw_599 qw_600 qw_601 qw_39 qw_602) ⟨rfl, rfl, (Nat.le_of_ble_eq_true rfl), (Nat.le_of_ble_eq_true rfl)⟩ dd_X4_undo rfl hk1 rfl rfl hl.1 (Nat.le_of_ble_eq_true rfl) dL_undone_1 ⟨(Nat.le_of_ble_eq_true rfl), (Nat.le_of_ble_eq_true rfl)⟩) hS hown [] (⟨0, 4, 5, 41⟩ : ExceptionTableEntry) [] htab (fun z hz => nomatch hz) (by decide) (by decide) (hts _ qw_598) (va_Nw.use rfl (hE.2.2.2.2.2.2.2.1 (exN 2, exN 2) (by decide))) rfl (fun H locs q9 hM hS => ?_)
      refine lv_astore_n (lv' := [(1, .ref q9), (0, .ref a1)]) hx hb dL_undone_5 rfl hl (by decide) rfl (fun ls hl => ?_)
      refine lv_iconst (v := (-1)) hx hb dL_undone_6 (by decide) ?_
      cases h
      exact eI hx hb hr hlocks hM hS dL_undone_7 (Nat.le_of_ble_eq_true rfl) (Nat.le_of_ble_eq_true rfl)
    · have h := ifn e1 h
      cases h
  obtain ⟨hk1, h1⟩ := ifg h1
  refine kx_ok1 (kx_V (ci := 4) (As := []) (rest := []) hC hE hS hM (mt_X4_undo _ hfl E a1 _ _ _ h1) (gwV qw_599 qw_600 qw_601 qw_39 qw_602) ⟨rfl, rfl, (Nat.le_of_ble_eq_true rfl), (Nat.le_of_ble_eq_true rfl)⟩ dd_X4_undo rfl hk1 rfl rfl hl.1 (Nat.le_of_ble_eq_true rfl) dL_undone_1 ⟨(Nat.le_of_ble_eq_true rfl), (Nat.le_of_ble_eq_true rfl)⟩) hS (fun H locs hM hS => ?_)
  cases h
  exact eI hx hb hr hlocks hM hS dL_undone_4 (Nat.le_of_ble_eq_true rfl) (Nat.le_of_ble_eq_true rfl)

theorem dd_L_counted : yL_counted.cls ≠ "java/lang/invoke/MethodHandle" ∧ yL_counted.cls ≠ "java/lang/invoke/VarHandle" ∧ (parseMethodDescriptor yL_counted.desc).map (fun d => d.parameters.length) = some 4 := by decide +kernel
abbrev rm_L_counted : Room := ({ frames := 10, cells := 26, slots := 1365, locals := 180 } : Room)
noncomputable def f_L_counted (a1 : Nat) (a2 : Int32) (a3 : Int32) (a4 : Int32) (M : Mem) : Option (Int32 × Mem) :=
  bx (cK 5 a1 M (f_X4_increment a1 a2 a3 a4 M)) (fun ex M9 => if ex = 0 then
  some ((-99995), (setZ M9 (mZ M9 + 1)))
  else if ex = 1 then
  some ((-99992), (setZ M9 (mZ M9 + 1)))
  else none) fun v1 M2 =>
  some (v1, M2)
set_option maxHeartbeats 4000000 in
set_option maxRecDepth 100000 in
theorem mt_L_counted (l : Launch) (hfl : l.stackTraces = false) (E : KEnv) (a1 : Nat) (a2 : Int32) (a3 : Int32) (a4 : Int32) (M M' : Mem) (v : Int32) (h : f_L_counted a1 a2 a3 a4 M = some (v, M')) : Met l yL_counted (Cond.codeWith yL_counted cL_counted 5 (some .int) [(0, 7, 8, 34), (0, 7, 13, 36)] :: lw_G) rm_L_counted (cPc E [.ref a1, .int a2, .int a3, .int a4] M) (cQ E (some (.int v)) M') 26 1365 (eA E) := by
  refine Met_ofWH (cc := cL_counted) (maxL := 5) (ret := (some .int)) (hh := [(0, 7, 8, 34), (0, 7, 13, 36)]) (by decide) rfl ?_
  intro p e s m args below meth c s₁ B hml hv
  obtain ⟨rfl, hE, hM⟩ := hv
  have hx := B.exec
  have hb := B.bytes
  have hr := B.returns
  have hts0 := atoms_spec (ws := Cond.codeWith yL_counted cL_counted 5 (some .int) [(0, 7, 8, 34), (0, 7, 13, 36)] :: lw_G) B.pre
  have hts : ∀ w ∈ lw_G, w.before _ s = true := fun w hw => hts0 w (List.mem_cons_of_mem _ hw)
  have htab := vx_table (x := yL_counted) B (hts0 _ List.mem_cons_self)
  have hown : s.vm.findClass RL = some m.cls := findClass_of_methodNamed B.named
  have hlocks := B.notSynchronized
  have hC : CallFix p m c cL_counted 5 s _ lw_G RL := ⟨hx, hb, hml, hown, hts⟩
  have hS : va_S (eA E) s.heap s.heap [] := va_S.rf
  have hl := lv_entry ([.ref a1, .int a2, .int a3, .int a4]) (n := 5) (Nat.le_of_ble_eq_true rfl)
  rw [lg_entry_eq]
  generalize (lg_sl ([.ref a1, .int a2, .int a3, .int a4]) ++ List.replicate (5 - (lg_sl ([.ref a1, .int a2, .int a3, .int a4])).length) Slot.unset).toArray = ls at hl ⊢
  have hl : lv_has ls 5 [(0, .ref a1), (1, .int a2), (2, .int a3), (3, .int a4)] := hl
  unfold f_L_counted at h
  show W p l e rm_L_counted s m _ below meth c s.heap [] 0 0 _ _
  refine lv_aload_n hx hb dL_counted_0 rfl (lv_at hl 0 rfl) ?_
  refine lv_iload_n hx hb dL_counted_1 rfl (lv_at hl 1 rfl) ?_
  refine lv_iload_n hx hb dL_counted_2 rfl (lv_at hl 2 rfl) ?_
  refine lv_iload_n hx hb dL_counted_3 rfl (lv_at hl 3 rfl) ?_
  rcases obx h with ⟨v1, M2, h1, h⟩ | ⟨ex, M9, h1, h⟩
  rotate_left
  · obtain ⟨hk1, h1⟩ := ifg h1
    by_cases e1 : ex = 0
    · have h := ifp e1 h
      subst e1
      refine kx_hand (hpc := 8) (kx_V (ci := 4) (As := [.int a2, .int a3, .int a4]) (rest := []) hC hE hS hM (mt_X4_increment _ hfl E a1 a2 a3 a4 _ _ _ h1) (gwV qw_611 qw_612 qw_613 qw_39 qw_614) ⟨rfl, rfl, (Nat.le_of_ble_eq_true rfl), (Nat.le_of_ble_eq_true rfl)⟩ dd_X4_increment rfl hk1 rfl rfl hl.1 (Nat.le_of_ble_eq_true rfl) dL_counted_4 ⟨(Nat.le_of_ble_eq_true rfl), (Nat.le_of_ble_eq_true rfl)⟩) hS hown [] (⟨0, 7, 8, 34⟩ : ExceptionTableEntry) [(⟨0, 7, 13, 36⟩ : ExceptionTableEntry)] htab (fun z hz => nomatch hz) (by decide) (by decide) (hts _ qw_554) (va_Nw.use rfl (hE.2.2.2.2.2.2.2.1 (exN 0, exN 0) (by decide))) rfl (fun H locs q9 hM hS => ?_)
      refine lv_astore (lv' := [(4, .ref q9), (0, .ref a1), (1, .int a2), (2, .int a3), (3, .int a4)]) hx hb dL_counted_8 hl (by decide) rfl (fun ls hl => ?_)
      refine lv_ldc (v := (-99995)) hx hb hown (hts _ qw_643) dL_counted_10 ?_
      cases h
      exact eI hx hb hr hlocks hM hS dL_counted_12 (Nat.le_of_ble_eq_true rfl) (Nat.le_of_ble_eq_true rfl)
    · have h := ifn e1 h
      by_cases e1 : ex = 1
      · have h := ifp e1 h
        subst e1
        refine kx_hand (hpc := 13) (kx_V (ci := 4) (As := [.int a2, .int a3, .int a4]) (rest := []) hC hE hS hM (mt_X4_increment _ hfl E a1 a2 a3 a4 _ _ _ h1) (gwV qw_611 qw_612 qw_613 qw_39 qw_614) ⟨rfl, rfl, (Nat.le_of_ble_eq_true rfl), (Nat.le_of_ble_eq_true rfl)⟩ dd_X4_increment rfl hk1 rfl rfl hl.1 (Nat.le_of_ble_eq_true rfl) dL_counted_4 ⟨(Nat.le_of_ble_eq_true rfl), (Nat.le_of_ble_eq_true rfl)⟩) hS hown [(⟨0, 7, 8, 34⟩ : ExceptionTableEntry)] (⟨0, 7, 13, 36⟩ : ExceptionTableEntry) [] htab (fun z hz => by rw [List.mem_singleton.mp hz]; exact Or.inr ⟨by decide, _, hts _ qw_554, hE.2.2.2.2.2.2.2.2.2.2.2.1 (exN 1, "java/lang/IndexOutOfBoundsException") (by decide)⟩) (by decide) (by decide) (hts _ qw_555) (va_Nw.use rfl (hE.2.2.2.2.2.2.2.1 (exN 1, exN 1) (by decide))) rfl (fun H locs q9 hM hS => ?_)
        refine lv_astore (lv' := [(4, .ref q9), (0, .ref a1), (1, .int a2), (2, .int a3), (3, .int a4)]) hx hb dL_counted_13 hl (by decide) rfl (fun ls hl => ?_)
        refine lv_ldc (v := (-99992)) hx hb hown (hts _ qw_644) dL_counted_15 ?_
        cases h
        exact eI hx hb hr hlocks hM hS dL_counted_17 (Nat.le_of_ble_eq_true rfl) (Nat.le_of_ble_eq_true rfl)
      · have h := ifn e1 h
        cases h
  obtain ⟨hk1, h1⟩ := ifg h1
  refine kx_ok1 (kx_V (ci := 4) (As := [.int a2, .int a3, .int a4]) (rest := []) hC hE hS hM (mt_X4_increment _ hfl E a1 a2 a3 a4 _ _ _ h1) (gwV qw_611 qw_612 qw_613 qw_39 qw_614) ⟨rfl, rfl, (Nat.le_of_ble_eq_true rfl), (Nat.le_of_ble_eq_true rfl)⟩ dd_X4_increment rfl hk1 rfl rfl hl.1 (Nat.le_of_ble_eq_true rfl) dL_counted_4 ⟨(Nat.le_of_ble_eq_true rfl), (Nat.le_of_ble_eq_true rfl)⟩) hS (fun H locs hM hS => ?_)
  cases h
  exact eI hx hb hr hlocks hM hS dL_counted_7 (Nat.le_of_ble_eq_true rfl) (Nat.le_of_ble_eq_true rfl)

theorem dd_L_discounted : yL_discounted.cls ≠ "java/lang/invoke/MethodHandle" ∧ yL_discounted.cls ≠ "java/lang/invoke/VarHandle" ∧ (parseMethodDescriptor yL_discounted.desc).map (fun d => d.parameters.length) = some 4 := by decide +kernel
abbrev rm_L_discounted : Room := ({ frames := 10, cells := 26, slots := 1365, locals := 180 } : Room)
noncomputable def f_L_discounted (a1 : Nat) (a2 : Int32) (a3 : Int32) (a4 : Int32) (M : Mem) : Option (Int32 × Mem) :=
  bx (cK 5 a1 M (f_X4_decrement a1 a2 a3 a4 M)) (fun ex M9 => if ex = 0 then
  some ((-99995), (setZ M9 (mZ M9 + 1)))
  else if ex = 1 then
  some ((-99992), (setZ M9 (mZ M9 + 1)))
  else none) fun v1 M2 =>
  some (v1, M2)
set_option maxHeartbeats 4000000 in
set_option maxRecDepth 100000 in
theorem mt_L_discounted (l : Launch) (hfl : l.stackTraces = false) (E : KEnv) (a1 : Nat) (a2 : Int32) (a3 : Int32) (a4 : Int32) (M M' : Mem) (v : Int32) (h : f_L_discounted a1 a2 a3 a4 M = some (v, M')) : Met l yL_discounted (Cond.codeWith yL_discounted cL_discounted 5 (some .int) [(0, 7, 8, 34), (0, 7, 13, 36)] :: lw_G) rm_L_discounted (cPc E [.ref a1, .int a2, .int a3, .int a4] M) (cQ E (some (.int v)) M') 26 1365 (eA E) := by
  refine Met_ofWH (cc := cL_discounted) (maxL := 5) (ret := (some .int)) (hh := [(0, 7, 8, 34), (0, 7, 13, 36)]) (by decide) rfl ?_
  intro p e s m args below meth c s₁ B hml hv
  obtain ⟨rfl, hE, hM⟩ := hv
  have hx := B.exec
  have hb := B.bytes
  have hr := B.returns
  have hts0 := atoms_spec (ws := Cond.codeWith yL_discounted cL_discounted 5 (some .int) [(0, 7, 8, 34), (0, 7, 13, 36)] :: lw_G) B.pre
  have hts : ∀ w ∈ lw_G, w.before _ s = true := fun w hw => hts0 w (List.mem_cons_of_mem _ hw)
  have htab := vx_table (x := yL_discounted) B (hts0 _ List.mem_cons_self)
  have hown : s.vm.findClass RL = some m.cls := findClass_of_methodNamed B.named
  have hlocks := B.notSynchronized
  have hC : CallFix p m c cL_discounted 5 s _ lw_G RL := ⟨hx, hb, hml, hown, hts⟩
  have hS : va_S (eA E) s.heap s.heap [] := va_S.rf
  have hl := lv_entry ([.ref a1, .int a2, .int a3, .int a4]) (n := 5) (Nat.le_of_ble_eq_true rfl)
  rw [lg_entry_eq]
  generalize (lg_sl ([.ref a1, .int a2, .int a3, .int a4]) ++ List.replicate (5 - (lg_sl ([.ref a1, .int a2, .int a3, .int a4])).length) Slot.unset).toArray = ls at hl ⊢
  have hl : lv_has ls 5 [(0, .ref a1), (1, .int a2), (2, .int a3), (3, .int a4)] := hl
  unfold f_L_discounted at h
  show W p l e rm_L_discounted s m _ below meth c s.heap [] 0 0 _ _
  refine lv_aload_n hx hb dL_discounted_0 rfl (lv_at hl 0 rfl) ?_
  refine lv_iload_n hx hb dL_discounted_1 rfl (lv_at hl 1 rfl) ?_
  refine lv_iload_n hx hb dL_discounted_2 rfl (lv_at hl 2 rfl) ?_
  refine lv_iload_n hx hb dL_discounted_3 rfl (lv_at hl 3 rfl) ?_
  rcases obx h with ⟨v1, M2, h1, h⟩ | ⟨ex, M9, h1, h⟩
  rotate_left
  · obtain ⟨hk1, h1⟩ := ifg h1
    by_cases e1 : ex = 0
    · have h := ifp e1 h
      subst e1
      refine kx_hand (hpc := 8) (kx_V (ci := 4) (As := [.int a2, .int a3, .int a4]) (rest := []) hC hE hS hM (mt_X4_decrement _ hfl E a1 a2 a3 a4 _ _ _ h1) (gwV qw_1181 qw_1182 qw_1183 qw_39 qw_1184) ⟨rfl, rfl, (Nat.le_of_ble_eq_true rfl), (Nat.le_of_ble_eq_true rfl)⟩ dd_X4_decrement rfl hk1 rfl rfl hl.1 (Nat.le_of_ble_eq_true rfl) dL_discounted_4 ⟨(Nat.le_of_ble_eq_true rfl), (Nat.le_of_ble_eq_true rfl)⟩) hS hown [] (⟨0, 7, 8, 34⟩ : ExceptionTableEntry) [(⟨0, 7, 13, 36⟩ : ExceptionTableEntry)] htab (fun z hz => nomatch hz) (by decide) (by decide) (hts _ qw_554) (va_Nw.use rfl (hE.2.2.2.2.2.2.2.1 (exN 0, exN 0) (by decide))) rfl (fun H locs q9 hM hS => ?_)
      refine lv_astore (lv' := [(4, .ref q9), (0, .ref a1), (1, .int a2), (2, .int a3), (3, .int a4)]) hx hb dL_discounted_8 hl (by decide) rfl (fun ls hl => ?_)
      refine lv_ldc (v := (-99995)) hx hb hown (hts _ qw_643) dL_discounted_10 ?_
      cases h
      exact eI hx hb hr hlocks hM hS dL_discounted_12 (Nat.le_of_ble_eq_true rfl) (Nat.le_of_ble_eq_true rfl)
    · have h := ifn e1 h
      by_cases e1 : ex = 1
      · have h := ifp e1 h
        subst e1
        refine kx_hand (hpc := 13) (kx_V (ci := 4) (As := [.int a2, .int a3, .int a4]) (rest := []) hC hE hS hM (mt_X4_decrement _ hfl E a1 a2 a3 a4 _ _ _ h1) (gwV qw_1181 qw_1182 qw_1183 qw_39 qw_1184) ⟨rfl, rfl, (Nat.le_of_ble_eq_true rfl), (Nat.le_of_ble_eq_true rfl)⟩ dd_X4_decrement rfl hk1 rfl rfl hl.1 (Nat.le_of_ble_eq_true rfl) dL_discounted_4 ⟨(Nat.le_of_ble_eq_true rfl), (Nat.le_of_ble_eq_true rfl)⟩) hS hown [(⟨0, 7, 8, 34⟩ : ExceptionTableEntry)] (⟨0, 7, 13, 36⟩ : ExceptionTableEntry) [] htab (fun z hz => by rw [List.mem_singleton.mp hz]; exact Or.inr ⟨by decide, _, hts _ qw_554, hE.2.2.2.2.2.2.2.2.2.2.2.1 (exN 1, "java/lang/IndexOutOfBoundsException") (by decide)⟩) (by decide) (by decide) (hts _ qw_555) (va_Nw.use rfl (hE.2.2.2.2.2.2.2.1 (exN 1, exN 1) (by decide))) rfl (fun H locs q9 hM hS => ?_)
        refine lv_astore (lv' := [(4, .ref q9), (0, .ref a1), (1, .int a2), (2, .int a3), (3, .int a4)]) hx hb dL_discounted_13 hl (by decide) rfl (fun ls hl => ?_)
        refine lv_ldc (v := (-99992)) hx hb hown (hts _ qw_644) dL_discounted_15 ?_
        cases h
        exact eI hx hb hr hlocks hM hS dL_discounted_17 (Nat.le_of_ble_eq_true rfl) (Nat.le_of_ble_eq_true rfl)
      · have h := ifn e1 h
        cases h
  obtain ⟨hk1, h1⟩ := ifg h1
  refine kx_ok1 (kx_V (ci := 4) (As := [.int a2, .int a3, .int a4]) (rest := []) hC hE hS hM (mt_X4_decrement _ hfl E a1 a2 a3 a4 _ _ _ h1) (gwV qw_1181 qw_1182 qw_1183 qw_39 qw_1184) ⟨rfl, rfl, (Nat.le_of_ble_eq_true rfl), (Nat.le_of_ble_eq_true rfl)⟩ dd_X4_decrement rfl hk1 rfl rfl hl.1 (Nat.le_of_ble_eq_true rfl) dL_discounted_4 ⟨(Nat.le_of_ble_eq_true rfl), (Nat.le_of_ble_eq_true rfl)⟩) hS (fun H locs hM hS => ?_)
  cases h
  exact eI hx hb hr hlocks hM hS dL_discounted_7 (Nat.le_of_ble_eq_true rfl) (Nat.le_of_ble_eq_true rfl)

theorem dd_L_added : yL_added.cls ≠ "java/lang/invoke/MethodHandle" ∧ yL_added.cls ≠ "java/lang/invoke/VarHandle" ∧ (parseMethodDescriptor yL_added.desc).map (fun d => d.parameters.length) = some 3 := by decide +kernel
abbrev rm_L_added : Room := ({ frames := 9, cells := 26, slots := 1365, locals := 155 } : Room)
noncomputable def f_L_added (a1 : Nat) (a2 : Int32) (a3 : Int32) (M : Mem) : Option (Int32 × Mem) :=
  bx (cK 5 a1 M (f_X4_addTag a1 a2 a3 M)) (fun ex M9 => if ex = 0 then
  some ((-5), (setZ M9 (mZ M9 + 1)))
  else none) fun v1 M2 =>
  some (v1, M2)
set_option maxHeartbeats 4000000 in
set_option maxRecDepth 100000 in
theorem mt_L_added (l : Launch) (hfl : l.stackTraces = false) (E : KEnv) (a1 : Nat) (a2 : Int32) (a3 : Int32) (M M' : Mem) (v : Int32) (h : f_L_added a1 a2 a3 M = some (v, M')) : Met l yL_added (Cond.codeWith yL_added cL_added 4 (some .int) [(0, 6, 7, 34)] :: lw_G) rm_L_added (cPc E [.ref a1, .int a2, .int a3] M) (cQ E (some (.int v)) M') 26 1365 (eA E) := by
  refine Met_ofWH (cc := cL_added) (maxL := 4) (ret := (some .int)) (hh := [(0, 6, 7, 34)]) (by decide) rfl ?_
  intro p e s m args below meth c s₁ B hml hv
  obtain ⟨rfl, hE, hM⟩ := hv
  have hx := B.exec
  have hb := B.bytes
  have hr := B.returns
  have hts0 := atoms_spec (ws := Cond.codeWith yL_added cL_added 4 (some .int) [(0, 6, 7, 34)] :: lw_G) B.pre
  have hts : ∀ w ∈ lw_G, w.before _ s = true := fun w hw => hts0 w (List.mem_cons_of_mem _ hw)
  have htab := vx_table (x := yL_added) B (hts0 _ List.mem_cons_self)
  have hown : s.vm.findClass RL = some m.cls := findClass_of_methodNamed B.named
  have hlocks := B.notSynchronized
  have hC : CallFix p m c cL_added 4 s _ lw_G RL := ⟨hx, hb, hml, hown, hts⟩
  have hS : va_S (eA E) s.heap s.heap [] := va_S.rf
  have hl := lv_entry ([.ref a1, .int a2, .int a3]) (n := 4) (Nat.le_of_ble_eq_true rfl)
  rw [lg_entry_eq]
  generalize (lg_sl ([.ref a1, .int a2, .int a3]) ++ List.replicate (4 - (lg_sl ([.ref a1, .int a2, .int a3])).length) Slot.unset).toArray = ls at hl ⊢
  have hl : lv_has ls 4 [(0, .ref a1), (1, .int a2), (2, .int a3)] := hl
  unfold f_L_added at h
  show W p l e rm_L_added s m _ below meth c s.heap [] 0 0 _ _
  refine lv_aload_n hx hb dL_added_0 rfl (lv_at hl 0 rfl) ?_
  refine lv_iload_n hx hb dL_added_1 rfl (lv_at hl 1 rfl) ?_
  refine lv_iload_n hx hb dL_added_2 rfl (lv_at hl 2 rfl) ?_
  rcases obx h with ⟨v1, M2, h1, h⟩ | ⟨ex, M9, h1, h⟩
  rotate_left
  · obtain ⟨hk1, h1⟩ := ifg h1
    by_cases e1 : ex = 0
    · have h := ifp e1 h
      subst e1
      refine kx_hand (hpc := 7) (kx_V (ci := 4) (As := [.int a2, .int a3]) (rest := []) hC hE hS hM (mt_X4_addTag _ hfl E a1 a2 a3 _ _ _ h1) (gwV qw_648 qw_649 qw_650 qw_39 qw_651) ⟨rfl, rfl, (Nat.le_of_ble_eq_true rfl), (Nat.le_of_ble_eq_true rfl)⟩ dd_X4_addTag rfl hk1 rfl rfl hl.1 (Nat.le_of_ble_eq_true rfl) dL_added_3 ⟨(Nat.le_of_ble_eq_true rfl), (Nat.le_of_ble_eq_true rfl)⟩) hS hown [] (⟨0, 6, 7, 34⟩ : ExceptionTableEntry) [] htab (fun z hz => nomatch hz) (by decide) (by decide) (hts _ qw_554) (va_Nw.use rfl (hE.2.2.2.2.2.2.2.1 (exN 0, exN 0) (by decide))) rfl (fun H locs q9 hM hS => ?_)
      refine lv_astore_n (lv' := [(3, .ref q9), (0, .ref a1), (1, .int a2), (2, .int a3)]) hx hb dL_added_7 rfl hl (by decide) rfl (fun ls hl => ?_)
      refine lv_bipush (v := (-5)) hx hb dL_added_8 (by decide) ?_
      cases h
      exact eI hx hb hr hlocks hM hS dL_added_10 (Nat.le_of_ble_eq_true rfl) (Nat.le_of_ble_eq_true rfl)
    · have h := ifn e1 h
      cases h
  obtain ⟨hk1, h1⟩ := ifg h1
  refine kx_ok1 (kx_V (ci := 4) (As := [.int a2, .int a3]) (rest := []) hC hE hS hM (mt_X4_addTag _ hfl E a1 a2 a3 _ _ _ h1) (gwV qw_648 qw_649 qw_650 qw_39 qw_651) ⟨rfl, rfl, (Nat.le_of_ble_eq_true rfl), (Nat.le_of_ble_eq_true rfl)⟩ dd_X4_addTag rfl hk1 rfl rfl hl.1 (Nat.le_of_ble_eq_true rfl) dL_added_3 ⟨(Nat.le_of_ble_eq_true rfl), (Nat.le_of_ble_eq_true rfl)⟩) hS (fun H locs hM hS => ?_)
  cases h
  exact eI hx hb hr hlocks hM hS dL_added_6 (Nat.le_of_ble_eq_true rfl) (Nat.le_of_ble_eq_true rfl)

theorem dd_L_removed : yL_removed.cls ≠ "java/lang/invoke/MethodHandle" ∧ yL_removed.cls ≠ "java/lang/invoke/VarHandle" ∧ (parseMethodDescriptor yL_removed.desc).map (fun d => d.parameters.length) = some 3 := by decide +kernel
abbrev rm_L_removed : Room := ({ frames := 9, cells := 26, slots := 1365, locals := 156 } : Room)
noncomputable def f_L_removed (a1 : Nat) (a2 : Int32) (a3 : Int32) (M : Mem) : Option (Int32 × Mem) :=
  bx (cK 5 a1 M (f_X4_removeTag a1 a2 a3 M)) (fun ex M9 => if ex = 0 then
  some ((-5), (setZ M9 (mZ M9 + 1)))
  else if ex = 2 then
  some ((-3), (setZ M9 (mZ M9 + 1)))
  else none) fun v1 M2 =>
  some (v1, M2)
set_option maxHeartbeats 4000000 in
set_option maxRecDepth 100000 in
theorem mt_L_removed (l : Launch) (hfl : l.stackTraces = false) (E : KEnv) (a1 : Nat) (a2 : Int32) (a3 : Int32) (M M' : Mem) (v : Int32) (h : f_L_removed a1 a2 a3 M = some (v, M')) : Met l yL_removed (Cond.codeWith yL_removed cL_removed 4 (some .int) [(0, 6, 7, 34), (0, 6, 11, 41)] :: lw_G) rm_L_removed (cPc E [.ref a1, .int a2, .int a3] M) (cQ E (some (.int v)) M') 26 1365 (eA E) := by
  refine Met_ofWH (cc := cL_removed) (maxL := 4) (ret := (some .int)) (hh := [(0, 6, 7, 34), (0, 6, 11, 41)]) (by decide) rfl ?_
  intro p e s m args below meth c s₁ B hml hv
  obtain ⟨rfl, hE, hM⟩ := hv
  have hx := B.exec
  have hb := B.bytes
  have hr := B.returns
  have hts0 := atoms_spec (ws := Cond.codeWith yL_removed cL_removed 4 (some .int) [(0, 6, 7, 34), (0, 6, 11, 41)] :: lw_G) B.pre
  have hts : ∀ w ∈ lw_G, w.before _ s = true := fun w hw => hts0 w (List.mem_cons_of_mem _ hw)
  have htab := vx_table (x := yL_removed) B (hts0 _ List.mem_cons_self)
  have hown : s.vm.findClass RL = some m.cls := findClass_of_methodNamed B.named
  have hlocks := B.notSynchronized
  have hC : CallFix p m c cL_removed 4 s _ lw_G RL := ⟨hx, hb, hml, hown, hts⟩
  have hS : va_S (eA E) s.heap s.heap [] := va_S.rf
  have hl := lv_entry ([.ref a1, .int a2, .int a3]) (n := 4) (Nat.le_of_ble_eq_true rfl)
  rw [lg_entry_eq]
  generalize (lg_sl ([.ref a1, .int a2, .int a3]) ++ List.replicate (4 - (lg_sl ([.ref a1, .int a2, .int a3])).length) Slot.unset).toArray = ls at hl ⊢
  have hl : lv_has ls 4 [(0, .ref a1), (1, .int a2), (2, .int a3)] := hl
  unfold f_L_removed at h
  show W p l e rm_L_removed s m _ below meth c s.heap [] 0 0 _ _
  refine lv_aload_n hx hb dL_removed_0 rfl (lv_at hl 0 rfl) ?_
  refine lv_iload_n hx hb dL_removed_1 rfl (lv_at hl 1 rfl) ?_
  refine lv_iload_n hx hb dL_removed_2 rfl (lv_at hl 2 rfl) ?_
  rcases obx h with ⟨v1, M2, h1, h⟩ | ⟨ex, M9, h1, h⟩
  rotate_left
  · obtain ⟨hk1, h1⟩ := ifg h1
    by_cases e1 : ex = 0
    · have h := ifp e1 h
      subst e1
      refine kx_hand (hpc := 7) (kx_V (ci := 4) (As := [.int a2, .int a3]) (rest := []) hC hE hS hM (mt_X4_removeTag _ hfl E a1 a2 a3 _ _ _ h1) (gwV qw_665 qw_666 qw_667 qw_39 qw_668) ⟨rfl, rfl, (Nat.le_of_ble_eq_true rfl), (Nat.le_of_ble_eq_true rfl)⟩ dd_X4_removeTag rfl hk1 rfl rfl hl.1 (Nat.le_of_ble_eq_true rfl) dL_removed_3 ⟨(Nat.le_of_ble_eq_true rfl), (Nat.le_of_ble_eq_true rfl)⟩) hS hown [] (⟨0, 6, 7, 34⟩ : ExceptionTableEntry) [(⟨0, 6, 11, 41⟩ : ExceptionTableEntry)] htab (fun z hz => nomatch hz) (by decide) (by decide) (hts _ qw_554) (va_Nw.use rfl (hE.2.2.2.2.2.2.2.1 (exN 0, exN 0) (by decide))) rfl (fun H locs q9 hM hS => ?_)
      refine lv_astore_n (lv' := [(3, .ref q9), (0, .ref a1), (1, .int a2), (2, .int a3)]) hx hb dL_removed_7 rfl hl (by decide) rfl (fun ls hl => ?_)
      refine lv_bipush (v := (-5)) hx hb dL_removed_8 (by decide) ?_
      cases h
      exact eI hx hb hr hlocks hM hS dL_removed_10 (Nat.le_of_ble_eq_true rfl) (Nat.le_of_ble_eq_true rfl)
    · have h := ifn e1 h
      by_cases e1 : ex = 2
      · have h := ifp e1 h
        subst e1
        refine kx_hand (hpc := 11) (kx_V (ci := 4) (As := [.int a2, .int a3]) (rest := []) hC hE hS hM (mt_X4_removeTag _ hfl E a1 a2 a3 _ _ _ h1) (gwV qw_665 qw_666 qw_667 qw_39 qw_668) ⟨rfl, rfl, (Nat.le_of_ble_eq_true rfl), (Nat.le_of_ble_eq_true rfl)⟩ dd_X4_removeTag rfl hk1 rfl rfl hl.1 (Nat.le_of_ble_eq_true rfl) dL_removed_3 ⟨(Nat.le_of_ble_eq_true rfl), (Nat.le_of_ble_eq_true rfl)⟩) hS hown [(⟨0, 6, 7, 34⟩ : ExceptionTableEntry)] (⟨0, 6, 11, 41⟩ : ExceptionTableEntry) [] htab (fun z hz => by rw [List.mem_singleton.mp hz]; exact Or.inr ⟨by decide, _, hts _ qw_554, hE.2.2.2.2.2.2.2.2.2.2.2.1 (exN 2, "java/lang/IndexOutOfBoundsException") (by decide)⟩) (by decide) (by decide) (hts _ qw_598) (va_Nw.use rfl (hE.2.2.2.2.2.2.2.1 (exN 2, exN 2) (by decide))) rfl (fun H locs q9 hM hS => ?_)
        refine lv_astore_n (lv' := [(3, .ref q9), (0, .ref a1), (1, .int a2), (2, .int a3)]) hx hb dL_removed_11 rfl hl (by decide) rfl (fun ls hl => ?_)
        refine lv_bipush (v := (-3)) hx hb dL_removed_12 (by decide) ?_
        cases h
        exact eI hx hb hr hlocks hM hS dL_removed_14 (Nat.le_of_ble_eq_true rfl) (Nat.le_of_ble_eq_true rfl)
      · have h := ifn e1 h
        cases h
  obtain ⟨hk1, h1⟩ := ifg h1
  refine kx_ok1 (kx_V (ci := 4) (As := [.int a2, .int a3]) (rest := []) hC hE hS hM (mt_X4_removeTag _ hfl E a1 a2 a3 _ _ _ h1) (gwV qw_665 qw_666 qw_667 qw_39 qw_668) ⟨rfl, rfl, (Nat.le_of_ble_eq_true rfl), (Nat.le_of_ble_eq_true rfl)⟩ dd_X4_removeTag rfl hk1 rfl rfl hl.1 (Nat.le_of_ble_eq_true rfl) dL_removed_3 ⟨(Nat.le_of_ble_eq_true rfl), (Nat.le_of_ble_eq_true rfl)⟩) hS (fun H locs hM hS => ?_)
  cases h
  exact eI hx hb hr hlocks hM hS dL_removed_6 (Nat.le_of_ble_eq_true rfl) (Nat.le_of_ble_eq_true rfl)

theorem dd_L_written : yL_written.cls ≠ "java/lang/invoke/MethodHandle" ∧ yL_written.cls ≠ "java/lang/invoke/VarHandle" ∧ (parseMethodDescriptor yL_written.desc).map (fun d => d.parameters.length) = some 4 := by decide +kernel
abbrev rm_L_written : Room := ({ frames := 9, cells := 26, slots := 1365, locals := 157 } : Room)
noncomputable def f_L_written (a1 : Nat) (a2 : Int32) (a3 : Int32) (a4 : Int32) (M : Mem) : Option (Int32 × Mem) :=
  bx (cK 5 a1 M (f_X4_write a1 a2 a3 a4 M)) (fun ex M9 => if ex = 0 then
  some ((-5), (setZ M9 (mZ M9 + 1)))
  else if ex = 1 then
  some ((-2), (setZ M9 (mZ M9 + 1)))
  else none) fun v1 M2 =>
  some (v1, M2)
set_option maxHeartbeats 4000000 in
set_option maxRecDepth 100000 in
theorem mt_L_written (l : Launch) (hfl : l.stackTraces = false) (E : KEnv) (a1 : Nat) (a2 : Int32) (a3 : Int32) (a4 : Int32) (M M' : Mem) (v : Int32) (h : f_L_written a1 a2 a3 a4 M = some (v, M')) : Met l yL_written (Cond.codeWith yL_written cL_written 5 (some .int) [(0, 7, 8, 34), (0, 7, 13, 36)] :: lw_G) rm_L_written (cPc E [.ref a1, .int a2, .int a3, .int a4] M) (cQ E (some (.int v)) M') 26 1365 (eA E) := by
  refine Met_ofWH (cc := cL_written) (maxL := 5) (ret := (some .int)) (hh := [(0, 7, 8, 34), (0, 7, 13, 36)]) (by decide) rfl ?_
  intro p e s m args below meth c s₁ B hml hv
  obtain ⟨rfl, hE, hM⟩ := hv
  have hx := B.exec
  have hb := B.bytes
  have hr := B.returns
  have hts0 := atoms_spec (ws := Cond.codeWith yL_written cL_written 5 (some .int) [(0, 7, 8, 34), (0, 7, 13, 36)] :: lw_G) B.pre
  have hts : ∀ w ∈ lw_G, w.before _ s = true := fun w hw => hts0 w (List.mem_cons_of_mem _ hw)
  have htab := vx_table (x := yL_written) B (hts0 _ List.mem_cons_self)
  have hown : s.vm.findClass RL = some m.cls := findClass_of_methodNamed B.named
  have hlocks := B.notSynchronized
  have hC : CallFix p m c cL_written 5 s _ lw_G RL := ⟨hx, hb, hml, hown, hts⟩
  have hS : va_S (eA E) s.heap s.heap [] := va_S.rf
  have hl := lv_entry ([.ref a1, .int a2, .int a3, .int a4]) (n := 5) (Nat.le_of_ble_eq_true rfl)
  rw [lg_entry_eq]
  generalize (lg_sl ([.ref a1, .int a2, .int a3, .int a4]) ++ List.replicate (5 - (lg_sl ([.ref a1, .int a2, .int a3, .int a4])).length) Slot.unset).toArray = ls at hl ⊢
  have hl : lv_has ls 5 [(0, .ref a1), (1, .int a2), (2, .int a3), (3, .int a4)] := hl
  unfold f_L_written at h
  show W p l e rm_L_written s m _ below meth c s.heap [] 0 0 _ _
  refine lv_aload_n hx hb dL_written_0 rfl (lv_at hl 0 rfl) ?_
  refine lv_iload_n hx hb dL_written_1 rfl (lv_at hl 1 rfl) ?_
  refine lv_iload_n hx hb dL_written_2 rfl (lv_at hl 2 rfl) ?_
  refine lv_iload_n hx hb dL_written_3 rfl (lv_at hl 3 rfl) ?_
  rcases obx h with ⟨v1, M2, h1, h⟩ | ⟨ex, M9, h1, h⟩
  rotate_left
  · obtain ⟨hk1, h1⟩ := ifg h1
    by_cases e1 : ex = 0
    · have h := ifp e1 h
      subst e1
      refine kx_hand (hpc := 8) (kx_V (ci := 4) (As := [.int a2, .int a3, .int a4]) (rest := []) hC hE hS hM (mt_X4_write _ hfl E a1 a2 a3 a4 _ _ _ h1) (gwV qw_675 qw_676 qw_677 qw_39 qw_678) ⟨rfl, rfl, (Nat.le_of_ble_eq_true rfl), (Nat.le_of_ble_eq_true rfl)⟩ dd_X4_write rfl hk1 rfl rfl hl.1 (Nat.le_of_ble_eq_true rfl) dL_written_4 ⟨(Nat.le_of_ble_eq_true rfl), (Nat.le_of_ble_eq_true rfl)⟩) hS hown [] (⟨0, 7, 8, 34⟩ : ExceptionTableEntry) [(⟨0, 7, 13, 36⟩ : ExceptionTableEntry)] htab (fun z hz => nomatch hz) (by decide) (by decide) (hts _ qw_554) (va_Nw.use rfl (hE.2.2.2.2.2.2.2.1 (exN 0, exN 0) (by decide))) rfl (fun H locs q9 hM hS => ?_)
      refine lv_astore (lv' := [(4, .ref q9), (0, .ref a1), (1, .int a2), (2, .int a3), (3, .int a4)]) hx hb dL_written_8 hl (by decide) rfl (fun ls hl => ?_)
      refine lv_bipush (v := (-5)) hx hb dL_written_10 (by decide) ?_
      cases h
      exact eI hx hb hr hlocks hM hS dL_written_12 (Nat.le_of_ble_eq_true rfl) (Nat.le_of_ble_eq_true rfl)
    · have h := ifn e1 h
      by_cases e1 : ex = 1
      · have h := ifp e1 h
        subst e1
        refine kx_hand (hpc := 13) (kx_V (ci := 4) (As := [.int a2, .int a3, .int a4]) (rest := []) hC hE hS hM (mt_X4_write _ hfl E a1 a2 a3 a4 _ _ _ h1) (gwV qw_675 qw_676 qw_677 qw_39 qw_678) ⟨rfl, rfl, (Nat.le_of_ble_eq_true rfl), (Nat.le_of_ble_eq_true rfl)⟩ dd_X4_write rfl hk1 rfl rfl hl.1 (Nat.le_of_ble_eq_true rfl) dL_written_4 ⟨(Nat.le_of_ble_eq_true rfl), (Nat.le_of_ble_eq_true rfl)⟩) hS hown [(⟨0, 7, 8, 34⟩ : ExceptionTableEntry)] (⟨0, 7, 13, 36⟩ : ExceptionTableEntry) [] htab (fun z hz => by rw [List.mem_singleton.mp hz]; exact Or.inr ⟨by decide, _, hts _ qw_554, hE.2.2.2.2.2.2.2.2.2.2.2.1 (exN 1, "java/lang/IndexOutOfBoundsException") (by decide)⟩) (by decide) (by decide) (hts _ qw_555) (va_Nw.use rfl (hE.2.2.2.2.2.2.2.1 (exN 1, exN 1) (by decide))) rfl (fun H locs q9 hM hS => ?_)
        refine lv_astore (lv' := [(4, .ref q9), (0, .ref a1), (1, .int a2), (2, .int a3), (3, .int a4)]) hx hb dL_written_13 hl (by decide) rfl (fun ls hl => ?_)
        refine lv_bipush (v := (-2)) hx hb dL_written_15 (by decide) ?_
        cases h
        exact eI hx hb hr hlocks hM hS dL_written_17 (Nat.le_of_ble_eq_true rfl) (Nat.le_of_ble_eq_true rfl)
      · have h := ifn e1 h
        cases h
  obtain ⟨hk1, h1⟩ := ifg h1
  refine kx_ok1 (kx_V (ci := 4) (As := [.int a2, .int a3, .int a4]) (rest := []) hC hE hS hM (mt_X4_write _ hfl E a1 a2 a3 a4 _ _ _ h1) (gwV qw_675 qw_676 qw_677 qw_39 qw_678) ⟨rfl, rfl, (Nat.le_of_ble_eq_true rfl), (Nat.le_of_ble_eq_true rfl)⟩ dd_X4_write rfl hk1 rfl rfl hl.1 (Nat.le_of_ble_eq_true rfl) dL_written_4 ⟨(Nat.le_of_ble_eq_true rfl), (Nat.le_of_ble_eq_true rfl)⟩) hS (fun H locs hM hS => ?_)
  cases h
  exact eI hx hb hr hlocks hM hS dL_written_7 (Nat.le_of_ble_eq_true rfl) (Nat.le_of_ble_eq_true rfl)

theorem dd_L_merged : yL_merged.cls ≠ "java/lang/invoke/MethodHandle" ∧ yL_merged.cls ≠ "java/lang/invoke/VarHandle" ∧ (parseMethodDescriptor yL_merged.desc).map (fun d => d.parameters.length) = some 3 := by decide +kernel
abbrev rm_L_merged : Room := ({ frames := 9, cells := 26, slots := 1365, locals := 168 } : Room)
noncomputable def f_L_merged (a1 : Nat) (a2 : Int32) (a3 : Int32) (M : Mem) : Option (Int32 × Mem) :=
  bx (cK 5 a1 M (f_X4_merge a1 a2 a3 M)) (fun ex M9 => if ex = 0 then
  some ((-5), (setZ M9 (mZ M9 + 1)))
  else none) fun v1 M2 =>
  (if v1 = 0 then
  some (0, M2)
  else
  some (1, M2))
set_option maxHeartbeats 4000000 in
set_option maxRecDepth 100000 in
theorem mt_L_merged (l : Launch) (hfl : l.stackTraces = false) (E : KEnv) (a1 : Nat) (a2 : Int32) (a3 : Int32) (M M' : Mem) (v : Int32) (h : f_L_merged a1 a2 a3 M = some (v, M')) : Met l yL_merged (Cond.codeWith yL_merged cL_merged 4 (some .int) [(0, 14, 15, 34)] :: lw_G) rm_L_merged (cPc E [.ref a1, .int a2, .int a3] M) (cQ E (some (.int v)) M') 26 1365 (eA E) := by
  refine Met_ofWH (cc := cL_merged) (maxL := 4) (ret := (some .int)) (hh := [(0, 14, 15, 34)]) (by decide) rfl ?_
  intro p e s m args below meth c s₁ B hml hv
  obtain ⟨rfl, hE, hM⟩ := hv
  have hx := B.exec
  have hb := B.bytes
  have hr := B.returns
  have hts0 := atoms_spec (ws := Cond.codeWith yL_merged cL_merged 4 (some .int) [(0, 14, 15, 34)] :: lw_G) B.pre
  have hts : ∀ w ∈ lw_G, w.before _ s = true := fun w hw => hts0 w (List.mem_cons_of_mem _ hw)
  have htab := vx_table (x := yL_merged) B (hts0 _ List.mem_cons_self)
  have hown : s.vm.findClass RL = some m.cls := findClass_of_methodNamed B.named
  have hlocks := B.notSynchronized
  have hC : CallFix p m c cL_merged 4 s _ lw_G RL := ⟨hx, hb, hml, hown, hts⟩
  have hS : va_S (eA E) s.heap s.heap [] := va_S.rf
  have hl := lv_entry ([.ref a1, .int a2, .int a3]) (n := 4) (Nat.le_of_ble_eq_true rfl)
  rw [lg_entry_eq]
  generalize (lg_sl ([.ref a1, .int a2, .int a3]) ++ List.replicate (4 - (lg_sl ([.ref a1, .int a2, .int a3])).length) Slot.unset).toArray = ls at hl ⊢
  have hl : lv_has ls 4 [(0, .ref a1), (1, .int a2), (2, .int a3)] := hl
  unfold f_L_merged at h
  show W p l e rm_L_merged s m _ below meth c s.heap [] 0 0 _ _
  refine lv_aload_n hx hb dL_merged_0 rfl (lv_at hl 0 rfl) ?_
  refine lv_iload_n hx hb dL_merged_1 rfl (lv_at hl 1 rfl) ?_
  refine lv_iload_n hx hb dL_merged_2 rfl (lv_at hl 2 rfl) ?_
  rcases obx h with ⟨v1, M2, h1, h⟩ | ⟨ex, M9, h1, h⟩
  rotate_left
  · obtain ⟨hk1, h1⟩ := ifg h1
    by_cases e1 : ex = 0
    · have h := ifp e1 h
      subst e1
      refine kx_hand (hpc := 15) (kx_V (ci := 4) (As := [.int a2, .int a3]) (rest := []) hC hE hS hM (mt_X4_merge _ hfl E a1 a2 a3 _ _ _ h1) (gwV qw_693 qw_694 qw_695 qw_39 qw_696) ⟨rfl, rfl, (Nat.le_of_ble_eq_true rfl), (Nat.le_of_ble_eq_true rfl)⟩ dd_X4_merge rfl hk1 rfl rfl hl.1 (Nat.le_of_ble_eq_true rfl) dL_merged_3 ⟨(Nat.le_of_ble_eq_true rfl), (Nat.le_of_ble_eq_true rfl)⟩) hS hown [] (⟨0, 14, 15, 34⟩ : ExceptionTableEntry) [] htab (fun z hz => nomatch hz) (by decide) (by decide) (hts _ qw_554) (va_Nw.use rfl (hE.2.2.2.2.2.2.2.1 (exN 0, exN 0) (by decide))) rfl (fun H locs q9 hM hS => ?_)
      refine lv_astore_n (lv' := [(3, .ref q9), (0, .ref a1), (1, .int a2), (2, .int a3)]) hx hb dL_merged_15 rfl hl (by decide) rfl (fun ls hl => ?_)
      refine lv_bipush (v := (-5)) hx hb dL_merged_16 (by decide) ?_
      cases h
      exact eI hx hb hr hlocks hM hS dL_merged_18 (Nat.le_of_ble_eq_true rfl) (Nat.le_of_ble_eq_true rfl)
    · have h := ifn e1 h
      cases h
  obtain ⟨hk1, h1⟩ := ifg h1
  refine kx_ok1 (kx_V (ci := 4) (As := [.int a2, .int a3]) (rest := []) hC hE hS hM (mt_X4_merge _ hfl E a1 a2 a3 _ _ _ h1) (gwV qw_693 qw_694 qw_695 qw_39 qw_696) ⟨rfl, rfl, (Nat.le_of_ble_eq_true rfl), (Nat.le_of_ble_eq_true rfl)⟩ dd_X4_merge rfl hk1 rfl rfl hl.1 (Nat.le_of_ble_eq_true rfl) dL_merged_3 ⟨(Nat.le_of_ble_eq_true rfl), (Nat.le_of_ble_eq_true rfl)⟩) hS (fun H locs hM hS => ?_)
  refine lv_if_eq (tgt := 13) hx hb dL_merged_6 (by decide) (fun c1 => ?_) (fun c1 => ?_)
  · have h := ifp c1 h
    refine lv_iconst (v := 0) hx hb dL_merged_13 (by decide) ?_
    cases h
    exact eI hx hb hr hlocks hM hS dL_merged_14 (Nat.le_of_ble_eq_true rfl) (Nat.le_of_ble_eq_true rfl)
  · have h := ifn c1 h
    refine lv_iconst (v := 1) hx hb dL_merged_9 (by decide) ?_
    refine lv_goto (tgt := 14) hx hb dL_merged_10 (by decide) ?_
    cases h
    exact eI hx hb hr hlocks hM hS dL_merged_14 (Nat.le_of_ble_eq_true rfl) (Nat.le_of_ble_eq_true rfl)

theorem dd_L_sent : yL_sent.cls ≠ "java/lang/invoke/MethodHandle" ∧ yL_sent.cls ≠ "java/lang/invoke/VarHandle" ∧ (parseMethodDescriptor yL_sent.desc).map (fun d => d.parameters.length) = some 2 := by decide +kernel
abbrev rm_L_sent : Room := ({ frames := 8, cells := 25, slots := 1359, locals := 145 } : Room)
noncomputable def f_L_sent (a1 : Nat) (a2 : Int32) (M : Mem) : Option (Int32 × Mem) :=
  bx (cK 5 a1 M (f_X4_send a1 a2 M)) (fun ex M9 => if ex = 0 then
  some ((-5), (setZ M9 (mZ M9 + 1)))
  else if ex = 2 then
  some ((-3), (setZ M9 (mZ M9 + 1)))
  else none) fun v1 M2 =>
  some (v1, M2)
set_option maxHeartbeats 4000000 in
set_option maxRecDepth 100000 in
theorem mt_L_sent (l : Launch) (hfl : l.stackTraces = false) (E : KEnv) (a1 : Nat) (a2 : Int32) (M M' : Mem) (v : Int32) (h : f_L_sent a1 a2 M = some (v, M')) : Met l yL_sent (Cond.codeWith yL_sent cL_sent 3 (some .int) [(0, 5, 6, 34), (0, 5, 10, 41)] :: lw_G) rm_L_sent (cPc E [.ref a1, .int a2] M) (cQ E (some (.int v)) M') 25 1359 (eA E) := by
  refine Met_ofWH (cc := cL_sent) (maxL := 3) (ret := (some .int)) (hh := [(0, 5, 6, 34), (0, 5, 10, 41)]) (by decide) rfl ?_
  intro p e s m args below meth c s₁ B hml hv
  obtain ⟨rfl, hE, hM⟩ := hv
  have hx := B.exec
  have hb := B.bytes
  have hr := B.returns
  have hts0 := atoms_spec (ws := Cond.codeWith yL_sent cL_sent 3 (some .int) [(0, 5, 6, 34), (0, 5, 10, 41)] :: lw_G) B.pre
  have hts : ∀ w ∈ lw_G, w.before _ s = true := fun w hw => hts0 w (List.mem_cons_of_mem _ hw)
  have htab := vx_table (x := yL_sent) B (hts0 _ List.mem_cons_self)
  have hown : s.vm.findClass RL = some m.cls := findClass_of_methodNamed B.named
  have hlocks := B.notSynchronized
  have hC : CallFix p m c cL_sent 3 s _ lw_G RL := ⟨hx, hb, hml, hown, hts⟩
  have hS : va_S (eA E) s.heap s.heap [] := va_S.rf
  have hl := lv_entry ([.ref a1, .int a2]) (n := 3) (Nat.le_of_ble_eq_true rfl)
  rw [lg_entry_eq]
  generalize (lg_sl ([.ref a1, .int a2]) ++ List.replicate (3 - (lg_sl ([.ref a1, .int a2])).length) Slot.unset).toArray = ls at hl ⊢
  have hl : lv_has ls 3 [(0, .ref a1), (1, .int a2)] := hl
  unfold f_L_sent at h
  show W p l e rm_L_sent s m _ below meth c s.heap [] 0 0 _ _
  refine lv_aload_n hx hb dL_sent_0 rfl (lv_at hl 0 rfl) ?_
  refine lv_iload_n hx hb dL_sent_1 rfl (lv_at hl 1 rfl) ?_
  rcases obx h with ⟨v1, M2, h1, h⟩ | ⟨ex, M9, h1, h⟩
  rotate_left
  · obtain ⟨hk1, h1⟩ := ifg h1
    by_cases e1 : ex = 0
    · have h := ifp e1 h
      subst e1
      refine kx_hand (hpc := 6) (kx_V (ci := 4) (As := [.int a2]) (rest := []) hC hE hS hM (mt_X4_send _ hfl E a1 a2 _ _ _ h1) (gwV qw_710 qw_711 qw_712 qw_39 qw_713) ⟨rfl, rfl, (Nat.le_of_ble_eq_true rfl), (Nat.le_of_ble_eq_true rfl)⟩ dd_X4_send rfl hk1 rfl rfl hl.1 (Nat.le_of_ble_eq_true rfl) dL_sent_2 ⟨(Nat.le_of_ble_eq_true rfl), (Nat.le_of_ble_eq_true rfl)⟩) hS hown [] (⟨0, 5, 6, 34⟩ : ExceptionTableEntry) [(⟨0, 5, 10, 41⟩ : ExceptionTableEntry)] htab (fun z hz => nomatch hz) (by decide) (by decide) (hts _ qw_554) (va_Nw.use rfl (hE.2.2.2.2.2.2.2.1 (exN 0, exN 0) (by decide))) rfl (fun H locs q9 hM hS => ?_)
      refine lv_astore_n (lv' := [(2, .ref q9), (0, .ref a1), (1, .int a2)]) hx hb dL_sent_6 rfl hl (by decide) rfl (fun ls hl => ?_)
      refine lv_bipush (v := (-5)) hx hb dL_sent_7 (by decide) ?_
      cases h
      exact eI hx hb hr hlocks hM hS dL_sent_9 (Nat.le_of_ble_eq_true rfl) (Nat.le_of_ble_eq_true rfl)
    · have h := ifn e1 h
      by_cases e1 : ex = 2
      · have h := ifp e1 h
        subst e1
        refine kx_hand (hpc := 10) (kx_V (ci := 4) (As := [.int a2]) (rest := []) hC hE hS hM (mt_X4_send _ hfl E a1 a2 _ _ _ h1) (gwV qw_710 qw_711 qw_712 qw_39 qw_713) ⟨rfl, rfl, (Nat.le_of_ble_eq_true rfl), (Nat.le_of_ble_eq_true rfl)⟩ dd_X4_send rfl hk1 rfl rfl hl.1 (Nat.le_of_ble_eq_true rfl) dL_sent_2 ⟨(Nat.le_of_ble_eq_true rfl), (Nat.le_of_ble_eq_true rfl)⟩) hS hown [(⟨0, 5, 6, 34⟩ : ExceptionTableEntry)] (⟨0, 5, 10, 41⟩ : ExceptionTableEntry) [] htab (fun z hz => by rw [List.mem_singleton.mp hz]; exact Or.inr ⟨by decide, _, hts _ qw_554, hE.2.2.2.2.2.2.2.2.2.2.2.1 (exN 2, "java/lang/IndexOutOfBoundsException") (by decide)⟩) (by decide) (by decide) (hts _ qw_598) (va_Nw.use rfl (hE.2.2.2.2.2.2.2.1 (exN 2, exN 2) (by decide))) rfl (fun H locs q9 hM hS => ?_)
        refine lv_astore_n (lv' := [(2, .ref q9), (0, .ref a1), (1, .int a2)]) hx hb dL_sent_10 rfl hl (by decide) rfl (fun ls hl => ?_)
        refine lv_bipush (v := (-3)) hx hb dL_sent_11 (by decide) ?_
        cases h
        exact eI hx hb hr hlocks hM hS dL_sent_13 (Nat.le_of_ble_eq_true rfl) (Nat.le_of_ble_eq_true rfl)
      · have h := ifn e1 h
        cases h
  obtain ⟨hk1, h1⟩ := ifg h1
  refine kx_ok1 (kx_V (ci := 4) (As := [.int a2]) (rest := []) hC hE hS hM (mt_X4_send _ hfl E a1 a2 _ _ _ h1) (gwV qw_710 qw_711 qw_712 qw_39 qw_713) ⟨rfl, rfl, (Nat.le_of_ble_eq_true rfl), (Nat.le_of_ble_eq_true rfl)⟩ dd_X4_send rfl hk1 rfl rfl hl.1 (Nat.le_of_ble_eq_true rfl) dL_sent_2 ⟨(Nat.le_of_ble_eq_true rfl), (Nat.le_of_ble_eq_true rfl)⟩) hS (fun H locs hM hS => ?_)
  cases h
  exact eI hx hb hr hlocks hM hS dL_sent_5 (Nat.le_of_ble_eq_true rfl) (Nat.le_of_ble_eq_true rfl)

theorem dd_L_delivered : yL_delivered.cls ≠ "java/lang/invoke/MethodHandle" ∧ yL_delivered.cls ≠ "java/lang/invoke/VarHandle" ∧ (parseMethodDescriptor yL_delivered.desc).map (fun d => d.parameters.length) = some 3 := by decide +kernel
abbrev rm_L_delivered : Room := ({ frames := 9, cells := 26, slots := 1365, locals := 168 } : Room)
noncomputable def f_L_delivered (a1 : Nat) (a2 : Int32) (a3 : Int32) (M : Mem) : Option (Int32 × Mem) :=
  bx (cK 5 a1 M (f_X4_deliver a1 a2 a3 M)) (fun ex M9 => if ex = 0 then
  some ((-5), (setZ M9 (mZ M9 + 1)))
  else none) fun v1 M2 =>
  (if v1 = 0 then
  some (0, M2)
  else
  some (1, M2))
set_option maxHeartbeats 4000000 in
set_option maxRecDepth 100000 in
theorem mt_L_delivered (l : Launch) (hfl : l.stackTraces = false) (E : KEnv) (a1 : Nat) (a2 : Int32) (a3 : Int32) (M M' : Mem) (v : Int32) (h : f_L_delivered a1 a2 a3 M = some (v, M')) : Met l yL_delivered (Cond.codeWith yL_delivered cL_delivered 4 (some .int) [(0, 14, 15, 34)] :: lw_G) rm_L_delivered (cPc E [.ref a1, .int a2, .int a3] M) (cQ E (some (.int v)) M') 26 1365 (eA E) := by
  refine Met_ofWH (cc := cL_delivered) (maxL := 4) (ret := (some .int)) (hh := [(0, 14, 15, 34)]) (by decide) rfl ?_
  intro p e s m args below meth c s₁ B hml hv
  obtain ⟨rfl, hE, hM⟩ := hv
  have hx := B.exec
  have hb := B.bytes
  have hr := B.returns
  have hts0 := atoms_spec (ws := Cond.codeWith yL_delivered cL_delivered 4 (some .int) [(0, 14, 15, 34)] :: lw_G) B.pre
  have hts : ∀ w ∈ lw_G, w.before _ s = true := fun w hw => hts0 w (List.mem_cons_of_mem _ hw)
  have htab := vx_table (x := yL_delivered) B (hts0 _ List.mem_cons_self)
  have hown : s.vm.findClass RL = some m.cls := findClass_of_methodNamed B.named
  have hlocks := B.notSynchronized
  have hC : CallFix p m c cL_delivered 4 s _ lw_G RL := ⟨hx, hb, hml, hown, hts⟩
  have hS : va_S (eA E) s.heap s.heap [] := va_S.rf
  have hl := lv_entry ([.ref a1, .int a2, .int a3]) (n := 4) (Nat.le_of_ble_eq_true rfl)
  rw [lg_entry_eq]
  generalize (lg_sl ([.ref a1, .int a2, .int a3]) ++ List.replicate (4 - (lg_sl ([.ref a1, .int a2, .int a3])).length) Slot.unset).toArray = ls at hl ⊢
  have hl : lv_has ls 4 [(0, .ref a1), (1, .int a2), (2, .int a3)] := hl
  unfold f_L_delivered at h
  show W p l e rm_L_delivered s m _ below meth c s.heap [] 0 0 _ _
  refine lv_aload_n hx hb dL_delivered_0 rfl (lv_at hl 0 rfl) ?_
  refine lv_iload_n hx hb dL_delivered_1 rfl (lv_at hl 1 rfl) ?_
  refine lv_iload_n hx hb dL_delivered_2 rfl (lv_at hl 2 rfl) ?_
  rcases obx h with ⟨v1, M2, h1, h⟩ | ⟨ex, M9, h1, h⟩
  rotate_left
  · obtain ⟨hk1, h1⟩ := ifg h1
    by_cases e1 : ex = 0
    · have h := ifp e1 h
      subst e1
      refine kx_hand (hpc := 15) (kx_V (ci := 4) (As := [.int a2, .int a3]) (rest := []) hC hE hS hM (mt_X4_deliver _ hfl E a1 a2 a3 _ _ _ h1) (gwV qw_719 qw_720 qw_721 qw_39 qw_722) ⟨rfl, rfl, (Nat.le_of_ble_eq_true rfl), (Nat.le_of_ble_eq_true rfl)⟩ dd_X4_deliver rfl hk1 rfl rfl hl.1 (Nat.le_of_ble_eq_true rfl) dL_delivered_3 ⟨(Nat.le_of_ble_eq_true rfl), (Nat.le_of_ble_eq_true rfl)⟩) hS hown [] (⟨0, 14, 15, 34⟩ : ExceptionTableEntry) [] htab (fun z hz => nomatch hz) (by decide) (by decide) (hts _ qw_554) (va_Nw.use rfl (hE.2.2.2.2.2.2.2.1 (exN 0, exN 0) (by decide))) rfl (fun H locs q9 hM hS => ?_)
      refine lv_astore_n (lv' := [(3, .ref q9), (0, .ref a1), (1, .int a2), (2, .int a3)]) hx hb dL_delivered_15 rfl hl (by decide) rfl (fun ls hl => ?_)
      refine lv_bipush (v := (-5)) hx hb dL_delivered_16 (by decide) ?_
      cases h
      exact eI hx hb hr hlocks hM hS dL_delivered_18 (Nat.le_of_ble_eq_true rfl) (Nat.le_of_ble_eq_true rfl)
    · have h := ifn e1 h
      cases h
  obtain ⟨hk1, h1⟩ := ifg h1
  refine kx_ok1 (kx_V (ci := 4) (As := [.int a2, .int a3]) (rest := []) hC hE hS hM (mt_X4_deliver _ hfl E a1 a2 a3 _ _ _ h1) (gwV qw_719 qw_720 qw_721 qw_39 qw_722) ⟨rfl, rfl, (Nat.le_of_ble_eq_true rfl), (Nat.le_of_ble_eq_true rfl)⟩ dd_X4_deliver rfl hk1 rfl rfl hl.1 (Nat.le_of_ble_eq_true rfl) dL_delivered_3 ⟨(Nat.le_of_ble_eq_true rfl), (Nat.le_of_ble_eq_true rfl)⟩) hS (fun H locs hM hS => ?_)
  refine lv_if_eq (tgt := 13) hx hb dL_delivered_6 (by decide) (fun c1 => ?_) (fun c1 => ?_)
  · have h := ifp c1 h
    refine lv_iconst (v := 0) hx hb dL_delivered_13 (by decide) ?_
    cases h
    exact eI hx hb hr hlocks hM hS dL_delivered_14 (Nat.le_of_ble_eq_true rfl) (Nat.le_of_ble_eq_true rfl)
  · have h := ifn c1 h
    refine lv_iconst (v := 1) hx hb dL_delivered_9 (by decide) ?_
    refine lv_goto (tgt := 14) hx hb dL_delivered_10 (by decide) ?_
    cases h
    exact eI hx hb hr hlocks hM hS dL_delivered_14 (Nat.le_of_ble_eq_true rfl) (Nat.le_of_ble_eq_true rfl)

theorem dd_L_dropped : yL_dropped.cls ≠ "java/lang/invoke/MethodHandle" ∧ yL_dropped.cls ≠ "java/lang/invoke/VarHandle" ∧ (parseMethodDescriptor yL_dropped.desc).map (fun d => d.parameters.length) = some 2 := by decide +kernel
abbrev rm_L_dropped : Room := ({ frames := 8, cells := 25, slots := 1359, locals := 145 } : Room)
noncomputable def f_L_dropped (a1 : Nat) (a2 : Int32) (M : Mem) : Option (Int32 × Mem) :=
  bx (cK 5 a1 M (f_X4_drop a1 a2 M)) (fun ex M9 => if ex = 0 then
  some ((-5), (setZ M9 (mZ M9 + 1)))
  else none) fun v1 M2 =>
  some (v1, M2)
set_option maxHeartbeats 4000000 in
set_option maxRecDepth 100000 in
theorem mt_L_dropped (l : Launch) (hfl : l.stackTraces = false) (E : KEnv) (a1 : Nat) (a2 : Int32) (M M' : Mem) (v : Int32) (h : f_L_dropped a1 a2 M = some (v, M')) : Met l yL_dropped (Cond.codeWith yL_dropped cL_dropped 3 (some .int) [(0, 5, 6, 34)] :: lw_G) rm_L_dropped (cPc E [.ref a1, .int a2] M) (cQ E (some (.int v)) M') 25 1359 (eA E) := by
  refine Met_ofWH (cc := cL_dropped) (maxL := 3) (ret := (some .int)) (hh := [(0, 5, 6, 34)]) (by decide) rfl ?_
  intro p e s m args below meth c s₁ B hml hv
  obtain ⟨rfl, hE, hM⟩ := hv
  have hx := B.exec
  have hb := B.bytes
  have hr := B.returns
  have hts0 := atoms_spec (ws := Cond.codeWith yL_dropped cL_dropped 3 (some .int) [(0, 5, 6, 34)] :: lw_G) B.pre
  have hts : ∀ w ∈ lw_G, w.before _ s = true := fun w hw => hts0 w (List.mem_cons_of_mem _ hw)
  have htab := vx_table (x := yL_dropped) B (hts0 _ List.mem_cons_self)
  have hown : s.vm.findClass RL = some m.cls := findClass_of_methodNamed B.named
  have hlocks := B.notSynchronized
  have hC : CallFix p m c cL_dropped 3 s _ lw_G RL := ⟨hx, hb, hml, hown, hts⟩
  have hS : va_S (eA E) s.heap s.heap [] := va_S.rf
  have hl := lv_entry ([.ref a1, .int a2]) (n := 3) (Nat.le_of_ble_eq_true rfl)
  rw [lg_entry_eq]
  generalize (lg_sl ([.ref a1, .int a2]) ++ List.replicate (3 - (lg_sl ([.ref a1, .int a2])).length) Slot.unset).toArray = ls at hl ⊢
  have hl : lv_has ls 3 [(0, .ref a1), (1, .int a2)] := hl
  unfold f_L_dropped at h
  show W p l e rm_L_dropped s m _ below meth c s.heap [] 0 0 _ _
  refine lv_aload_n hx hb dL_dropped_0 rfl (lv_at hl 0 rfl) ?_
  refine lv_iload_n hx hb dL_dropped_1 rfl (lv_at hl 1 rfl) ?_
  rcases obx h with ⟨v1, M2, h1, h⟩ | ⟨ex, M9, h1, h⟩
  rotate_left
  · obtain ⟨hk1, h1⟩ := ifg h1
    by_cases e1 : ex = 0
    · have h := ifp e1 h
      subst e1
      refine kx_hand (hpc := 6) (kx_V (ci := 4) (As := [.int a2]) (rest := []) hC hE hS hM (mt_X4_drop _ hfl E a1 a2 _ _ _ h1) (gwV qw_731 qw_732 qw_733 qw_39 qw_734) ⟨rfl, rfl, (Nat.le_of_ble_eq_true rfl), (Nat.le_of_ble_eq_true rfl)⟩ dd_X4_drop rfl hk1 rfl rfl hl.1 (Nat.le_of_ble_eq_true rfl) dL_dropped_2 ⟨(Nat.le_of_ble_eq_true rfl), (Nat.le_of_ble_eq_true rfl)⟩) hS hown [] (⟨0, 5, 6, 34⟩ : ExceptionTableEntry) [] htab (fun z hz => nomatch hz) (by decide) (by decide) (hts _ qw_554) (va_Nw.use rfl (hE.2.2.2.2.2.2.2.1 (exN 0, exN 0) (by decide))) rfl (fun H locs q9 hM hS => ?_)
      refine lv_astore_n (lv' := [(2, .ref q9), (0, .ref a1), (1, .int a2)]) hx hb dL_dropped_6 rfl hl (by decide) rfl (fun ls hl => ?_)
      refine lv_bipush (v := (-5)) hx hb dL_dropped_7 (by decide) ?_
      cases h
      exact eI hx hb hr hlocks hM hS dL_dropped_9 (Nat.le_of_ble_eq_true rfl) (Nat.le_of_ble_eq_true rfl)
    · have h := ifn e1 h
      cases h
  obtain ⟨hk1, h1⟩ := ifg h1
  refine kx_ok1 (kx_V (ci := 4) (As := [.int a2]) (rest := []) hC hE hS hM (mt_X4_drop _ hfl E a1 a2 _ _ _ h1) (gwV qw_731 qw_732 qw_733 qw_39 qw_734) ⟨rfl, rfl, (Nat.le_of_ble_eq_true rfl), (Nat.le_of_ble_eq_true rfl)⟩ dd_X4_drop rfl hk1 rfl rfl hl.1 (Nat.le_of_ble_eq_true rfl) dL_dropped_2 ⟨(Nat.le_of_ble_eq_true rfl), (Nat.le_of_ble_eq_true rfl)⟩) hS (fun H locs hM hS => ?_)
  cases h
  exact eI hx hb hr hlocks hM hS dL_dropped_5 (Nat.le_of_ble_eq_true rfl) (Nat.le_of_ble_eq_true rfl)

theorem dd_L_tagAt : yL_tagAt.cls ≠ "java/lang/invoke/MethodHandle" ∧ yL_tagAt.cls ≠ "java/lang/invoke/VarHandle" ∧ (parseMethodDescriptor yL_tagAt.desc).map (fun d => d.parameters.length) = some 3 := by decide +kernel
abbrev rm_L_tagAt : Room := ({ frames := 9, cells := 2, slots := 12, locals := 155 } : Room)
noncomputable def f_L_tagAt (a1 : Nat) (a2 : Int32) (a3 : Int32) (M : Mem) : Option (Int32 × Mem) :=
  bx (cK 5 a1 M (f_X4_tagAt a1 a2 a3 M)) (fun ex M9 => if ex = 0 then
  some ((-5), (setZ M9 (mZ M9 + 1)))
  else none) fun v1 M2 =>
  some (v1, M2)
set_option maxHeartbeats 4000000 in
set_option maxRecDepth 100000 in
theorem mt_L_tagAt (l : Launch) (hfl : l.stackTraces = false) (E : KEnv) (a1 : Nat) (a2 : Int32) (a3 : Int32) (M M' : Mem) (v : Int32) (h : f_L_tagAt a1 a2 a3 M = some (v, M')) : Met l yL_tagAt (Cond.codeWith yL_tagAt cL_tagAt 4 (some .int) [(0, 6, 7, 34)] :: lw_G) rm_L_tagAt (cPc E [.ref a1, .int a2, .int a3] M) (cQ E (some (.int v)) M') 2 12 (eA E) := by
  refine Met_ofWH (cc := cL_tagAt) (maxL := 4) (ret := (some .int)) (hh := [(0, 6, 7, 34)]) (by decide) rfl ?_
  intro p e s m args below meth c s₁ B hml hv
  obtain ⟨rfl, hE, hM⟩ := hv
  have hx := B.exec
  have hb := B.bytes
  have hr := B.returns
  have hts0 := atoms_spec (ws := Cond.codeWith yL_tagAt cL_tagAt 4 (some .int) [(0, 6, 7, 34)] :: lw_G) B.pre
  have hts : ∀ w ∈ lw_G, w.before _ s = true := fun w hw => hts0 w (List.mem_cons_of_mem _ hw)
  have htab := vx_table (x := yL_tagAt) B (hts0 _ List.mem_cons_self)
  have hown : s.vm.findClass RL = some m.cls := findClass_of_methodNamed B.named
  have hlocks := B.notSynchronized
  have hC : CallFix p m c cL_tagAt 4 s _ lw_G RL := ⟨hx, hb, hml, hown, hts⟩
  have hS : va_S (eA E) s.heap s.heap [] := va_S.rf
  have hl := lv_entry ([.ref a1, .int a2, .int a3]) (n := 4) (Nat.le_of_ble_eq_true rfl)
  rw [lg_entry_eq]
  generalize (lg_sl ([.ref a1, .int a2, .int a3]) ++ List.replicate (4 - (lg_sl ([.ref a1, .int a2, .int a3])).length) Slot.unset).toArray = ls at hl ⊢
  have hl : lv_has ls 4 [(0, .ref a1), (1, .int a2), (2, .int a3)] := hl
  unfold f_L_tagAt at h
  show W p l e rm_L_tagAt s m _ below meth c s.heap [] 0 0 _ _
  refine lv_aload_n hx hb dL_tagAt_0 rfl (lv_at hl 0 rfl) ?_
  refine lv_iload_n hx hb dL_tagAt_1 rfl (lv_at hl 1 rfl) ?_
  refine lv_iload_n hx hb dL_tagAt_2 rfl (lv_at hl 2 rfl) ?_
  rcases obx h with ⟨v1, M2, h1, h⟩ | ⟨ex, M9, h1, h⟩
  rotate_left
  · obtain ⟨hk1, h1⟩ := ifg h1
    by_cases e1 : ex = 0
    · have h := ifp e1 h
      subst e1
      refine kx_hand (hpc := 7) (kx_V (ci := 4) (As := [.int a2, .int a3]) (rest := []) hC hE hS hM (mt_X4_tagAt _ hfl E a1 a2 a3 _ _ _ h1) (gwV qw_1071 qw_1072 qw_1073 qw_39 qw_1074) ⟨rfl, rfl, (Nat.le_of_ble_eq_true rfl), (Nat.le_of_ble_eq_true rfl)⟩ dd_X4_tagAt rfl hk1 rfl rfl hl.1 (Nat.le_of_ble_eq_true rfl) dL_tagAt_3 ⟨(Nat.le_of_ble_eq_true rfl), (Nat.le_of_ble_eq_true rfl)⟩) hS hown [] (⟨0, 6, 7, 34⟩ : ExceptionTableEntry) [] htab (fun z hz => nomatch hz) (by decide) (by decide) (hts _ qw_554) (va_Nw.use rfl (hE.2.2.2.2.2.2.2.1 (exN 0, exN 0) (by decide))) rfl (fun H locs q9 hM hS => ?_)
      refine lv_astore_n (lv' := [(3, .ref q9), (0, .ref a1), (1, .int a2), (2, .int a3)]) hx hb dL_tagAt_7 rfl hl (by decide) rfl (fun ls hl => ?_)
      refine lv_bipush (v := (-5)) hx hb dL_tagAt_8 (by decide) ?_
      cases h
      exact eI hx hb hr hlocks hM hS dL_tagAt_10 (Nat.le_of_ble_eq_true rfl) (Nat.le_of_ble_eq_true rfl)
    · have h := ifn e1 h
      cases h
  obtain ⟨hk1, h1⟩ := ifg h1
  refine kx_ok1 (kx_V (ci := 4) (As := [.int a2, .int a3]) (rest := []) hC hE hS hM (mt_X4_tagAt _ hfl E a1 a2 a3 _ _ _ h1) (gwV qw_1071 qw_1072 qw_1073 qw_39 qw_1074) ⟨rfl, rfl, (Nat.le_of_ble_eq_true rfl), (Nat.le_of_ble_eq_true rfl)⟩ dd_X4_tagAt rfl hk1 rfl rfl hl.1 (Nat.le_of_ble_eq_true rfl) dL_tagAt_3 ⟨(Nat.le_of_ble_eq_true rfl), (Nat.le_of_ble_eq_true rfl)⟩) hS (fun H locs hM hS => ?_)
  cases h
  exact eI hx hb hr hlocks hM hS dL_tagAt_6 (Nat.le_of_ble_eq_true rfl) (Nat.le_of_ble_eq_true rfl)

theorem dd_L_tagAt_i : yL_tagAt.cls ≠ "java/lang/invoke/MethodHandle" ∧ yL_tagAt.cls ≠ "java/lang/invoke/VarHandle" ∧ (parseMethodDescriptor yL_tagAt.desc).map (fun d => d.parameters.length) = some 3 := by decide +kernel
abbrev rm_L_tagAt_i : Room := ({ frames := 4, cells := 0, slots := 0, locals := 90 } : Room)
noncomputable def f_L_tagAt_i (a1 : Nat) (a2 : Int32) (a3 : Int32) (M : Mem) : Option (Int32 × Mem) :=
  bq (cK 5 a1 M (f_X4_tagAt a1 a2 a3 M)) fun v1 M2 =>
  some (v1, M2)
set_option maxHeartbeats 4000000 in
set_option maxRecDepth 100000 in
theorem mt_L_tagAt_i (l : Launch) (E : KEnv) (a1 : Nat) (a2 : Int32) (a3 : Int32) (M M' : Mem) (v : Int32) (h : f_L_tagAt_i a1 a2 a3 M = some (v, M')) : Met l yL_tagAt (Cond.codeWith yL_tagAt cL_tagAt 4 (some .int) [(0, 6, 7, 34)] :: lw_G) rm_L_tagAt_i (cPc E [.ref a1, .int a2, .int a3] M) (cQ E (some (.int v)) M') 0 0 (eA E) := by
  refine Met_ofWH (cc := cL_tagAt) (maxL := 4) (ret := (some .int)) (hh := [(0, 6, 7, 34)]) (by decide) rfl ?_
  intro p e s m args below meth c s₁ B hml hv
  obtain ⟨rfl, hE, hM⟩ := hv
  have hx := B.exec
  have hb := B.bytes
  have hr := B.returns
  have hts0 := atoms_spec (ws := Cond.codeWith yL_tagAt cL_tagAt 4 (some .int) [(0, 6, 7, 34)] :: lw_G) B.pre
  have hts : ∀ w ∈ lw_G, w.before _ s = true := fun w hw => hts0 w (List.mem_cons_of_mem _ hw)
  have htab := vx_table (x := yL_tagAt) B (hts0 _ List.mem_cons_self)
  have hown : s.vm.findClass RL = some m.cls := findClass_of_methodNamed B.named
  have hlocks := B.notSynchronized
  have hC : CallFix p m c cL_tagAt 4 s _ lw_G RL := ⟨hx, hb, hml, hown, hts⟩
  have hS : va_S (eA E) s.heap s.heap [] := va_S.rf
  have hl := lv_entry ([.ref a1, .int a2, .int a3]) (n := 4) (Nat.le_of_ble_eq_true rfl)
  rw [lg_entry_eq]
  generalize (lg_sl ([.ref a1, .int a2, .int a3]) ++ List.replicate (4 - (lg_sl ([.ref a1, .int a2, .int a3])).length) Slot.unset).toArray = ls at hl ⊢
  have hl : lv_has ls 4 [(0, .ref a1), (1, .int a2), (2, .int a3)] := hl
  unfold f_L_tagAt_i at h
  show W p l e rm_L_tagAt_i s m _ below meth c s.heap [] 0 0 _ _
  refine lv_aload_n hx hb dL_tagAt_0 rfl (lv_at hl 0 rfl) ?_
  refine lv_iload_n hx hb dL_tagAt_1 rfl (lv_at hl 1 rfl) ?_
  refine lv_iload_n hx hb dL_tagAt_2 rfl (lv_at hl 2 rfl) ?_
  obtain ⟨v1, M2, h1, h⟩ := obq h
  obtain ⟨hk1, h1⟩ := ifg h1
  refine kV1 (ci := 4) (As := [.int a2, .int a3]) (rest := []) hC hE hS hM (mq_X4_tagAt _ E a1 a2 a3 _ _ _ h1) (gwV qw_1071 qw_1072 qw_1073 qw_39 qw_1074) ⟨rfl, rfl, (Nat.le_of_ble_eq_true rfl), (Nat.le_of_ble_eq_true rfl)⟩ dd_X4_tagAt rfl hk1 rfl rfl hl.1 (Nat.le_of_ble_eq_true rfl) dL_tagAt_3 ⟨(Nat.le_of_ble_eq_true rfl), (Nat.le_of_ble_eq_true rfl)⟩ (fun H locs hM hS => ?_)
  cases h
  exact eI hx hb hr hlocks hM hS dL_tagAt_6 (Nat.le_of_ble_eq_true rfl) (Nat.le_of_ble_eq_true rfl)
