/-! the words of the methods with tables -/
theorem qz_L_append : (Cond.codeWith yL_append cL_append 8 (some .int) [(0, 16, 19, 13)]) ∈ lw_G := lw_Gof 594 (by decide +kernel) (by decide +kernel)
theorem qz_L_load : (Cond.codeWith yL_load cL_load 4 (some .int) [(0, 9, 12, 19), (0, 9, 15, 21)]) ∈ lw_G := lw_Gof 673 (by decide +kernel) (by decide +kernel)
theorem qz_L_versionEntry : (Cond.codeWith yL_versionEntry cL_versionEntry 5 (some .int) [(0, 10, 13, 19)]) ∈ lw_G := lw_Gof 718 (by decide +kernel) (by decide +kernel)
theorem qz_L_areEqual : (Cond.codeWith yL_areEqual cL_areEqual 5 (some .int) [(0, 17, 20, 19)]) ∈ lw_G := lw_Gof 738 (by decide +kernel) (by decide +kernel)
theorem qz_L_covers : (Cond.codeWith yL_covers cL_covers 5 (some .int) [(0, 17, 20, 19)]) ∈ lw_G := lw_Gof 745 (by decide +kernel) (by decide +kernel)
theorem qz_L_areConcurrent : (Cond.codeWith yL_areConcurrent cL_areConcurrent 5 (some .int) [(0, 17, 20, 19)]) ∈ lw_G := lw_Gof 752 (by decide +kernel) (by decide +kernel)
theorem qz_L_counterValue : (Cond.codeWith yL_counterValue cL_counterValue 5 (some .int) [(0, 10, 13, 19)]) ∈ lw_G := lw_Gof 759 (by decide +kernel) (by decide +kernel)
theorem qz_L_increments : (Cond.codeWith yL_increments cL_increments 6 (some .int) [(0, 12, 15, 19)]) ∈ lw_G := lw_Gof 779 (by decide +kernel) (by decide +kernel)
theorem qz_L_decrements : (Cond.codeWith yL_decrements cL_decrements 6 (some .int) [(0, 12, 15, 19)]) ∈ lw_G := lw_Gof 791 (by decide +kernel) (by decide +kernel)
theorem qz_L_hasTag : (Cond.codeWith yL_hasTag cL_hasTag 5 (some .int) [(0, 17, 20, 19)]) ∈ lw_G := lw_Gof 798 (by decide +kernel) (by decide +kernel)
theorem qz_L_liveDots : (Cond.codeWith yL_liveDots cL_liveDots 5 (some .int) [(0, 10, 13, 19)]) ∈ lw_G := lw_Gof 815 (by decide +kernel) (by decide +kernel)
theorem qz_L_tagDot : (Cond.codeWith yL_tagDot cL_tagDot 6 (some .int) [(0, 12, 15, 19)]) ∈ lw_G := lw_Gof 819 (by decide +kernel) (by decide +kernel)
theorem qz_L_tagCount : (Cond.codeWith yL_tagCount cL_tagCount 4 (some .int) [(0, 9, 12, 19)]) ∈ lw_G := lw_Gof 830 (by decide +kernel) (by decide +kernel)
theorem qz_L_tagAt : (Cond.codeWith yL_tagAt cL_tagAt 5 (some .int) [(0, 10, 13, 19)]) ∈ lw_G := lw_Gof 837 (by decide +kernel) (by decide +kernel)
theorem qz_L_entryCount : (Cond.codeWith yL_entryCount cL_entryCount 5 (some .int) [(0, 10, 13, 19)]) ∈ lw_G := lw_Gof 848 (by decide +kernel) (by decide +kernel)
theorem qz_L_entryValue : (Cond.codeWith yL_entryValue cL_entryValue 6 (some .int) [(0, 12, 15, 19)]) ∈ lw_G := lw_Gof 861 (by decide +kernel) (by decide +kernel)
theorem qz_L_greatestValue : (Cond.codeWith yL_greatestValue cL_greatestValue 5 (some .int) [(0, 10, 13, 19)]) ∈ lw_G := lw_Gof 872 (by decide +kernel) (by decide +kernel)
theorem qz_L_conflicts : (Cond.codeWith yL_conflicts cL_conflicts 4 (some .int) [(0, 9, 12, 19)]) ∈ lw_G := lw_Gof 880 (by decide +kernel) (by decide +kernel)
theorem qz_L_unseenDots : (Cond.codeWith yL_unseenDots cL_unseenDots 5 (some .int) [(0, 10, 13, 19)]) ∈ lw_G := lw_Gof 887 (by decide +kernel) (by decide +kernel)
theorem qz_L_deltaSize : (Cond.codeWith yL_deltaSize cL_deltaSize 5 (some .int) [(0, 10, 13, 19)]) ∈ lw_G := lw_Gof 894 (by decide +kernel) (by decide +kernel)
theorem qz_L_tagsGained : (Cond.codeWith yL_tagsGained cL_tagsGained 5 (some .int) [(0, 10, 13, 19)]) ∈ lw_G := lw_Gof 905 (by decide +kernel) (by decide +kernel)
theorem qz_L_tagsLost : (Cond.codeWith yL_tagsLost cL_tagsLost 5 (some .int) [(0, 10, 13, 19)]) ∈ lw_G := lw_Gof 916 (by decide +kernel) (by decide +kernel)
theorem qz_L_mergedValue : (Cond.codeWith yL_mergedValue cL_mergedValue 4 (some .int) [(0, 9, 12, 19)]) ∈ lw_G := lw_Gof 923 (by decide +kernel) (by decide +kernel)
theorem qz_L_senderOf : (Cond.codeWith yL_senderOf cL_senderOf 4 (some .int) [(0, 9, 12, 19)]) ∈ lw_G := lw_Gof 930 (by decide +kernel) (by decide +kernel)
theorem qz_L_isNews : (Cond.codeWith yL_isNews cL_isNews 5 (some .int) [(0, 17, 20, 19)]) ∈ lw_G := lw_Gof 942 (by decide +kernel) (by decide +kernel)
theorem qz_L_increment : (Cond.codeWith yL_increment cL_increment 6 (some .int) [(0, 12, 15, 19), (0, 12, 19, 21)]) ∈ lw_G := lw_Gof 949 (by decide +kernel) (by decide +kernel)
theorem qz_L_decrement : (Cond.codeWith yL_decrement cL_decrement 6 (some .int) [(0, 12, 15, 19), (0, 12, 19, 21)]) ∈ lw_G := lw_Gof 962 (by decide +kernel) (by decide +kernel)
theorem qz_L_addTag : (Cond.codeWith yL_addTag cL_addTag 5 (some .int) [(0, 10, 13, 19)]) ∈ lw_G := lw_Gof 969 (by decide +kernel) (by decide +kernel)
theorem qz_L_removeTag : (Cond.codeWith yL_removeTag cL_removeTag 5 (some .int) [(0, 10, 13, 19), (0, 10, 17, 13)]) ∈ lw_G := lw_Gof 977 (by decide +kernel) (by decide +kernel)
theorem qz_L_write : (Cond.codeWith yL_write cL_write 6 (some .int) [(0, 12, 15, 19), (0, 12, 19, 21)]) ∈ lw_G := lw_Gof 986 (by decide +kernel) (by decide +kernel)
theorem qz_L_merge : (Cond.codeWith yL_merge cL_merge 5 (some .int) [(0, 17, 20, 19)]) ∈ lw_G := lw_Gof 995 (by decide +kernel) (by decide +kernel)
theorem qz_L_send : (Cond.codeWith yL_send cL_send 4 (some .int) [(0, 9, 12, 19), (0, 9, 15, 13)]) ∈ lw_G := lw_Gof 1006 (by decide +kernel) (by decide +kernel)
theorem qz_L_deliver : (Cond.codeWith yL_deliver cL_deliver 5 (some .int) [(0, 17, 20, 19)]) ∈ lw_G := lw_Gof 1015 (by decide +kernel) (by decide +kernel)
theorem qz_L_drop : (Cond.codeWith yL_drop cL_drop 4 (some .int) [(0, 9, 12, 19)]) ∈ lw_G := lw_Gof 1022 (by decide +kernel) (by decide +kernel)
theorem qz_L_restore : (Cond.codeWith yL_restore cL_restore 4 (some .int) [(0, 9, 12, 19), (0, 9, 15, 13)]) ∈ lw_G := lw_Gof 1033 (by decide +kernel) (by decide +kernel)
theorem qz_L_undo : (Cond.codeWith yL_undo cL_undo 3 (some .int) [(0, 8, 11, 13)]) ∈ lw_G := lw_Gof 1047 (by decide +kernel) (by decide +kernel)
theorem qz_L_save : (Cond.codeWith yL_save cL_save 4 (some .int) [(0, 9, 12, 19)]) ∈ lw_G := lw_Gof 1059 (by decide +kernel) (by decide +kernel)
theorem qz_L_writeTags : (Cond.codeWith yL_writeTags cL_writeTags 4 (some .int) [(0, 9, 12, 19)]) ∈ lw_G := lw_Gof 1066 (by decide +kernel) (by decide +kernel)
theorem qz_L_writeRegister : (Cond.codeWith yL_writeRegister cL_writeRegister 5 (some .int) [(0, 10, 13, 19)]) ∈ lw_G := lw_Gof 1077 (by decide +kernel) (by decide +kernel)
theorem qz_L_outputByte : (Cond.codeWith yL_outputByte cL_outputByte 4 (some .int) [(0, 9, 12, 19)]) ∈ lw_G := lw_Gof 1088 (by decide +kernel) (by decide +kernel)
theorem dd_L_append : yL_append.cls ≠ "java/lang/invoke/MethodHandle" ∧ yL_append.cls ≠ "java/lang/invoke/VarHandle" ∧ (parseMethodDescriptor yL_append.desc).map (fun d => d.parameters.length) = some 7 := by decide +kernel
abbrev rm_L_append : Room := ({ frames := 7, cells := 1, slots := 6, locals := 115 } : Room)
noncomputable def f_L_append (x : Nat) (a1 : Int32) (a2 : Int32) (a3 : Int32) (a4 : Int32) (a5 : Int32) (out : Nat) (M : Mem) : Option (Int32 × Mem) :=
  bx (cK 5 x M (f_X4_append x a1 a2 a3 a4 a5 M)) (hnd1 2) fun v1 M2 =>
  (sL out 0 v1.toInt64 M2).bind fun M3 =>
  some (0, M3)
set_option maxHeartbeats 4000000 in
set_option maxRecDepth 100000 in
theorem mt_L_append (l : Launch) (hfl : l.stackTraces = false) (E : KEnv) (x : Nat) (a1 : Int32) (a2 : Int32) (a3 : Int32) (a4 : Int32) (a5 : Int32) (out : Nat) (M M' : Mem) (v : Int32) (h : f_L_append x a1 a2 a3 a4 a5 out M = some (v, M')) : Met l yL_append (Cond.codeWith yL_append cL_append 8 (some .int) [(0, 16, 19, 13)] :: lw_G) rm_L_append (cPc E [.ref x, .int a1, .int a2, .int a3, .int a4, .int a5, .ref out] M) (cQz E (some (.int v)) M') 1 6 (eA E) := by
  refine Met_ofWH (cc := cL_append) (maxL := 8) (ret := (some .int)) (hh := [(0, 16, 19, 13)]) (by decide) rfl ?_
  intro p e s m args below meth c s₁ B hml hv
  obtain ⟨rfl, hE, hM⟩ := hv
  have hx := B.exec
  have hb := B.bytes
  have hr := B.returns
  have hts0 := atoms_spec (ws := Cond.codeWith yL_append cL_append 8 (some .int) [(0, 16, 19, 13)] :: lw_G) B.pre
  have hts : ∀ w ∈ lw_G, w.before _ s = true := fun w hw => hts0 w (List.mem_cons_of_mem _ hw)
  have htab := vx_table (x := yL_append) B (hts0 _ List.mem_cons_self)
  have hown : s.vm.findClass RL = some m.cls := findClass_of_methodNamed B.named
  have hlocks := B.notSynchronized
  have hC : CallFix p m c cL_append 8 s _ lw_G RL := ⟨hx, hb, hml, hown, hts⟩
  have hS : va_S (eA E) s.heap s.heap [] := va_S.rf
  have hl := lv_entry ([.ref x, .int a1, .int a2, .int a3, .int a4, .int a5, .ref out]) (n := 8) (Nat.le_of_ble_eq_true rfl)
  rw [lg_entry_eq]
  generalize (lg_sl ([.ref x, .int a1, .int a2, .int a3, .int a4, .int a5, .ref out]) ++ List.replicate (8 - (lg_sl ([.ref x, .int a1, .int a2, .int a3, .int a4, .int a5, .ref out])).length) Slot.unset).toArray = ls at hl ⊢
  have hl : lv_has ls 8 [(0, .ref x), (1, .int a1), (2, .int a2), (3, .int a3), (4, .int a4), (5, .int a5), (6, .ref out)] := hl
  unfold f_L_append at h
  show W p l e rm_L_append s m _ below meth c s.heap [] 0 0 _ _
  refine lv_aload hx hb dL_append_0 (lv_at hl 6 rfl) ?_
  refine lv_iconst (v := 0) hx hb dL_append_2 (by decide) ?_
  refine lv_aload_n hx hb dL_append_3 rfl (lv_at hl 0 rfl) ?_
  refine lv_iload_n hx hb dL_append_4 rfl (lv_at hl 1 rfl) ?_
  refine lv_iload_n hx hb dL_append_5 rfl (lv_at hl 2 rfl) ?_
  refine lv_iload_n hx hb dL_append_6 rfl (lv_at hl 3 rfl) ?_
  refine lv_iload hx hb dL_append_7 (lv_at hl 4 rfl) ?_
  refine lv_iload hx hb dL_append_9 (lv_at hl 5 rfl) ?_
  rcases obx h with ⟨v1, M2, h1, h⟩ | ⟨ex, M9, h1, h⟩
  rotate_left
  · obtain ⟨hk1, h1⟩ := ifg h1
    unfold hnd1 at h
    obtain ⟨e1, h⟩ := ifg h
    subst e1
    cases h
    refine kx_hand (hpc := 19) (kx_V (ci := 4) (As := [.int a1, .int a2, .int a3, .int a4, .int a5]) (rest := [.int 0, .ref out]) hC hE hS hM (mt_X4_append _ hfl E x a1 a2 a3 a4 a5 _ _ _ h1) (gwV qw_596 qw_597 qw_598 qw_92 qw_599) ⟨rfl, rfl, (Nat.le_of_ble_eq_true rfl), (Nat.le_of_ble_eq_true rfl)⟩ dd_X4_append rfl hk1 rfl rfl hl.1 (Nat.le_of_ble_eq_true rfl) dL_append_11 ⟨(Nat.le_of_ble_eq_true rfl), (Nat.le_of_ble_eq_true rfl)⟩) hS hown [] (⟨0, 16, 19, 13⟩ : ExceptionTableEntry) [] htab (fun z hz => nomatch hz) (by decide) (by decide) (hts _ qw_595) (va_Nw.use rfl (hE.2.2.2.2.2.2.2.1 (exN 2, exN 2) (by decide))) rfl (fun H locs z q9 hM hS => ?_)
    refine lv_astore (lv' := [(7, .ref q9), (0, .ref x), (1, .int a1), (2, .int a2), (3, .int a3), (4, .int a4), (5, .int a5), (6, .ref out)]) hx hb dL_append_19 hl (by decide) rfl (fun ls hl => ?_)
    refine lv_iconst (v := 1) hx hb dL_append_21 (by decide) ?_
    exact eIz hx hb hr hlocks hM hS dL_append_22 (Nat.le_of_ble_eq_true rfl) (Nat.le_of_ble_eq_true rfl)
  obtain ⟨hk1, h1⟩ := ifg h1
  refine kx_ok1 (kx_V (ci := 4) (As := [.int a1, .int a2, .int a3, .int a4, .int a5]) (rest := [.int 0, .ref out]) hC hE hS hM (mt_X4_append _ hfl E x a1 a2 a3 a4 a5 _ _ _ h1) (gwV qw_596 qw_597 qw_598 qw_92 qw_599) ⟨rfl, rfl, (Nat.le_of_ble_eq_true rfl), (Nat.le_of_ble_eq_true rfl)⟩ dd_X4_append rfl hk1 rfl rfl hl.1 (Nat.le_of_ble_eq_true rfl) dL_append_11 ⟨(Nat.le_of_ble_eq_true rfl), (Nat.le_of_ble_eq_true rfl)⟩) hS (fun H locs hM hS => ?_)
  refine lv_i2l (v := v1.toInt64) hx hb dL_append_14 rfl ?_
  obtain ⟨M3, h1, h⟩ := ob h
  refine r_last hx hb hE hM hS h1 dL_append_15 (fun H locs hM hS => ?_)
  refine lv_goto (tgt := 23) hx hb dL_append_16 (by decide) ?_
  refine lv_iconst (v := 0) hx hb dL_append_23 (by decide) ?_
  cases h
  exact eIz (z := mZ M') hx hb hr hlocks (show MOK E (setZ M' (mZ M')) _ from hM) hS dL_append_24 (Nat.le_of_ble_eq_true rfl) (Nat.le_of_ble_eq_true rfl)

theorem dd_L_load : yL_load.cls ≠ "java/lang/invoke/MethodHandle" ∧ yL_load.cls ≠ "java/lang/invoke/VarHandle" ∧ (parseMethodDescriptor yL_load.desc).map (fun d => d.parameters.length) = some 3 := by decide +kernel
abbrev rm_L_load : Room := ({ frames := 8, cells := 2, slots := 14, locals := 251 } : Room)
noncomputable def f_L_load (x : Nat) (a1 : Int32) (out : Nat) (M : Mem) : Option (Int32 × Mem) :=
  bx (cK 5 x M (f_X4_load x a1 M)) (hnd2 0 1) fun v1 M2 =>
  (sL out 0 v1.toInt64 M2).bind fun M3 =>
  some (0, M3)
set_option maxHeartbeats 4000000 in
set_option maxRecDepth 100000 in
theorem mt_L_load (l : Launch) (hfl : l.stackTraces = false) (E : KEnv) (x : Nat) (a1 : Int32) (out : Nat) (M M' : Mem) (v : Int32) (h : f_L_load x a1 out M = some (v, M')) : Met l yL_load (Cond.codeWith yL_load cL_load 4 (some .int) [(0, 9, 12, 19), (0, 9, 15, 21)] :: lw_G) rm_L_load (cPc E [.ref x, .int a1, .ref out] M) (cQz E (some (.int v)) M') 2 14 (eA E) := by
  refine Met_ofWH (cc := cL_load) (maxL := 4) (ret := (some .int)) (hh := [(0, 9, 12, 19), (0, 9, 15, 21)]) (by decide) rfl ?_
  intro p e s m args below meth c s₁ B hml hv
  obtain ⟨rfl, hE, hM⟩ := hv
  have hx := B.exec
  have hb := B.bytes
  have hr := B.returns
  have hts0 := atoms_spec (ws := Cond.codeWith yL_load cL_load 4 (some .int) [(0, 9, 12, 19), (0, 9, 15, 21)] :: lw_G) B.pre
  have hts : ∀ w ∈ lw_G, w.before _ s = true := fun w hw => hts0 w (List.mem_cons_of_mem _ hw)
  have htab := vx_table (x := yL_load) B (hts0 _ List.mem_cons_self)
  have hown : s.vm.findClass RL = some m.cls := findClass_of_methodNamed B.named
  have hlocks := B.notSynchronized
  have hC : CallFix p m c cL_load 4 s _ lw_G RL := ⟨hx, hb, hml, hown, hts⟩
  have hS : va_S (eA E) s.heap s.heap [] := va_S.rf
  have hl := lv_entry ([.ref x, .int a1, .ref out]) (n := 4) (Nat.le_of_ble_eq_true rfl)
  rw [lg_entry_eq]
  generalize (lg_sl ([.ref x, .int a1, .ref out]) ++ List.replicate (4 - (lg_sl ([.ref x, .int a1, .ref out])).length) Slot.unset).toArray = ls at hl ⊢
  have hl : lv_has ls 4 [(0, .ref x), (1, .int a1), (2, .ref out)] := hl
  unfold f_L_load at h
  show W p l e rm_L_load s m _ below meth c s.heap [] 0 0 _ _
  refine lv_aload_n hx hb dL_load_0 rfl (lv_at hl 2 rfl) ?_
  refine lv_iconst (v := 0) hx hb dL_load_1 (by decide) ?_
  refine lv_aload_n hx hb dL_load_2 rfl (lv_at hl 0 rfl) ?_
  refine lv_iload_n hx hb dL_load_3 rfl (lv_at hl 1 rfl) ?_
  rcases obx h with ⟨v1, M2, h1, h⟩ | ⟨ex, M9, h1, h⟩
  rotate_left
  · obtain ⟨hk1, h1⟩ := ifg h1
    unfold hnd2 at h
    by_cases e1 : ex = 0
    · have h := ifp e1 h
      subst e1
      cases h
      refine kx_hand (hpc := 12) (kx_V (ci := 4) (As := [.int a1]) (rest := [.int 0, .ref out]) hC hE hS hM (mt_X4_load _ hfl E x a1 _ _ _ h1) (gwV qw_676 qw_677 qw_678 qw_92 qw_679) ⟨rfl, rfl, (Nat.le_of_ble_eq_true rfl), (Nat.le_of_ble_eq_true rfl)⟩ dd_X4_load rfl hk1 rfl rfl hl.1 (Nat.le_of_ble_eq_true rfl) dL_load_4 ⟨(Nat.le_of_ble_eq_true rfl), (Nat.le_of_ble_eq_true rfl)⟩) hS hown [] (⟨0, 9, 12, 19⟩ : ExceptionTableEntry) [(⟨0, 9, 15, 21⟩ : ExceptionTableEntry)] htab (fun z hz => nomatch hz) (by decide) (by decide) (hts _ qw_674) (va_Nw.use rfl (hE.2.2.2.2.2.2.2.1 (exN 0, exN 0) (by decide))) rfl (fun H locs z q9 hM hS => ?_)
      refine lv_astore_n (lv' := [(3, .ref q9), (0, .ref x), (1, .int a1), (2, .ref out)]) hx hb dL_load_12 rfl hl (by decide) rfl (fun ls hl => ?_)
      refine lv_iconst (v := 1) hx hb dL_load_13 (by decide) ?_
      exact eIz hx hb hr hlocks hM hS dL_load_14 (Nat.le_of_ble_eq_true rfl) (Nat.le_of_ble_eq_true rfl)
    · have h := ifn e1 h
      obtain ⟨e2, h⟩ := ifg h
      subst e2
      cases h
      refine kx_hand (hpc := 15) (kx_V (ci := 4) (As := [.int a1]) (rest := [.int 0, .ref out]) hC hE hS hM (mt_X4_load _ hfl E x a1 _ _ _ h1) (gwV qw_676 qw_677 qw_678 qw_92 qw_679) ⟨rfl, rfl, (Nat.le_of_ble_eq_true rfl), (Nat.le_of_ble_eq_true rfl)⟩ dd_X4_load rfl hk1 rfl rfl hl.1 (Nat.le_of_ble_eq_true rfl) dL_load_4 ⟨(Nat.le_of_ble_eq_true rfl), (Nat.le_of_ble_eq_true rfl)⟩) hS hown [(⟨0, 9, 12, 19⟩ : ExceptionTableEntry)] (⟨0, 9, 15, 21⟩ : ExceptionTableEntry) [] htab (fun z hz => by rw [List.mem_singleton.mp hz]; exact Or.inr ⟨by decide, _, hts _ qw_674, hE.2.2.2.2.2.2.2.2.2.2.2 (exN 1, "java/lang/IndexOutOfBoundsException") (by decide)⟩) (by decide) (by decide) (hts _ qw_675) (va_Nw.use rfl (hE.2.2.2.2.2.2.2.1 (exN 1, exN 1) (by decide))) rfl (fun H locs z q9 hM hS => ?_)
      refine lv_astore_n (lv' := [(3, .ref q9), (0, .ref x), (1, .int a1), (2, .ref out)]) hx hb dL_load_15 rfl hl (by decide) rfl (fun ls hl => ?_)
      refine lv_iconst (v := 2) hx hb dL_load_16 (by decide) ?_
      exact eIz hx hb hr hlocks hM hS dL_load_17 (Nat.le_of_ble_eq_true rfl) (Nat.le_of_ble_eq_true rfl)
  obtain ⟨hk1, h1⟩ := ifg h1
  refine kx_ok1 (kx_V (ci := 4) (As := [.int a1]) (rest := [.int 0, .ref out]) hC hE hS hM (mt_X4_load _ hfl E x a1 _ _ _ h1) (gwV qw_676 qw_677 qw_678 qw_92 qw_679) ⟨rfl, rfl, (Nat.le_of_ble_eq_true rfl), (Nat.le_of_ble_eq_true rfl)⟩ dd_X4_load rfl hk1 rfl rfl hl.1 (Nat.le_of_ble_eq_true rfl) dL_load_4 ⟨(Nat.le_of_ble_eq_true rfl), (Nat.le_of_ble_eq_true rfl)⟩) hS (fun H locs hM hS => ?_)
  refine lv_i2l (v := v1.toInt64) hx hb dL_load_7 rfl ?_
  obtain ⟨M3, h1, h⟩ := ob h
  refine r_last hx hb hE hM hS h1 dL_load_8 (fun H locs hM hS => ?_)
  refine lv_goto (tgt := 18) hx hb dL_load_9 (by decide) ?_
  refine lv_iconst (v := 0) hx hb dL_load_18 (by decide) ?_
  cases h
  exact eIz (z := mZ M') hx hb hr hlocks (show MOK E (setZ M' (mZ M')) _ from hM) hS dL_load_19 (Nat.le_of_ble_eq_true rfl) (Nat.le_of_ble_eq_true rfl)

theorem dd_L_versionEntry : yL_versionEntry.cls ≠ "java/lang/invoke/MethodHandle" ∧ yL_versionEntry.cls ≠ "java/lang/invoke/VarHandle" ∧ (parseMethodDescriptor yL_versionEntry.desc).map (fun d => d.parameters.length) = some 4 := by decide +kernel
abbrev rm_L_versionEntry : Room := ({ frames := 9, cells := 2, slots := 12, locals := 155 } : Room)
noncomputable def f_L_versionEntry (x : Nat) (a1 : Int32) (a2 : Int32) (out : Nat) (M : Mem) : Option (Int32 × Mem) :=
  bx (cK 5 x M (f_X4_versionEntry x a1 a2 M)) (hnd1 0) fun v1 M2 =>
  (sL out 0 v1.toInt64 M2).bind fun M3 =>
  some (0, M3)
set_option maxHeartbeats 4000000 in
set_option maxRecDepth 100000 in
theorem mt_L_versionEntry (l : Launch) (hfl : l.stackTraces = false) (E : KEnv) (x : Nat) (a1 : Int32) (a2 : Int32) (out : Nat) (M M' : Mem) (v : Int32) (h : f_L_versionEntry x a1 a2 out M = some (v, M')) : Met l yL_versionEntry (Cond.codeWith yL_versionEntry cL_versionEntry 5 (some .int) [(0, 10, 13, 19)] :: lw_G) rm_L_versionEntry (cPc E [.ref x, .int a1, .int a2, .ref out] M) (cQz E (some (.int v)) M') 2 12 (eA E) := by
  refine Met_ofWH (cc := cL_versionEntry) (maxL := 5) (ret := (some .int)) (hh := [(0, 10, 13, 19)]) (by decide) rfl ?_
  intro p e s m args below meth c s₁ B hml hv
  obtain ⟨rfl, hE, hM⟩ := hv
  have hx := B.exec
  have hb := B.bytes
  have hr := B.returns
  have hts0 := atoms_spec (ws := Cond.codeWith yL_versionEntry cL_versionEntry 5 (some .int) [(0, 10, 13, 19)] :: lw_G) B.pre
  have hts : ∀ w ∈ lw_G, w.before _ s = true := fun w hw => hts0 w (List.mem_cons_of_mem _ hw)
  have htab := vx_table (x := yL_versionEntry) B (hts0 _ List.mem_cons_self)
  have hown : s.vm.findClass RL = some m.cls := findClass_of_methodNamed B.named
  have hlocks := B.notSynchronized
  have hC : CallFix p m c cL_versionEntry 5 s _ lw_G RL := ⟨hx, hb, hml, hown, hts⟩
  have hS : va_S (eA E) s.heap s.heap [] := va_S.rf
  have hl := lv_entry ([.ref x, .int a1, .int a2, .ref out]) (n := 5) (Nat.le_of_ble_eq_true rfl)
  rw [lg_entry_eq]
  generalize (lg_sl ([.ref x, .int a1, .int a2, .ref out]) ++ List.replicate (5 - (lg_sl ([.ref x, .int a1, .int a2, .ref out])).length) Slot.unset).toArray = ls at hl ⊢
  have hl : lv_has ls 5 [(0, .ref x), (1, .int a1), (2, .int a2), (3, .ref out)] := hl
  unfold f_L_versionEntry at h
  show W p l e rm_L_versionEntry s m _ below meth c s.heap [] 0 0 _ _
  refine lv_aload_n hx hb dL_versionEntry_0 rfl (lv_at hl 3 rfl) ?_
  refine lv_iconst (v := 0) hx hb dL_versionEntry_1 (by decide) ?_
  refine lv_aload_n hx hb dL_versionEntry_2 rfl (lv_at hl 0 rfl) ?_
  refine lv_iload_n hx hb dL_versionEntry_3 rfl (lv_at hl 1 rfl) ?_
  refine lv_iload_n hx hb dL_versionEntry_4 rfl (lv_at hl 2 rfl) ?_
  rcases obx h with ⟨v1, M2, h1, h⟩ | ⟨ex, M9, h1, h⟩
  rotate_left
  · obtain ⟨hk1, h1⟩ := ifg h1
    unfold hnd1 at h
    obtain ⟨e1, h⟩ := ifg h
    subst e1
    cases h
    refine kx_hand (hpc := 13) (kx_V (ci := 4) (As := [.int a1, .int a2]) (rest := [.int 0, .ref out]) hC hE hS hM (mt_X4_versionEntry _ hfl E x a1 a2 _ _ _ h1) (gwV qw_719 qw_720 qw_721 qw_92 qw_722) ⟨rfl, rfl, (Nat.le_of_ble_eq_true rfl), (Nat.le_of_ble_eq_true rfl)⟩ dd_X4_versionEntry rfl hk1 rfl rfl hl.1 (Nat.le_of_ble_eq_true rfl) dL_versionEntry_5 ⟨(Nat.le_of_ble_eq_true rfl), (Nat.le_of_ble_eq_true rfl)⟩) hS hown [] (⟨0, 10, 13, 19⟩ : ExceptionTableEntry) [] htab (fun z hz => nomatch hz) (by decide) (by decide) (hts _ qw_674) (va_Nw.use rfl (hE.2.2.2.2.2.2.2.1 (exN 0, exN 0) (by decide))) rfl (fun H locs z q9 hM hS => ?_)
    refine lv_astore (lv' := [(4, .ref q9), (0, .ref x), (1, .int a1), (2, .int a2), (3, .ref out)]) hx hb dL_versionEntry_13 hl (by decide) rfl (fun ls hl => ?_)
    refine lv_iconst (v := 1) hx hb dL_versionEntry_15 (by decide) ?_
    exact eIz hx hb hr hlocks hM hS dL_versionEntry_16 (Nat.le_of_ble_eq_true rfl) (Nat.le_of_ble_eq_true rfl)
  obtain ⟨hk1, h1⟩ := ifg h1
  refine kx_ok1 (kx_V (ci := 4) (As := [.int a1, .int a2]) (rest := [.int 0, .ref out]) hC hE hS hM (mt_X4_versionEntry _ hfl E x a1 a2 _ _ _ h1) (gwV qw_719 qw_720 qw_721 qw_92 qw_722) ⟨rfl, rfl, (Nat.le_of_ble_eq_true rfl), (Nat.le_of_ble_eq_true rfl)⟩ dd_X4_versionEntry rfl hk1 rfl rfl hl.1 (Nat.le_of_ble_eq_true rfl) dL_versionEntry_5 ⟨(Nat.le_of_ble_eq_true rfl), (Nat.le_of_ble_eq_true rfl)⟩) hS (fun H locs hM hS => ?_)
  refine lv_i2l (v := v1.toInt64) hx hb dL_versionEntry_8 rfl ?_
  obtain ⟨M3, h1, h⟩ := ob h
  refine r_last hx hb hE hM hS h1 dL_versionEntry_9 (fun H locs hM hS => ?_)
  refine lv_goto (tgt := 17) hx hb dL_versionEntry_10 (by decide) ?_
  refine lv_iconst (v := 0) hx hb dL_versionEntry_17 (by decide) ?_
  cases h
  exact eIz (z := mZ M') hx hb hr hlocks (show MOK E (setZ M' (mZ M')) _ from hM) hS dL_versionEntry_18 (Nat.le_of_ble_eq_true rfl) (Nat.le_of_ble_eq_true rfl)

theorem dd_L_areEqual : yL_areEqual.cls ≠ "java/lang/invoke/MethodHandle" ∧ yL_areEqual.cls ≠ "java/lang/invoke/VarHandle" ∧ (parseMethodDescriptor yL_areEqual.desc).map (fun d => d.parameters.length) = some 4 := by decide +kernel
abbrev rm_L_areEqual : Room := ({ frames := 9, cells := 2, slots := 12, locals := 154 } : Room)
noncomputable def f_L_areEqual (x : Nat) (a1 : Int32) (a2 : Int32) (out : Nat) (M : Mem) : Option (Int32 × Mem) :=
  bx (cK 5 x M (f_X4_areEqual x a1 a2 M)) (hnd1 0) fun v1 M2 =>
  (if v1 = 0 then
  (sL out 0 0 M2).bind fun M3 =>
  some (0, M3)
  else
  (sL out 0 1 M2).bind fun M4 =>
  some (0, M4))
set_option maxHeartbeats 4000000 in
set_option maxRecDepth 100000 in
theorem mt_L_areEqual (l : Launch) (hfl : l.stackTraces = false) (E : KEnv) (x : Nat) (a1 : Int32) (a2 : Int32) (out : Nat) (M M' : Mem) (v : Int32) (h : f_L_areEqual x a1 a2 out M = some (v, M')) : Met l yL_areEqual (Cond.codeWith yL_areEqual cL_areEqual 5 (some .int) [(0, 17, 20, 19)] :: lw_G) rm_L_areEqual (cPc E [.ref x, .int a1, .int a2, .ref out] M) (cQz E (some (.int v)) M') 2 12 (eA E) := by
  refine Met_ofWH (cc := cL_areEqual) (maxL := 5) (ret := (some .int)) (hh := [(0, 17, 20, 19)]) (by decide) rfl ?_
  intro p e s m args below meth c s₁ B hml hv
  obtain ⟨rfl, hE, hM⟩ := hv
  have hx := B.exec
  have hb := B.bytes
  have hr := B.returns
  have hts0 := atoms_spec (ws := Cond.codeWith yL_areEqual cL_areEqual 5 (some .int) [(0, 17, 20, 19)] :: lw_G) B.pre
  have hts : ∀ w ∈ lw_G, w.before _ s = true := fun w hw => hts0 w (List.mem_cons_of_mem _ hw)
  have htab := vx_table (x := yL_areEqual) B (hts0 _ List.mem_cons_self)
  have hown : s.vm.findClass RL = some m.cls := findClass_of_methodNamed B.named
  have hlocks := B.notSynchronized
  have hC : CallFix p m c cL_areEqual 5 s _ lw_G RL := ⟨hx, hb, hml, hown, hts⟩
  have hS : va_S (eA E) s.heap s.heap [] := va_S.rf
  have hl := lv_entry ([.ref x, .int a1, .int a2, .ref out]) (n := 5) (Nat.le_of_ble_eq_true rfl)
  rw [lg_entry_eq]
  generalize (lg_sl ([.ref x, .int a1, .int a2, .ref out]) ++ List.replicate (5 - (lg_sl ([.ref x, .int a1, .int a2, .ref out])).length) Slot.unset).toArray = ls at hl ⊢
  have hl : lv_has ls 5 [(0, .ref x), (1, .int a1), (2, .int a2), (3, .ref out)] := hl
  unfold f_L_areEqual at h
  show W p l e rm_L_areEqual s m _ below meth c s.heap [] 0 0 _ _
  refine lv_aload_n hx hb dL_areEqual_0 rfl (lv_at hl 3 rfl) ?_
  refine lv_iconst (v := 0) hx hb dL_areEqual_1 (by decide) ?_
  refine lv_aload_n hx hb dL_areEqual_2 rfl (lv_at hl 0 rfl) ?_
  refine lv_iload_n hx hb dL_areEqual_3 rfl (lv_at hl 1 rfl) ?_
  refine lv_iload_n hx hb dL_areEqual_4 rfl (lv_at hl 2 rfl) ?_
  rcases obx h with ⟨v1, M2, h1, h⟩ | ⟨ex, M9, h1, h⟩
  rotate_left
  · obtain ⟨hk1, h1⟩ := ifg h1
    unfold hnd1 at h
    obtain ⟨e1, h⟩ := ifg h
    subst e1
    cases h
    refine kx_hand (hpc := 20) (kx_V (ci := 4) (As := [.int a1, .int a2]) (rest := [.int 0, .ref out]) hC hE hS hM (mt_X4_areEqual _ hfl E x a1 a2 _ _ _ h1) (gwV qw_739 qw_740 qw_741 qw_92 qw_742) ⟨rfl, rfl, (Nat.le_of_ble_eq_true rfl), (Nat.le_of_ble_eq_true rfl)⟩ dd_X4_areEqual rfl hk1 rfl rfl hl.1 (Nat.le_of_ble_eq_true rfl) dL_areEqual_5 ⟨(Nat.le_of_ble_eq_true rfl), (Nat.le_of_ble_eq_true rfl)⟩) hS hown [] (⟨0, 17, 20, 19⟩ : ExceptionTableEntry) [] htab (fun z hz => nomatch hz) (by decide) (by decide) (hts _ qw_674) (va_Nw.use rfl (hE.2.2.2.2.2.2.2.1 (exN 0, exN 0) (by decide))) rfl (fun H locs z q9 hM hS => ?_)
    refine lv_astore (lv' := [(4, .ref q9), (0, .ref x), (1, .int a1), (2, .int a2), (3, .ref out)]) hx hb dL_areEqual_20 hl (by decide) rfl (fun ls hl => ?_)
    refine lv_iconst (v := 1) hx hb dL_areEqual_22 (by decide) ?_
    exact eIz hx hb hr hlocks hM hS dL_areEqual_23 (Nat.le_of_ble_eq_true rfl) (Nat.le_of_ble_eq_true rfl)
  obtain ⟨hk1, h1⟩ := ifg h1
  refine kx_ok1 (kx_V (ci := 4) (As := [.int a1, .int a2]) (rest := [.int 0, .ref out]) hC hE hS hM (mt_X4_areEqual _ hfl E x a1 a2 _ _ _ h1) (gwV qw_739 qw_740 qw_741 qw_92 qw_742) ⟨rfl, rfl, (Nat.le_of_ble_eq_true rfl), (Nat.le_of_ble_eq_true rfl)⟩ dd_X4_areEqual rfl hk1 rfl rfl hl.1 (Nat.le_of_ble_eq_true rfl) dL_areEqual_5 ⟨(Nat.le_of_ble_eq_true rfl), (Nat.le_of_ble_eq_true rfl)⟩) hS (fun H locs hM hS => ?_)
  refine lv_if_eq (tgt := 15) hx hb dL_areEqual_8 (by decide) (fun c1 => ?_) (fun c1 => ?_)
  · have h := ifp c1 h
    refine lv_lconst (v := 0) hx hb dL_areEqual_15 (by decide) ?_
    obtain ⟨M3, h1, h⟩ := ob h
    refine r_last hx hb hE hM hS h1 dL_areEqual_16 (fun H locs hM hS => ?_)
    refine lv_goto (tgt := 24) hx hb dL_areEqual_17 (by decide) ?_
    refine lv_iconst (v := 0) hx hb dL_areEqual_24 (by decide) ?_
    cases h
    exact eIz (z := mZ M') hx hb hr hlocks (show MOK E (setZ M' (mZ M')) _ from hM) hS dL_areEqual_25 (Nat.le_of_ble_eq_true rfl) (Nat.le_of_ble_eq_true rfl)
  · have h := ifn c1 h
    refine lv_lconst (v := 1) hx hb dL_areEqual_11 (by decide) ?_
    refine lv_goto (tgt := 16) hx hb dL_areEqual_12 (by decide) ?_
    obtain ⟨M4, h1, h⟩ := ob h
    refine r_last hx hb hE hM hS h1 dL_areEqual_16 (fun H locs hM hS => ?_)
    refine lv_goto (tgt := 24) hx hb dL_areEqual_17 (by decide) ?_
    refine lv_iconst (v := 0) hx hb dL_areEqual_24 (by decide) ?_
    cases h
    exact eIz (z := mZ M') hx hb hr hlocks (show MOK E (setZ M' (mZ M')) _ from hM) hS dL_areEqual_25 (Nat.le_of_ble_eq_true rfl) (Nat.le_of_ble_eq_true rfl)

theorem dd_L_covers : yL_covers.cls ≠ "java/lang/invoke/MethodHandle" ∧ yL_covers.cls ≠ "java/lang/invoke/VarHandle" ∧ (parseMethodDescriptor yL_covers.desc).map (fun d => d.parameters.length) = some 4 := by decide +kernel
abbrev rm_L_covers : Room := ({ frames := 9, cells := 2, slots := 12, locals := 154 } : Room)
noncomputable def f_L_covers (x : Nat) (a1 : Int32) (a2 : Int32) (out : Nat) (M : Mem) : Option (Int32 × Mem) :=
  bx (cK 5 x M (f_X4_covers x a1 a2 M)) (hnd1 0) fun v1 M2 =>
  (if v1 = 0 then
  (sL out 0 0 M2).bind fun M3 =>
  some (0, M3)
  else
  (sL out 0 1 M2).bind fun M4 =>
  some (0, M4))
set_option maxHeartbeats 4000000 in
set_option maxRecDepth 100000 in
theorem mt_L_covers (l : Launch) (hfl : l.stackTraces = false) (E : KEnv) (x : Nat) (a1 : Int32) (a2 : Int32) (out : Nat) (M M' : Mem) (v : Int32) (h : f_L_covers x a1 a2 out M = some (v, M')) : Met l yL_covers (Cond.codeWith yL_covers cL_covers 5 (some .int) [(0, 17, 20, 19)] :: lw_G) rm_L_covers (cPc E [.ref x, .int a1, .int a2, .ref out] M) (cQz E (some (.int v)) M') 2 12 (eA E) := by
  refine Met_ofWH (cc := cL_covers) (maxL := 5) (ret := (some .int)) (hh := [(0, 17, 20, 19)]) (by decide) rfl ?_
  intro p e s m args below meth c s₁ B hml hv
  obtain ⟨rfl, hE, hM⟩ := hv
  have hx := B.exec
  have hb := B.bytes
  have hr := B.returns
  have hts0 := atoms_spec (ws := Cond.codeWith yL_covers cL_covers 5 (some .int) [(0, 17, 20, 19)] :: lw_G) B.pre
  have hts : ∀ w ∈ lw_G, w.before _ s = true := fun w hw => hts0 w (List.mem_cons_of_mem _ hw)
  have htab := vx_table (x := yL_covers) B (hts0 _ List.mem_cons_self)
  have hown : s.vm.findClass RL = some m.cls := findClass_of_methodNamed B.named
  have hlocks := B.notSynchronized
  have hC : CallFix p m c cL_covers 5 s _ lw_G RL := ⟨hx, hb, hml, hown, hts⟩
  have hS : va_S (eA E) s.heap s.heap [] := va_S.rf
  have hl := lv_entry ([.ref x, .int a1, .int a2, .ref out]) (n := 5) (Nat.le_of_ble_eq_true rfl)
  rw [lg_entry_eq]
  generalize (lg_sl ([.ref x, .int a1, .int a2, .ref out]) ++ List.replicate (5 - (lg_sl ([.ref x, .int a1, .int a2, .ref out])).length) Slot.unset).toArray = ls at hl ⊢
  have hl : lv_has ls 5 [(0, .ref x), (1, .int a1), (2, .int a2), (3, .ref out)] := hl
  unfold f_L_covers at h
  show W p l e rm_L_covers s m _ below meth c s.heap [] 0 0 _ _
  refine lv_aload_n hx hb dL_covers_0 rfl (lv_at hl 3 rfl) ?_
  refine lv_iconst (v := 0) hx hb dL_covers_1 (by decide) ?_
  refine lv_aload_n hx hb dL_covers_2 rfl (lv_at hl 0 rfl) ?_
  refine lv_iload_n hx hb dL_covers_3 rfl (lv_at hl 1 rfl) ?_
  refine lv_iload_n hx hb dL_covers_4 rfl (lv_at hl 2 rfl) ?_
  rcases obx h with ⟨v1, M2, h1, h⟩ | ⟨ex, M9, h1, h⟩
  rotate_left
  · obtain ⟨hk1, h1⟩ := ifg h1
    unfold hnd1 at h
    obtain ⟨e1, h⟩ := ifg h
    subst e1
    cases h
    refine kx_hand (hpc := 20) (kx_V (ci := 4) (As := [.int a1, .int a2]) (rest := [.int 0, .ref out]) hC hE hS hM (mt_X4_covers _ hfl E x a1 a2 _ _ _ h1) (gwV qw_746 qw_747 qw_748 qw_92 qw_749) ⟨rfl, rfl, (Nat.le_of_ble_eq_true rfl), (Nat.le_of_ble_eq_true rfl)⟩ dd_X4_covers rfl hk1 rfl rfl hl.1 (Nat.le_of_ble_eq_true rfl) dL_covers_5 ⟨(Nat.le_of_ble_eq_true rfl), (Nat.le_of_ble_eq_true rfl)⟩) hS hown [] (⟨0, 17, 20, 19⟩ : ExceptionTableEntry) [] htab (fun z hz => nomatch hz) (by decide) (by decide) (hts _ qw_674) (va_Nw.use rfl (hE.2.2.2.2.2.2.2.1 (exN 0, exN 0) (by decide))) rfl (fun H locs z q9 hM hS => ?_)
    refine lv_astore (lv' := [(4, .ref q9), (0, .ref x), (1, .int a1), (2, .int a2), (3, .ref out)]) hx hb dL_covers_20 hl (by decide) rfl (fun ls hl => ?_)
    refine lv_iconst (v := 1) hx hb dL_covers_22 (by decide) ?_
    exact eIz hx hb hr hlocks hM hS dL_covers_23 (Nat.le_of_ble_eq_true rfl) (Nat.le_of_ble_eq_true rfl)
  obtain ⟨hk1, h1⟩ := ifg h1
  refine kx_ok1 (kx_V (ci := 4) (As := [.int a1, .int a2]) (rest := [.int 0, .ref out]) hC hE hS hM (mt_X4_covers _ hfl E x a1 a2 _ _ _ h1) (gwV qw_746 qw_747 qw_748 qw_92 qw_749) ⟨rfl, rfl, (Nat.le_of_ble_eq_true rfl), (Nat.le_of_ble_eq_true rfl)⟩ dd_X4_covers rfl hk1 rfl rfl hl.1 (Nat.le_of_ble_eq_true rfl) dL_covers_5 ⟨(Nat.le_of_ble_eq_true rfl), (Nat.le_of_ble_eq_true rfl)⟩) hS (fun H locs hM hS => ?_)
  refine lv_if_eq (tgt := 15) hx hb dL_covers_8 (by decide) (fun c1 => ?_) (fun c1 => ?_)
  · have h := ifp c1 h
    refine lv_lconst (v := 0) hx hb dL_covers_15 (by decide) ?_
    obtain ⟨M3, h1, h⟩ := ob h
    refine r_last hx hb hE hM hS h1 dL_covers_16 (fun H locs hM hS => ?_)
    refine lv_goto (tgt := 24) hx hb dL_covers_17 (by decide) ?_
    refine lv_iconst (v := 0) hx hb dL_covers_24 (by decide) ?_
    cases h
    exact eIz (z := mZ M') hx hb hr hlocks (show MOK E (setZ M' (mZ M')) _ from hM) hS dL_covers_25 (Nat.le_of_ble_eq_true rfl) (Nat.le_of_ble_eq_true rfl)
  · have h := ifn c1 h
    refine lv_lconst (v := 1) hx hb dL_covers_11 (by decide) ?_
    refine lv_goto (tgt := 16) hx hb dL_covers_12 (by decide) ?_
    obtain ⟨M4, h1, h⟩ := ob h
    refine r_last hx hb hE hM hS h1 dL_covers_16 (fun H locs hM hS => ?_)
    refine lv_goto (tgt := 24) hx hb dL_covers_17 (by decide) ?_
    refine lv_iconst (v := 0) hx hb dL_covers_24 (by decide) ?_
    cases h
    exact eIz (z := mZ M') hx hb hr hlocks (show MOK E (setZ M' (mZ M')) _ from hM) hS dL_covers_25 (Nat.le_of_ble_eq_true rfl) (Nat.le_of_ble_eq_true rfl)

theorem dd_L_areConcurrent : yL_areConcurrent.cls ≠ "java/lang/invoke/MethodHandle" ∧ yL_areConcurrent.cls ≠ "java/lang/invoke/VarHandle" ∧ (parseMethodDescriptor yL_areConcurrent.desc).map (fun d => d.parameters.length) = some 4 := by decide +kernel
abbrev rm_L_areConcurrent : Room := ({ frames := 9, cells := 2, slots := 12, locals := 156 } : Room)
noncomputable def f_L_areConcurrent (x : Nat) (a1 : Int32) (a2 : Int32) (out : Nat) (M : Mem) : Option (Int32 × Mem) :=
  bx (cK 5 x M (f_X4_areConcurrent x a1 a2 M)) (hnd1 0) fun v1 M2 =>
  (if v1 = 0 then
  (sL out 0 0 M2).bind fun M3 =>
  some (0, M3)
  else
  (sL out 0 1 M2).bind fun M4 =>
  some (0, M4))
set_option maxHeartbeats 4000000 in
set_option maxRecDepth 100000 in
theorem mt_L_areConcurrent (l : Launch) (hfl : l.stackTraces = false) (E : KEnv) (x : Nat) (a1 : Int32) (a2 : Int32) (out : Nat) (M M' : Mem) (v : Int32) (h : f_L_areConcurrent x a1 a2 out M = some (v, M')) : Met l yL_areConcurrent (Cond.codeWith yL_areConcurrent cL_areConcurrent 5 (some .int) [(0, 17, 20, 19)] :: lw_G) rm_L_areConcurrent (cPc E [.ref x, .int a1, .int a2, .ref out] M) (cQz E (some (.int v)) M') 2 12 (eA E) := by
  refine Met_ofWH (cc := cL_areConcurrent) (maxL := 5) (ret := (some .int)) (hh := [(0, 17, 20, 19)]) (by decide) rfl ?_
  intro p e s m args below meth c s₁ B hml hv
  obtain ⟨rfl, hE, hM⟩ := hv
  have hx := B.exec
  have hb := B.bytes
  have hr := B.returns
  have hts0 := atoms_spec (ws := Cond.codeWith yL_areConcurrent cL_areConcurrent 5 (some .int) [(0, 17, 20, 19)] :: lw_G) B.pre
  have hts : ∀ w ∈ lw_G, w.before _ s = true := fun w hw => hts0 w (List.mem_cons_of_mem _ hw)
  have htab := vx_table (x := yL_areConcurrent) B (hts0 _ List.mem_cons_self)
  have hown : s.vm.findClass RL = some m.cls := findClass_of_methodNamed B.named
  have hlocks := B.notSynchronized
  have hC : CallFix p m c cL_areConcurrent 5 s _ lw_G RL := ⟨hx, hb, hml, hown, hts⟩
  have hS : va_S (eA E) s.heap s.heap [] := va_S.rf
  have hl := lv_entry ([.ref x, .int a1, .int a2, .ref out]) (n := 5) (Nat.le_of_ble_eq_true rfl)
  rw [lg_entry_eq]
  generalize (lg_sl ([.ref x, .int a1, .int a2, .ref out]) ++ List.replicate (5 - (lg_sl ([.ref x, .int a1, .int a2, .ref out])).length) Slot.unset).toArray = ls at hl ⊢
  have hl : lv_has ls 5 [(0, .ref x), (1, .int a1), (2, .int a2), (3, .ref out)] := hl
  unfold f_L_areConcurrent at h
  show W p l e rm_L_areConcurrent s m _ below meth c s.heap [] 0 0 _ _
  refine lv_aload_n hx hb dL_areConcurrent_0 rfl (lv_at hl 3 rfl) ?_
  refine lv_iconst (v := 0) hx hb dL_areConcurrent_1 (by decide) ?_
  refine lv_aload_n hx hb dL_areConcurrent_2 rfl (lv_at hl 0 rfl) ?_
  refine lv_iload_n hx hb dL_areConcurrent_3 rfl (lv_at hl 1 rfl) ?_
  refine lv_iload_n hx hb dL_areConcurrent_4 rfl (lv_at hl 2 rfl) ?_
  rcases obx h with ⟨v1, M2, h1, h⟩ | ⟨ex, M9, h1, h⟩
  rotate_left
  · obtain ⟨hk1, h1⟩ := ifg h1
    unfold hnd1 at h
    obtain ⟨e1, h⟩ := ifg h
    subst e1
    cases h
    refine kx_hand (hpc := 20) (kx_V (ci := 4) (As := [.int a1, .int a2]) (rest := [.int 0, .ref out]) hC hE hS hM (mt_X4_areConcurrent _ hfl E x a1 a2 _ _ _ h1) (gwV qw_753 qw_754 qw_755 qw_92 qw_756) ⟨rfl, rfl, (Nat.le_of_ble_eq_true rfl), (Nat.le_of_ble_eq_true rfl)⟩ dd_X4_areConcurrent rfl hk1 rfl rfl hl.1 (Nat.le_of_ble_eq_true rfl) dL_areConcurrent_5 ⟨(Nat.le_of_ble_eq_true rfl), (Nat.le_of_ble_eq_true rfl)⟩) hS hown [] (⟨0, 17, 20, 19⟩ : ExceptionTableEntry) [] htab (fun z hz => nomatch hz) (by decide) (by decide) (hts _ qw_674) (va_Nw.use rfl (hE.2.2.2.2.2.2.2.1 (exN 0, exN 0) (by decide))) rfl (fun H locs z q9 hM hS => ?_)
    refine lv_astore (lv' := [(4, .ref q9), (0, .ref x), (1, .int a1), (2, .int a2), (3, .ref out)]) hx hb dL_areConcurrent_20 hl (by decide) rfl (fun ls hl => ?_)
    refine lv_iconst (v := 1) hx hb dL_areConcurrent_22 (by decide) ?_
    exact eIz hx hb hr hlocks hM hS dL_areConcurrent_23 (Nat.le_of_ble_eq_true rfl) (Nat.le_of_ble_eq_true rfl)
  obtain ⟨hk1, h1⟩ := ifg h1
  refine kx_ok1 (kx_V (ci := 4) (As := [.int a1, .int a2]) (rest := [.int 0, .ref out]) hC hE hS hM (mt_X4_areConcurrent _ hfl E x a1 a2 _ _ _ h1) (gwV qw_753 qw_754 qw_755 qw_92 qw_756) ⟨rfl, rfl, (Nat.le_of_ble_eq_true rfl), (Nat.le_of_ble_eq_true rfl)⟩ dd_X4_areConcurrent rfl hk1 rfl rfl hl.1 (Nat.le_of_ble_eq_true rfl) dL_areConcurrent_5 ⟨(Nat.le_of_ble_eq_true rfl), (Nat.le_of_ble_eq_true rfl)⟩) hS (fun H locs hM hS => ?_)
  refine lv_if_eq (tgt := 15) hx hb dL_areConcurrent_8 (by decide) (fun c1 => ?_) (fun c1 => ?_)
  · have h := ifp c1 h
    refine lv_lconst (v := 0) hx hb dL_areConcurrent_15 (by decide) ?_
    obtain ⟨M3, h1, h⟩ := ob h
    refine r_last hx hb hE hM hS h1 dL_areConcurrent_16 (fun H locs hM hS => ?_)
    refine lv_goto (tgt := 24) hx hb dL_areConcurrent_17 (by decide) ?_
    refine lv_iconst (v := 0) hx hb dL_areConcurrent_24 (by decide) ?_
    cases h
    exact eIz (z := mZ M') hx hb hr hlocks (show MOK E (setZ M' (mZ M')) _ from hM) hS dL_areConcurrent_25 (Nat.le_of_ble_eq_true rfl) (Nat.le_of_ble_eq_true rfl)
  · have h := ifn c1 h
    refine lv_lconst (v := 1) hx hb dL_areConcurrent_11 (by decide) ?_
    refine lv_goto (tgt := 16) hx hb dL_areConcurrent_12 (by decide) ?_
    obtain ⟨M4, h1, h⟩ := ob h
    refine r_last hx hb hE hM hS h1 dL_areConcurrent_16 (fun H locs hM hS => ?_)
    refine lv_goto (tgt := 24) hx hb dL_areConcurrent_17 (by decide) ?_
    refine lv_iconst (v := 0) hx hb dL_areConcurrent_24 (by decide) ?_
    cases h
    exact eIz (z := mZ M') hx hb hr hlocks (show MOK E (setZ M' (mZ M')) _ from hM) hS dL_areConcurrent_25 (Nat.le_of_ble_eq_true rfl) (Nat.le_of_ble_eq_true rfl)

theorem dd_L_counterValue : yL_counterValue.cls ≠ "java/lang/invoke/MethodHandle" ∧ yL_counterValue.cls ≠ "java/lang/invoke/VarHandle" ∧ (parseMethodDescriptor yL_counterValue.desc).map (fun d => d.parameters.length) = some 4 := by decide +kernel
abbrev rm_L_counterValue : Room := ({ frames := 9, cells := 2, slots := 12, locals := 155 } : Room)
noncomputable def f_L_counterValue (x : Nat) (a1 : Int32) (a2 : Int32) (out : Nat) (M : Mem) : Option (Int32 × Mem) :=
  bx (cK 5 x M (f_X4_counterValue x a1 a2 M)) (hnd1 0) fun v1 M2 =>
  (sL out 0 v1.toInt64 M2).bind fun M3 =>
  some (0, M3)
set_option maxHeartbeats 4000000 in
set_option maxRecDepth 100000 in
theorem mt_L_counterValue (l : Launch) (hfl : l.stackTraces = false) (E : KEnv) (x : Nat) (a1 : Int32) (a2 : Int32) (out : Nat) (M M' : Mem) (v : Int32) (h : f_L_counterValue x a1 a2 out M = some (v, M')) : Met l yL_counterValue (Cond.codeWith yL_counterValue cL_counterValue 5 (some .int) [(0, 10, 13, 19)] :: lw_G) rm_L_counterValue (cPc E [.ref x, .int a1, .int a2, .ref out] M) (cQz E (some (.int v)) M') 2 12 (eA E) := by
  refine Met_ofWH (cc := cL_counterValue) (maxL := 5) (ret := (some .int)) (hh := [(0, 10, 13, 19)]) (by decide) rfl ?_
  intro p e s m args below meth c s₁ B hml hv
  obtain ⟨rfl, hE, hM⟩ := hv
  have hx := B.exec
  have hb := B.bytes
  have hr := B.returns
  have hts0 := atoms_spec (ws := Cond.codeWith yL_counterValue cL_counterValue 5 (some .int) [(0, 10, 13, 19)] :: lw_G) B.pre
  have hts : ∀ w ∈ lw_G, w.before _ s = true := fun w hw => hts0 w (List.mem_cons_of_mem _ hw)
  have htab := vx_table (x := yL_counterValue) B (hts0 _ List.mem_cons_self)
  have hown : s.vm.findClass RL = some m.cls := findClass_of_methodNamed B.named
  have hlocks := B.notSynchronized
  have hC : CallFix p m c cL_counterValue 5 s _ lw_G RL := ⟨hx, hb, hml, hown, hts⟩
  have hS : va_S (eA E) s.heap s.heap [] := va_S.rf
  have hl := lv_entry ([.ref x, .int a1, .int a2, .ref out]) (n := 5) (Nat.le_of_ble_eq_true rfl)
  rw [lg_entry_eq]
  generalize (lg_sl ([.ref x, .int a1, .int a2, .ref out]) ++ List.replicate (5 - (lg_sl ([.ref x, .int a1, .int a2, .ref out])).length) Slot.unset).toArray = ls at hl ⊢
  have hl : lv_has ls 5 [(0, .ref x), (1, .int a1), (2, .int a2), (3, .ref out)] := hl
  unfold f_L_counterValue at h
  show W p l e rm_L_counterValue s m _ below meth c s.heap [] 0 0 _ _
  refine lv_aload_n hx hb dL_counterValue_0 rfl (lv_at hl 3 rfl) ?_
  refine lv_iconst (v := 0) hx hb dL_counterValue_1 (by decide) ?_
  refine lv_aload_n hx hb dL_counterValue_2 rfl (lv_at hl 0 rfl) ?_
  refine lv_iload_n hx hb dL_counterValue_3 rfl (lv_at hl 1 rfl) ?_
  refine lv_iload_n hx hb dL_counterValue_4 rfl (lv_at hl 2 rfl) ?_
  rcases obx h with ⟨v1, M2, h1, h⟩ | ⟨ex, M9, h1, h⟩
  rotate_left
  · obtain ⟨hk1, h1⟩ := ifg h1
    unfold hnd1 at h
    obtain ⟨e1, h⟩ := ifg h
    subst e1
    cases h
    refine kx_hand (hpc := 13) (kx_V (ci := 4) (As := [.int a1, .int a2]) (rest := [.int 0, .ref out]) hC hE hS hM (mt_X4_counterValue _ hfl E x a1 a2 _ _ _ h1) (gwV qw_760 qw_761 qw_762 qw_92 qw_763) ⟨rfl, rfl, (Nat.le_of_ble_eq_true rfl), (Nat.le_of_ble_eq_true rfl)⟩ dd_X4_counterValue rfl hk1 rfl rfl hl.1 (Nat.le_of_ble_eq_true rfl) dL_counterValue_5 ⟨(Nat.le_of_ble_eq_true rfl), (Nat.le_of_ble_eq_true rfl)⟩) hS hown [] (⟨0, 10, 13, 19⟩ : ExceptionTableEntry) [] htab (fun z hz => nomatch hz) (by decide) (by decide) (hts _ qw_674) (va_Nw.use rfl (hE.2.2.2.2.2.2.2.1 (exN 0, exN 0) (by decide))) rfl (fun H locs z q9 hM hS => ?_)
    refine lv_astore (lv' := [(4, .ref q9), (0, .ref x), (1, .int a1), (2, .int a2), (3, .ref out)]) hx hb dL_counterValue_13 hl (by decide) rfl (fun ls hl => ?_)
    refine lv_iconst (v := 1) hx hb dL_counterValue_15 (by decide) ?_
    exact eIz hx hb hr hlocks hM hS dL_counterValue_16 (Nat.le_of_ble_eq_true rfl) (Nat.le_of_ble_eq_true rfl)
  obtain ⟨hk1, h1⟩ := ifg h1
  refine kx_ok1 (kx_V (ci := 4) (As := [.int a1, .int a2]) (rest := [.int 0, .ref out]) hC hE hS hM (mt_X4_counterValue _ hfl E x a1 a2 _ _ _ h1) (gwV qw_760 qw_761 qw_762 qw_92 qw_763) ⟨rfl, rfl, (Nat.le_of_ble_eq_true rfl), (Nat.le_of_ble_eq_true rfl)⟩ dd_X4_counterValue rfl hk1 rfl rfl hl.1 (Nat.le_of_ble_eq_true rfl) dL_counterValue_5 ⟨(Nat.le_of_ble_eq_true rfl), (Nat.le_of_ble_eq_true rfl)⟩) hS (fun H locs hM hS => ?_)
  refine lv_i2l (v := v1.toInt64) hx hb dL_counterValue_8 rfl ?_
  obtain ⟨M3, h1, h⟩ := ob h
  refine r_last hx hb hE hM hS h1 dL_counterValue_9 (fun H locs hM hS => ?_)
  refine lv_goto (tgt := 17) hx hb dL_counterValue_10 (by decide) ?_
  refine lv_iconst (v := 0) hx hb dL_counterValue_17 (by decide) ?_
  cases h
  exact eIz (z := mZ M') hx hb hr hlocks (show MOK E (setZ M' (mZ M')) _ from hM) hS dL_counterValue_18 (Nat.le_of_ble_eq_true rfl) (Nat.le_of_ble_eq_true rfl)

theorem dd_L_increments : yL_increments.cls ≠ "java/lang/invoke/MethodHandle" ∧ yL_increments.cls ≠ "java/lang/invoke/VarHandle" ∧ (parseMethodDescriptor yL_increments.desc).map (fun d => d.parameters.length) = some 5 := by decide +kernel
abbrev rm_L_increments : Room := ({ frames := 10, cells := 3, slots := 18, locals := 180 } : Room)
noncomputable def f_L_increments (x : Nat) (a1 : Int32) (a2 : Int32) (a3 : Int32) (out : Nat) (M : Mem) : Option (Int32 × Mem) :=
  bx (cK 5 x M (f_X4_increments x a1 a2 a3 M)) (hnd1 0) fun v1 M2 =>
  (sL out 0 v1.toInt64 M2).bind fun M3 =>
  some (0, M3)
set_option maxHeartbeats 4000000 in
set_option maxRecDepth 100000 in
theorem mt_L_increments (l : Launch) (hfl : l.stackTraces = false) (E : KEnv) (x : Nat) (a1 : Int32) (a2 : Int32) (a3 : Int32) (out : Nat) (M M' : Mem) (v : Int32) (h : f_L_increments x a1 a2 a3 out M = some (v, M')) : Met l yL_increments (Cond.codeWith yL_increments cL_increments 6 (some .int) [(0, 12, 15, 19)] :: lw_G) rm_L_increments (cPc E [.ref x, .int a1, .int a2, .int a3, .ref out] M) (cQz E (some (.int v)) M') 3 18 (eA E) := by
  refine Met_ofWH (cc := cL_increments) (maxL := 6) (ret := (some .int)) (hh := [(0, 12, 15, 19)]) (by decide) rfl ?_
  intro p e s m args below meth c s₁ B hml hv
  obtain ⟨rfl, hE, hM⟩ := hv
  have hx := B.exec
  have hb := B.bytes
  have hr := B.returns
  have hts0 := atoms_spec (ws := Cond.codeWith yL_increments cL_increments 6 (some .int) [(0, 12, 15, 19)] :: lw_G) B.pre
  have hts : ∀ w ∈ lw_G, w.before _ s = true := fun w hw => hts0 w (List.mem_cons_of_mem _ hw)
  have htab := vx_table (x := yL_increments) B (hts0 _ List.mem_cons_self)
  have hown : s.vm.findClass RL = some m.cls := findClass_of_methodNamed B.named
  have hlocks := B.notSynchronized
  have hC : CallFix p m c cL_increments 6 s _ lw_G RL := ⟨hx, hb, hml, hown, hts⟩
  have hS : va_S (eA E) s.heap s.heap [] := va_S.rf
  have hl := lv_entry ([.ref x, .int a1, .int a2, .int a3, .ref out]) (n := 6) (Nat.le_of_ble_eq_true rfl)
  rw [lg_entry_eq]
  generalize (lg_sl ([.ref x, .int a1, .int a2, .int a3, .ref out]) ++ List.replicate (6 - (lg_sl ([.ref x, .int a1, .int a2, .int a3, .ref out])).length) Slot.unset).toArray = ls at hl ⊢
  have hl : lv_has ls 6 [(0, .ref x), (1, .int a1), (2, .int a2), (3, .int a3), (4, .ref out)] := hl
  unfold f_L_increments at h
  show W p l e rm_L_increments s m _ below meth c s.heap [] 0 0 _ _
  refine lv_aload hx hb dL_increments_0 (lv_at hl 4 rfl) ?_
  refine lv_iconst (v := 0) hx hb dL_increments_2 (by decide) ?_
  refine lv_aload_n hx hb dL_increments_3 rfl (lv_at hl 0 rfl) ?_
  refine lv_iload_n hx hb dL_increments_4 rfl (lv_at hl 1 rfl) ?_
  refine lv_iload_n hx hb dL_increments_5 rfl (lv_at hl 2 rfl) ?_
  refine lv_iload_n hx hb dL_increments_6 rfl (lv_at hl 3 rfl) ?_
  rcases obx h with ⟨v1, M2, h1, h⟩ | ⟨ex, M9, h1, h⟩
  rotate_left
  · obtain ⟨hk1, h1⟩ := ifg h1
    unfold hnd1 at h
    obtain ⟨e1, h⟩ := ifg h
    subst e1
    cases h
    refine kx_hand (hpc := 15) (kx_V (ci := 4) (As := [.int a1, .int a2, .int a3]) (rest := [.int 0, .ref out]) hC hE hS hM (mt_X4_increments _ hfl E x a1 a2 a3 _ _ _ h1) (gwV qw_780 qw_781 qw_782 qw_92 qw_783) ⟨rfl, rfl, (Nat.le_of_ble_eq_true rfl), (Nat.le_of_ble_eq_true rfl)⟩ dd_X4_increments rfl hk1 rfl rfl hl.1 (Nat.le_of_ble_eq_true rfl) dL_increments_7 ⟨(Nat.le_of_ble_eq_true rfl), (Nat.le_of_ble_eq_true rfl)⟩) hS hown [] (⟨0, 12, 15, 19⟩ : ExceptionTableEntry) [] htab (fun z hz => nomatch hz) (by decide) (by decide) (hts _ qw_674) (va_Nw.use rfl (hE.2.2.2.2.2.2.2.1 (exN 0, exN 0) (by decide))) rfl (fun H locs z q9 hM hS => ?_)
    refine lv_astore (lv' := [(5, .ref q9), (0, .ref x), (1, .int a1), (2, .int a2), (3, .int a3), (4, .ref out)]) hx hb dL_increments_15 hl (by decide) rfl (fun ls hl => ?_)
    refine lv_iconst (v := 1) hx hb dL_increments_17 (by decide) ?_
    exact eIz hx hb hr hlocks hM hS dL_increments_18 (Nat.le_of_ble_eq_true rfl) (Nat.le_of_ble_eq_true rfl)
  obtain ⟨hk1, h1⟩ := ifg h1
  refine kx_ok1 (kx_V (ci := 4) (As := [.int a1, .int a2, .int a3]) (rest := [.int 0, .ref out]) hC hE hS hM (mt_X4_increments _ hfl E x a1 a2 a3 _ _ _ h1) (gwV qw_780 qw_781 qw_782 qw_92 qw_783) ⟨rfl, rfl, (Nat.le_of_ble_eq_true rfl), (Nat.le_of_ble_eq_true rfl)⟩ dd_X4_increments rfl hk1 rfl rfl hl.1 (Nat.le_of_ble_eq_true rfl) dL_increments_7 ⟨(Nat.le_of_ble_eq_true rfl), (Nat.le_of_ble_eq_true rfl)⟩) hS (fun H locs hM hS => ?_)
  refine lv_i2l (v := v1.toInt64) hx hb dL_increments_10 rfl ?_
  obtain ⟨M3, h1, h⟩ := ob h
  refine r_last hx hb hE hM hS h1 dL_increments_11 (fun H locs hM hS => ?_)
  refine lv_goto (tgt := 19) hx hb dL_increments_12 (by decide) ?_
  refine lv_iconst (v := 0) hx hb dL_increments_19 (by decide) ?_
  cases h
  exact eIz (z := mZ M') hx hb hr hlocks (show MOK E (setZ M' (mZ M')) _ from hM) hS dL_increments_20 (Nat.le_of_ble_eq_true rfl) (Nat.le_of_ble_eq_true rfl)

theorem dd_L_decrements : yL_decrements.cls ≠ "java/lang/invoke/MethodHandle" ∧ yL_decrements.cls ≠ "java/lang/invoke/VarHandle" ∧ (parseMethodDescriptor yL_decrements.desc).map (fun d => d.parameters.length) = some 5 := by decide +kernel
abbrev rm_L_decrements : Room := ({ frames := 10, cells := 3, slots := 18, locals := 180 } : Room)
noncomputable def f_L_decrements (x : Nat) (a1 : Int32) (a2 : Int32) (a3 : Int32) (out : Nat) (M : Mem) : Option (Int32 × Mem) :=
  bx (cK 5 x M (f_X4_decrements x a1 a2 a3 M)) (hnd1 0) fun v1 M2 =>
  (sL out 0 v1.toInt64 M2).bind fun M3 =>
  some (0, M3)
set_option maxHeartbeats 4000000 in
set_option maxRecDepth 100000 in
theorem mt_L_decrements (l : Launch) (hfl : l.stackTraces = false) (E : KEnv) (x : Nat) (a1 : Int32) (a2 : Int32) (a3 : Int32) (out : Nat) (M M' : Mem) (v : Int32) (h : f_L_decrements x a1 a2 a3 out M = some (v, M')) : Met l yL_decrements (Cond.codeWith yL_decrements cL_decrements 6 (some .int) [(0, 12, 15, 19)] :: lw_G) rm_L_decrements (cPc E [.ref x, .int a1, .int a2, .int a3, .ref out] M) (cQz E (some (.int v)) M') 3 18 (eA E) := by
  refine Met_ofWH (cc := cL_decrements) (maxL := 6) (ret := (some .int)) (hh := [(0, 12, 15, 19)]) (by decide) rfl ?_
  intro p e s m args below meth c s₁ B hml hv
  obtain ⟨rfl, hE, hM⟩ := hv
  have hx := B.exec
  have hb := B.bytes
  have hr := B.returns
  have hts0 := atoms_spec (ws := Cond.codeWith yL_decrements cL_decrements 6 (some .int) [(0, 12, 15, 19)] :: lw_G) B.pre
  have hts : ∀ w ∈ lw_G, w.before _ s = true := fun w hw => hts0 w (List.mem_cons_of_mem _ hw)
  have htab := vx_table (x := yL_decrements) B (hts0 _ List.mem_cons_self)
  have hown : s.vm.findClass RL = some m.cls := findClass_of_methodNamed B.named
  have hlocks := B.notSynchronized
  have hC : CallFix p m c cL_decrements 6 s _ lw_G RL := ⟨hx, hb, hml, hown, hts⟩
  have hS : va_S (eA E) s.heap s.heap [] := va_S.rf
  have hl := lv_entry ([.ref x, .int a1, .int a2, .int a3, .ref out]) (n := 6) (Nat.le_of_ble_eq_true rfl)
  rw [lg_entry_eq]
  generalize (lg_sl ([.ref x, .int a1, .int a2, .int a3, .ref out]) ++ List.replicate (6 - (lg_sl ([.ref x, .int a1, .int a2, .int a3, .ref out])).length) Slot.unset).toArray = ls at hl ⊢
  have hl : lv_has ls 6 [(0, .ref x), (1, .int a1), (2, .int a2), (3, .int a3), (4, .ref out)] := hl
  unfold f_L_decrements at h
  show W p l e rm_L_decrements s m _ below meth c s.heap [] 0 0 _ _
  refine lv_aload hx hb dL_decrements_0 (lv_at hl 4 rfl) ?_
  refine lv_iconst (v := 0) hx hb dL_decrements_2 (by decide) ?_
  refine lv_aload_n hx hb dL_decrements_3 rfl (lv_at hl 0 rfl) ?_
  refine lv_iload_n hx hb dL_decrements_4 rfl (lv_at hl 1 rfl) ?_
  refine lv_iload_n hx hb dL_decrements_5 rfl (lv_at hl 2 rfl) ?_
  refine lv_iload_n hx hb dL_decrements_6 rfl (lv_at hl 3 rfl) ?_
  rcases obx h with ⟨v1, M2, h1, h⟩ | ⟨ex, M9, h1, h⟩
  rotate_left
  · obtain ⟨hk1, h1⟩ := ifg h1
    unfold hnd1 at h
    obtain ⟨e1, h⟩ := ifg h
    subst e1
    cases h
    refine kx_hand (hpc := 15) (kx_V (ci := 4) (As := [.int a1, .int a2, .int a3]) (rest := [.int 0, .ref out]) hC hE hS hM (mt_X4_decrements _ hfl E x a1 a2 a3 _ _ _ h1) (gwV qw_792 qw_793 qw_794 qw_92 qw_795) ⟨rfl, rfl, (Nat.le_of_ble_eq_true rfl), (Nat.le_of_ble_eq_true rfl)⟩ dd_X4_decrements rfl hk1 rfl rfl hl.1 (Nat.le_of_ble_eq_true rfl) dL_decrements_7 ⟨(Nat.le_of_ble_eq_true rfl), (Nat.le_of_ble_eq_true rfl)⟩) hS hown [] (⟨0, 12, 15, 19⟩ : ExceptionTableEntry) [] htab (fun z hz => nomatch hz) (by decide) (by decide) (hts _ qw_674) (va_Nw.use rfl (hE.2.2.2.2.2.2.2.1 (exN 0, exN 0) (by decide))) rfl (fun H locs z q9 hM hS => ?_)
    refine lv_astore (lv' := [(5, .ref q9), (0, .ref x), (1, .int a1), (2, .int a2), (3, .int a3), (4, .ref out)]) hx hb dL_decrements_15 hl (by decide) rfl (fun ls hl => ?_)
    refine lv_iconst (v := 1) hx hb dL_decrements_17 (by decide) ?_
    exact eIz hx hb hr hlocks hM hS dL_decrements_18 (Nat.le_of_ble_eq_true rfl) (Nat.le_of_ble_eq_true rfl)
  obtain ⟨hk1, h1⟩ := ifg h1
  refine kx_ok1 (kx_V (ci := 4) (As := [.int a1, .int a2, .int a3]) (rest := [.int 0, .ref out]) hC hE hS hM (mt_X4_decrements _ hfl E x a1 a2 a3 _ _ _ h1) (gwV qw_792 qw_793 qw_794 qw_92 qw_795) ⟨rfl, rfl, (Nat.le_of_ble_eq_true rfl), (Nat.le_of_ble_eq_true rfl)⟩ dd_X4_decrements rfl hk1 rfl rfl hl.1 (Nat.le_of_ble_eq_true rfl) dL_decrements_7 ⟨(Nat.le_of_ble_eq_true rfl), (Nat.le_of_ble_eq_true rfl)⟩) hS (fun H locs hM hS => ?_)
  refine lv_i2l (v := v1.toInt64) hx hb dL_decrements_10 rfl ?_
  obtain ⟨M3, h1, h⟩ := ob h
  refine r_last hx hb hE hM hS h1 dL_decrements_11 (fun H locs hM hS => ?_)
  refine lv_goto (tgt := 19) hx hb dL_decrements_12 (by decide) ?_
  refine lv_iconst (v := 0) hx hb dL_decrements_19 (by decide) ?_
  cases h
  exact eIz (z := mZ M') hx hb hr hlocks (show MOK E (setZ M' (mZ M')) _ from hM) hS dL_decrements_20 (Nat.le_of_ble_eq_true rfl) (Nat.le_of_ble_eq_true rfl)

theorem dd_L_hasTag : yL_hasTag.cls ≠ "java/lang/invoke/MethodHandle" ∧ yL_hasTag.cls ≠ "java/lang/invoke/VarHandle" ∧ (parseMethodDescriptor yL_hasTag.desc).map (fun d => d.parameters.length) = some 4 := by decide +kernel
abbrev rm_L_hasTag : Room := ({ frames := 10, cells := 2, slots := 12, locals := 177 } : Room)
noncomputable def f_L_hasTag (x : Nat) (a1 : Int32) (a2 : Int32) (out : Nat) (M : Mem) : Option (Int32 × Mem) :=
  bx (cK 5 x M (f_X4_hasTag x a1 a2 M)) (hnd1 0) fun v1 M2 =>
  (if v1 = 0 then
  (sL out 0 0 M2).bind fun M3 =>
  some (0, M3)
  else
  (sL out 0 1 M2).bind fun M4 =>
  some (0, M4))
set_option maxHeartbeats 4000000 in
set_option maxRecDepth 100000 in
theorem mt_L_hasTag (l : Launch) (hfl : l.stackTraces = false) (E : KEnv) (x : Nat) (a1 : Int32) (a2 : Int32) (out : Nat) (M M' : Mem) (v : Int32) (h : f_L_hasTag x a1 a2 out M = some (v, M')) : Met l yL_hasTag (Cond.codeWith yL_hasTag cL_hasTag 5 (some .int) [(0, 17, 20, 19)] :: lw_G) rm_L_hasTag (cPc E [.ref x, .int a1, .int a2, .ref out] M) (cQz E (some (.int v)) M') 2 12 (eA E) := by
  refine Met_ofWH (cc := cL_hasTag) (maxL := 5) (ret := (some .int)) (hh := [(0, 17, 20, 19)]) (by decide) rfl ?_
  intro p e s m args below meth c s₁ B hml hv
  obtain ⟨rfl, hE, hM⟩ := hv
  have hx := B.exec
  have hb := B.bytes
  have hr := B.returns
  have hts0 := atoms_spec (ws := Cond.codeWith yL_hasTag cL_hasTag 5 (some .int) [(0, 17, 20, 19)] :: lw_G) B.pre
  have hts : ∀ w ∈ lw_G, w.before _ s = true := fun w hw => hts0 w (List.mem_cons_of_mem _ hw)
  have htab := vx_table (x := yL_hasTag) B (hts0 _ List.mem_cons_self)
  have hown : s.vm.findClass RL = some m.cls := findClass_of_methodNamed B.named
  have hlocks := B.notSynchronized
  have hC : CallFix p m c cL_hasTag 5 s _ lw_G RL := ⟨hx, hb, hml, hown, hts⟩
  have hS : va_S (eA E) s.heap s.heap [] := va_S.rf
  have hl := lv_entry ([.ref x, .int a1, .int a2, .ref out]) (n := 5) (Nat.le_of_ble_eq_true rfl)
  rw [lg_entry_eq]
  generalize (lg_sl ([.ref x, .int a1, .int a2, .ref out]) ++ List.replicate (5 - (lg_sl ([.ref x, .int a1, .int a2, .ref out])).length) Slot.unset).toArray = ls at hl ⊢
  have hl : lv_has ls 5 [(0, .ref x), (1, .int a1), (2, .int a2), (3, .ref out)] := hl
  unfold f_L_hasTag at h
  show W p l e rm_L_hasTag s m _ below meth c s.heap [] 0 0 _ _
  refine lv_aload_n hx hb dL_hasTag_0 rfl (lv_at hl 3 rfl) ?_
  refine lv_iconst (v := 0) hx hb dL_hasTag_1 (by decide) ?_
  refine lv_aload_n hx hb dL_hasTag_2 rfl (lv_at hl 0 rfl) ?_
  refine lv_iload_n hx hb dL_hasTag_3 rfl (lv_at hl 1 rfl) ?_
  refine lv_iload_n hx hb dL_hasTag_4 rfl (lv_at hl 2 rfl) ?_
  rcases obx h with ⟨v1, M2, h1, h⟩ | ⟨ex, M9, h1, h⟩
  rotate_left
  · obtain ⟨hk1, h1⟩ := ifg h1
    unfold hnd1 at h
    obtain ⟨e1, h⟩ := ifg h
    subst e1
    cases h
    refine kx_hand (hpc := 20) (kx_V (ci := 4) (As := [.int a1, .int a2]) (rest := [.int 0, .ref out]) hC hE hS hM (mt_X4_hasTag _ hfl E x a1 a2 _ _ _ h1) (gwV qw_799 qw_800 qw_801 qw_92 qw_802) ⟨rfl, rfl, (Nat.le_of_ble_eq_true rfl), (Nat.le_of_ble_eq_true rfl)⟩ dd_X4_hasTag rfl hk1 rfl rfl hl.1 (Nat.le_of_ble_eq_true rfl) dL_hasTag_5 ⟨(Nat.le_of_ble_eq_true rfl), (Nat.le_of_ble_eq_true rfl)⟩) hS hown [] (⟨0, 17, 20, 19⟩ : ExceptionTableEntry) [] htab (fun z hz => nomatch hz) (by decide) (by decide) (hts _ qw_674) (va_Nw.use rfl (hE.2.2.2.2.2.2.2.1 (exN 0, exN 0) (by decide))) rfl (fun H locs z q9 hM hS => ?_)
    refine lv_astore (lv' := [(4, .ref q9), (0, .ref x), (1, .int a1), (2, .int a2), (3, .ref out)]) hx hb dL_hasTag_20 hl (by decide) rfl (fun ls hl => ?_)
    refine lv_iconst (v := 1) hx hb dL_hasTag_22 (by decide) ?_
    exact eIz hx hb hr hlocks hM hS dL_hasTag_23 (Nat.le_of_ble_eq_true rfl) (Nat.le_of_ble_eq_true rfl)
  obtain ⟨hk1, h1⟩ := ifg h1
  refine kx_ok1 (kx_V (ci := 4) (As := [.int a1, .int a2]) (rest := [.int 0, .ref out]) hC hE hS hM (mt_X4_hasTag _ hfl E x a1 a2 _ _ _ h1) (gwV qw_799 qw_800 qw_801 qw_92 qw_802) ⟨rfl, rfl, (Nat.le_of_ble_eq_true rfl), (Nat.le_of_ble_eq_true rfl)⟩ dd_X4_hasTag rfl hk1 rfl rfl hl.1 (Nat.le_of_ble_eq_true rfl) dL_hasTag_5 ⟨(Nat.le_of_ble_eq_true rfl), (Nat.le_of_ble_eq_true rfl)⟩) hS (fun H locs hM hS => ?_)
  refine lv_if_eq (tgt := 15) hx hb dL_hasTag_8 (by decide) (fun c1 => ?_) (fun c1 => ?_)
  · have h := ifp c1 h
    refine lv_lconst (v := 0) hx hb dL_hasTag_15 (by decide) ?_
    obtain ⟨M3, h1, h⟩ := ob h
    refine r_last hx hb hE hM hS h1 dL_hasTag_16 (fun H locs hM hS => ?_)
    refine lv_goto (tgt := 24) hx hb dL_hasTag_17 (by decide) ?_
    refine lv_iconst (v := 0) hx hb dL_hasTag_24 (by decide) ?_
    cases h
    exact eIz (z := mZ M') hx hb hr hlocks (show MOK E (setZ M' (mZ M')) _ from hM) hS dL_hasTag_25 (Nat.le_of_ble_eq_true rfl) (Nat.le_of_ble_eq_true rfl)
  · have h := ifn c1 h
    refine lv_lconst (v := 1) hx hb dL_hasTag_11 (by decide) ?_
    refine lv_goto (tgt := 16) hx hb dL_hasTag_12 (by decide) ?_
    obtain ⟨M4, h1, h⟩ := ob h
    refine r_last hx hb hE hM hS h1 dL_hasTag_16 (fun H locs hM hS => ?_)
    refine lv_goto (tgt := 24) hx hb dL_hasTag_17 (by decide) ?_
    refine lv_iconst (v := 0) hx hb dL_hasTag_24 (by decide) ?_
    cases h
    exact eIz (z := mZ M') hx hb hr hlocks (show MOK E (setZ M' (mZ M')) _ from hM) hS dL_hasTag_25 (Nat.le_of_ble_eq_true rfl) (Nat.le_of_ble_eq_true rfl)

theorem dd_L_liveDots : yL_liveDots.cls ≠ "java/lang/invoke/MethodHandle" ∧ yL_liveDots.cls ≠ "java/lang/invoke/VarHandle" ∧ (parseMethodDescriptor yL_liveDots.desc).map (fun d => d.parameters.length) = some 4 := by decide +kernel
abbrev rm_L_liveDots : Room := ({ frames := 9, cells := 2, slots := 12, locals := 155 } : Room)
noncomputable def f_L_liveDots (x : Nat) (a1 : Int32) (a2 : Int32) (out : Nat) (M : Mem) : Option (Int32 × Mem) :=
  bx (cK 5 x M (f_X4_liveDots x a1 a2 M)) (hnd1 0) fun v1 M2 =>
  (sL out 0 v1.toInt64 M2).bind fun M3 =>
  some (0, M3)
set_option maxHeartbeats 4000000 in
set_option maxRecDepth 100000 in
theorem mt_L_liveDots (l : Launch) (hfl : l.stackTraces = false) (E : KEnv) (x : Nat) (a1 : Int32) (a2 : Int32) (out : Nat) (M M' : Mem) (v : Int32) (h : f_L_liveDots x a1 a2 out M = some (v, M')) : Met l yL_liveDots (Cond.codeWith yL_liveDots cL_liveDots 5 (some .int) [(0, 10, 13, 19)] :: lw_G) rm_L_liveDots (cPc E [.ref x, .int a1, .int a2, .ref out] M) (cQz E (some (.int v)) M') 2 12 (eA E) := by
  refine Met_ofWH (cc := cL_liveDots) (maxL := 5) (ret := (some .int)) (hh := [(0, 10, 13, 19)]) (by decide) rfl ?_
  intro p e s m args below meth c s₁ B hml hv
  obtain ⟨rfl, hE, hM⟩ := hv
  have hx := B.exec
  have hb := B.bytes
  have hr := B.returns
  have hts0 := atoms_spec (ws := Cond.codeWith yL_liveDots cL_liveDots 5 (some .int) [(0, 10, 13, 19)] :: lw_G) B.pre
  have hts : ∀ w ∈ lw_G, w.before _ s = true := fun w hw => hts0 w (List.mem_cons_of_mem _ hw)
  have htab := vx_table (x := yL_liveDots) B (hts0 _ List.mem_cons_self)
  have hown : s.vm.findClass RL = some m.cls := findClass_of_methodNamed B.named
  have hlocks := B.notSynchronized
  have hC : CallFix p m c cL_liveDots 5 s _ lw_G RL := ⟨hx, hb, hml, hown, hts⟩
  have hS : va_S (eA E) s.heap s.heap [] := va_S.rf
  have hl := lv_entry ([.ref x, .int a1, .int a2, .ref out]) (n := 5) (Nat.le_of_ble_eq_true rfl)
  rw [lg_entry_eq]
  generalize (lg_sl ([.ref x, .int a1, .int a2, .ref out]) ++ List.replicate (5 - (lg_sl ([.ref x, .int a1, .int a2, .ref out])).length) Slot.unset).toArray = ls at hl ⊢
  have hl : lv_has ls 5 [(0, .ref x), (1, .int a1), (2, .int a2), (3, .ref out)] := hl
  unfold f_L_liveDots at h
  show W p l e rm_L_liveDots s m _ below meth c s.heap [] 0 0 _ _
  refine lv_aload_n hx hb dL_liveDots_0 rfl (lv_at hl 3 rfl) ?_
  refine lv_iconst (v := 0) hx hb dL_liveDots_1 (by decide) ?_
  refine lv_aload_n hx hb dL_liveDots_2 rfl (lv_at hl 0 rfl) ?_
  refine lv_iload_n hx hb dL_liveDots_3 rfl (lv_at hl 1 rfl) ?_
  refine lv_iload_n hx hb dL_liveDots_4 rfl (lv_at hl 2 rfl) ?_
  rcases obx h with ⟨v1, M2, h1, h⟩ | ⟨ex, M9, h1, h⟩
  rotate_left
  · obtain ⟨hk1, h1⟩ := ifg h1
    unfold hnd1 at h
    obtain ⟨e1, h⟩ := ifg h
    subst e1
    cases h
    refine kx_hand (hpc := 13) (kx_V (ci := 4) (As := [.int a1, .int a2]) (rest := [.int 0, .ref out]) hC hE hS hM (mt_X4_liveDots _ hfl E x a1 a2 _ _ _ h1) (gwV qw_816 qw_804 qw_805 qw_92 qw_806) ⟨rfl, rfl, (Nat.le_of_ble_eq_true rfl), (Nat.le_of_ble_eq_true rfl)⟩ dd_X4_liveDots rfl hk1 rfl rfl hl.1 (Nat.le_of_ble_eq_true rfl) dL_liveDots_5 ⟨(Nat.le_of_ble_eq_true rfl), (Nat.le_of_ble_eq_true rfl)⟩) hS hown [] (⟨0, 10, 13, 19⟩ : ExceptionTableEntry) [] htab (fun z hz => nomatch hz) (by decide) (by decide) (hts _ qw_674) (va_Nw.use rfl (hE.2.2.2.2.2.2.2.1 (exN 0, exN 0) (by decide))) rfl (fun H locs z q9 hM hS => ?_)
    refine lv_astore (lv' := [(4, .ref q9), (0, .ref x), (1, .int a1), (2, .int a2), (3, .ref out)]) hx hb dL_liveDots_13 hl (by decide) rfl (fun ls hl => ?_)
    refine lv_iconst (v := 1) hx hb dL_liveDots_15 (by decide) ?_
    exact eIz hx hb hr hlocks hM hS dL_liveDots_16 (Nat.le_of_ble_eq_true rfl) (Nat.le_of_ble_eq_true rfl)
  obtain ⟨hk1, h1⟩ := ifg h1
  refine kx_ok1 (kx_V (ci := 4) (As := [.int a1, .int a2]) (rest := [.int 0, .ref out]) hC hE hS hM (mt_X4_liveDots _ hfl E x a1 a2 _ _ _ h1) (gwV qw_816 qw_804 qw_805 qw_92 qw_806) ⟨rfl, rfl, (Nat.le_of_ble_eq_true rfl), (Nat.le_of_ble_eq_true rfl)⟩ dd_X4_liveDots rfl hk1 rfl rfl hl.1 (Nat.le_of_ble_eq_true rfl) dL_liveDots_5 ⟨(Nat.le_of_ble_eq_true rfl), (Nat.le_of_ble_eq_true rfl)⟩) hS (fun H locs hM hS => ?_)
  refine lv_i2l (v := v1.toInt64) hx hb dL_liveDots_8 rfl ?_
  obtain ⟨M3, h1, h⟩ := ob h
  refine r_last hx hb hE hM hS h1 dL_liveDots_9 (fun H locs hM hS => ?_)
  refine lv_goto (tgt := 17) hx hb dL_liveDots_10 (by decide) ?_
  refine lv_iconst (v := 0) hx hb dL_liveDots_17 (by decide) ?_
  cases h
  exact eIz (z := mZ M') hx hb hr hlocks (show MOK E (setZ M' (mZ M')) _ from hM) hS dL_liveDots_18 (Nat.le_of_ble_eq_true rfl) (Nat.le_of_ble_eq_true rfl)

theorem dd_L_tagDot : yL_tagDot.cls ≠ "java/lang/invoke/MethodHandle" ∧ yL_tagDot.cls ≠ "java/lang/invoke/VarHandle" ∧ (parseMethodDescriptor yL_tagDot.desc).map (fun d => d.parameters.length) = some 5 := by decide +kernel
abbrev rm_L_tagDot : Room := ({ frames := 9, cells := 3, slots := 18, locals := 156 } : Room)
noncomputable def f_L_tagDot (x : Nat) (a1 : Int32) (a2 : Int32) (a3 : Int32) (out : Nat) (M : Mem) : Option (Int32 × Mem) :=
  bx (cK 5 x M (f_X4_tagDot x a1 a2 a3 M)) (hnd1 0) fun v1 M2 =>
  (sL out 0 v1.toInt64 M2).bind fun M3 =>
  some (0, M3)
set_option maxHeartbeats 4000000 in
set_option maxRecDepth 100000 in
theorem mt_L_tagDot (l : Launch) (hfl : l.stackTraces = false) (E : KEnv) (x : Nat) (a1 : Int32) (a2 : Int32) (a3 : Int32) (out : Nat) (M M' : Mem) (v : Int32) (h : f_L_tagDot x a1 a2 a3 out M = some (v, M')) : Met l yL_tagDot (Cond.codeWith yL_tagDot cL_tagDot 6 (some .int) [(0, 12, 15, 19)] :: lw_G) rm_L_tagDot (cPc E [.ref x, .int a1, .int a2, .int a3, .ref out] M) (cQz E (some (.int v)) M') 3 18 (eA E) := by
  refine Met_ofWH (cc := cL_tagDot) (maxL := 6) (ret := (some .int)) (hh := [(0, 12, 15, 19)]) (by decide) rfl ?_
  intro p e s m args below meth c s₁ B hml hv
  obtain ⟨rfl, hE, hM⟩ := hv
  have hx := B.exec
  have hb := B.bytes
  have hr := B.returns
  have hts0 := atoms_spec (ws := Cond.codeWith yL_tagDot cL_tagDot 6 (some .int) [(0, 12, 15, 19)] :: lw_G) B.pre
  have hts : ∀ w ∈ lw_G, w.before _ s = true := fun w hw => hts0 w (List.mem_cons_of_mem _ hw)
  have htab := vx_table (x := yL_tagDot) B (hts0 _ List.mem_cons_self)
  have hown : s.vm.findClass RL = some m.cls := findClass_of_methodNamed B.named
  have hlocks := B.notSynchronized
  have hC : CallFix p m c cL_tagDot 6 s _ lw_G RL := ⟨hx, hb, hml, hown, hts⟩
  have hS : va_S (eA E) s.heap s.heap [] := va_S.rf
  have hl := lv_entry ([.ref x, .int a1, .int a2, .int a3, .ref out]) (n := 6) (Nat.le_of_ble_eq_true rfl)
  rw [lg_entry_eq]
  generalize (lg_sl ([.ref x, .int a1, .int a2, .int a3, .ref out]) ++ List.replicate (6 - (lg_sl ([.ref x, .int a1, .int a2, .int a3, .ref out])).length) Slot.unset).toArray = ls at hl ⊢
  have hl : lv_has ls 6 [(0, .ref x), (1, .int a1), (2, .int a2), (3, .int a3), (4, .ref out)] := hl
  unfold f_L_tagDot at h
  show W p l e rm_L_tagDot s m _ below meth c s.heap [] 0 0 _ _
  refine lv_aload hx hb dL_tagDot_0 (lv_at hl 4 rfl) ?_
  refine lv_iconst (v := 0) hx hb dL_tagDot_2 (by decide) ?_
  refine lv_aload_n hx hb dL_tagDot_3 rfl (lv_at hl 0 rfl) ?_
  refine lv_iload_n hx hb dL_tagDot_4 rfl (lv_at hl 1 rfl) ?_
  refine lv_iload_n hx hb dL_tagDot_5 rfl (lv_at hl 2 rfl) ?_
  refine lv_iload_n hx hb dL_tagDot_6 rfl (lv_at hl 3 rfl) ?_
  rcases obx h with ⟨v1, M2, h1, h⟩ | ⟨ex, M9, h1, h⟩
  rotate_left
  · obtain ⟨hk1, h1⟩ := ifg h1
    unfold hnd1 at h
    obtain ⟨e1, h⟩ := ifg h
    subst e1
    cases h
    refine kx_hand (hpc := 15) (kx_V (ci := 4) (As := [.int a1, .int a2, .int a3]) (rest := [.int 0, .ref out]) hC hE hS hM (mt_X4_tagDot _ hfl E x a1 a2 a3 _ _ _ h1) (gwV qw_820 qw_821 qw_822 qw_92 qw_823) ⟨rfl, rfl, (Nat.le_of_ble_eq_true rfl), (Nat.le_of_ble_eq_true rfl)⟩ dd_X4_tagDot rfl hk1 rfl rfl hl.1 (Nat.le_of_ble_eq_true rfl) dL_tagDot_7 ⟨(Nat.le_of_ble_eq_true rfl), (Nat.le_of_ble_eq_true rfl)⟩) hS hown [] (⟨0, 12, 15, 19⟩ : ExceptionTableEntry) [] htab (fun z hz => nomatch hz) (by decide) (by decide) (hts _ qw_674) (va_Nw.use rfl (hE.2.2.2.2.2.2.2.1 (exN 0, exN 0) (by decide))) rfl (fun H locs z q9 hM hS => ?_)
    refine lv_astore (lv' := [(5, .ref q9), (0, .ref x), (1, .int a1), (2, .int a2), (3, .int a3), (4, .ref out)]) hx hb dL_tagDot_15 hl (by decide) rfl (fun ls hl => ?_)
    refine lv_iconst (v := 1) hx hb dL_tagDot_17 (by decide) ?_
    exact eIz hx hb hr hlocks hM hS dL_tagDot_18 (Nat.le_of_ble_eq_true rfl) (Nat.le_of_ble_eq_true rfl)
  obtain ⟨hk1, h1⟩ := ifg h1
  refine kx_ok1 (kx_V (ci := 4) (As := [.int a1, .int a2, .int a3]) (rest := [.int 0, .ref out]) hC hE hS hM (mt_X4_tagDot _ hfl E x a1 a2 a3 _ _ _ h1) (gwV qw_820 qw_821 qw_822 qw_92 qw_823) ⟨rfl, rfl, (Nat.le_of_ble_eq_true rfl), (Nat.le_of_ble_eq_true rfl)⟩ dd_X4_tagDot rfl hk1 rfl rfl hl.1 (Nat.le_of_ble_eq_true rfl) dL_tagDot_7 ⟨(Nat.le_of_ble_eq_true rfl), (Nat.le_of_ble_eq_true rfl)⟩) hS (fun H locs hM hS => ?_)
  refine lv_i2l (v := v1.toInt64) hx hb dL_tagDot_10 rfl ?_
  obtain ⟨M3, h1, h⟩ := ob h
  refine r_last hx hb hE hM hS h1 dL_tagDot_11 (fun H locs hM hS => ?_)
  refine lv_goto (tgt := 19) hx hb dL_tagDot_12 (by decide) ?_
  refine lv_iconst (v := 0) hx hb dL_tagDot_19 (by decide) ?_
  cases h
  exact eIz (z := mZ M') hx hb hr hlocks (show MOK E (setZ M' (mZ M')) _ from hM) hS dL_tagDot_20 (Nat.le_of_ble_eq_true rfl) (Nat.le_of_ble_eq_true rfl)

theorem dd_L_tagCount : yL_tagCount.cls ≠ "java/lang/invoke/MethodHandle" ∧ yL_tagCount.cls ≠ "java/lang/invoke/VarHandle" ∧ (parseMethodDescriptor yL_tagCount.desc).map (fun d => d.parameters.length) = some 3 := by decide +kernel
abbrev rm_L_tagCount : Room := ({ frames := 9, cells := 1, slots := 6, locals := 153 } : Room)
noncomputable def f_L_tagCount (x : Nat) (a1 : Int32) (out : Nat) (M : Mem) : Option (Int32 × Mem) :=
  bx (cK 5 x M (f_X4_tagCount x a1 M)) (hnd1 0) fun v1 M2 =>
  (sL out 0 v1.toInt64 M2).bind fun M3 =>
  some (0, M3)
set_option maxHeartbeats 4000000 in
set_option maxRecDepth 100000 in
theorem mt_L_tagCount (l : Launch) (hfl : l.stackTraces = false) (E : KEnv) (x : Nat) (a1 : Int32) (out : Nat) (M M' : Mem) (v : Int32) (h : f_L_tagCount x a1 out M = some (v, M')) : Met l yL_tagCount (Cond.codeWith yL_tagCount cL_tagCount 4 (some .int) [(0, 9, 12, 19)] :: lw_G) rm_L_tagCount (cPc E [.ref x, .int a1, .ref out] M) (cQz E (some (.int v)) M') 1 6 (eA E) := by
  refine Met_ofWH (cc := cL_tagCount) (maxL := 4) (ret := (some .int)) (hh := [(0, 9, 12, 19)]) (by decide) rfl ?_
  intro p e s m args below meth c s₁ B hml hv
  obtain ⟨rfl, hE, hM⟩ := hv
  have hx := B.exec
  have hb := B.bytes
  have hr := B.returns
  have hts0 := atoms_spec (ws := Cond.codeWith yL_tagCount cL_tagCount 4 (some .int) [(0, 9, 12, 19)] :: lw_G) B.pre
  have hts : ∀ w ∈ lw_G, w.before _ s = true := fun w hw => hts0 w (List.mem_cons_of_mem _ hw)
  have htab := vx_table (x := yL_tagCount) B (hts0 _ List.mem_cons_self)
  have hown : s.vm.findClass RL = some m.cls := findClass_of_methodNamed B.named
  have hlocks := B.notSynchronized
  have hC : CallFix p m c cL_tagCount 4 s _ lw_G RL := ⟨hx, hb, hml, hown, hts⟩
  have hS : va_S (eA E) s.heap s.heap [] := va_S.rf
  have hl := lv_entry ([.ref x, .int a1, .ref out]) (n := 4) (Nat.le_of_ble_eq_true rfl)
  rw [lg_entry_eq]
  generalize (lg_sl ([.ref x, .int a1, .ref out]) ++ List.replicate (4 - (lg_sl ([.ref x, .int a1, .ref out])).length) Slot.unset).toArray = ls at hl ⊢
  have hl : lv_has ls 4 [(0, .ref x), (1, .int a1), (2, .ref out)] := hl
  unfold f_L_tagCount at h
  show W p l e rm_L_tagCount s m _ below meth c s.heap [] 0 0 _ _
  refine lv_aload_n hx hb dL_tagCount_0 rfl (lv_at hl 2 rfl) ?_
  refine lv_iconst (v := 0) hx hb dL_tagCount_1 (by decide) ?_
  refine lv_aload_n hx hb dL_tagCount_2 rfl (lv_at hl 0 rfl) ?_
  refine lv_iload_n hx hb dL_tagCount_3 rfl (lv_at hl 1 rfl) ?_
  rcases obx h with ⟨v1, M2, h1, h⟩ | ⟨ex, M9, h1, h⟩
  rotate_left
  · obtain ⟨hk1, h1⟩ := ifg h1
    unfold hnd1 at h
    obtain ⟨e1, h⟩ := ifg h
    subst e1
    cases h
    refine kx_hand (hpc := 12) (kx_V (ci := 4) (As := [.int a1]) (rest := [.int 0, .ref out]) hC hE hS hM (mt_X4_tagCount _ hfl E x a1 _ _ _ h1) (gwV qw_831 qw_832 qw_833 qw_92 qw_834) ⟨rfl, rfl, (Nat.le_of_ble_eq_true rfl), (Nat.le_of_ble_eq_true rfl)⟩ dd_X4_tagCount rfl hk1 rfl rfl hl.1 (Nat.le_of_ble_eq_true rfl) dL_tagCount_4 ⟨(Nat.le_of_ble_eq_true rfl), (Nat.le_of_ble_eq_true rfl)⟩) hS hown [] (⟨0, 9, 12, 19⟩ : ExceptionTableEntry) [] htab (fun z hz => nomatch hz) (by decide) (by decide) (hts _ qw_674) (va_Nw.use rfl (hE.2.2.2.2.2.2.2.1 (exN 0, exN 0) (by decide))) rfl (fun H locs z q9 hM hS => ?_)
    refine lv_astore_n (lv' := [(3, .ref q9), (0, .ref x), (1, .int a1), (2, .ref out)]) hx hb dL_tagCount_12 rfl hl (by decide) rfl (fun ls hl => ?_)
    refine lv_iconst (v := 1) hx hb dL_tagCount_13 (by decide) ?_
    exact eIz hx hb hr hlocks hM hS dL_tagCount_14 (Nat.le_of_ble_eq_true rfl) (Nat.le_of_ble_eq_true rfl)
  obtain ⟨hk1, h1⟩ := ifg h1
  refine kx_ok1 (kx_V (ci := 4) (As := [.int a1]) (rest := [.int 0, .ref out]) hC hE hS hM (mt_X4_tagCount _ hfl E x a1 _ _ _ h1) (gwV qw_831 qw_832 qw_833 qw_92 qw_834) ⟨rfl, rfl, (Nat.le_of_ble_eq_true rfl), (Nat.le_of_ble_eq_true rfl)⟩ dd_X4_tagCount rfl hk1 rfl rfl hl.1 (Nat.le_of_ble_eq_true rfl) dL_tagCount_4 ⟨(Nat.le_of_ble_eq_true rfl), (Nat.le_of_ble_eq_true rfl)⟩) hS (fun H locs hM hS => ?_)
  refine lv_i2l (v := v1.toInt64) hx hb dL_tagCount_7 rfl ?_
  obtain ⟨M3, h1, h⟩ := ob h
  refine r_last hx hb hE hM hS h1 dL_tagCount_8 (fun H locs hM hS => ?_)
  refine lv_goto (tgt := 15) hx hb dL_tagCount_9 (by decide) ?_
  refine lv_iconst (v := 0) hx hb dL_tagCount_15 (by decide) ?_
  cases h
  exact eIz (z := mZ M') hx hb hr hlocks (show MOK E (setZ M' (mZ M')) _ from hM) hS dL_tagCount_16 (Nat.le_of_ble_eq_true rfl) (Nat.le_of_ble_eq_true rfl)

theorem dd_L_tagAt : yL_tagAt.cls ≠ "java/lang/invoke/MethodHandle" ∧ yL_tagAt.cls ≠ "java/lang/invoke/VarHandle" ∧ (parseMethodDescriptor yL_tagAt.desc).map (fun d => d.parameters.length) = some 4 := by decide +kernel
abbrev rm_L_tagAt : Room := ({ frames := 9, cells := 2, slots := 12, locals := 155 } : Room)
noncomputable def f_L_tagAt (x : Nat) (a1 : Int32) (a2 : Int32) (out : Nat) (M : Mem) : Option (Int32 × Mem) :=
  bx (cK 5 x M (f_X4_tagAt x a1 a2 M)) (hnd1 0) fun v1 M2 =>
  (sL out 0 v1.toInt64 M2).bind fun M3 =>
  some (0, M3)
set_option maxHeartbeats 4000000 in
set_option maxRecDepth 100000 in
theorem mt_L_tagAt (l : Launch) (hfl : l.stackTraces = false) (E : KEnv) (x : Nat) (a1 : Int32) (a2 : Int32) (out : Nat) (M M' : Mem) (v : Int32) (h : f_L_tagAt x a1 a2 out M = some (v, M')) : Met l yL_tagAt (Cond.codeWith yL_tagAt cL_tagAt 5 (some .int) [(0, 10, 13, 19)] :: lw_G) rm_L_tagAt (cPc E [.ref x, .int a1, .int a2, .ref out] M) (cQz E (some (.int v)) M') 2 12 (eA E) := by
  refine Met_ofWH (cc := cL_tagAt) (maxL := 5) (ret := (some .int)) (hh := [(0, 10, 13, 19)]) (by decide) rfl ?_
  intro p e s m args below meth c s₁ B hml hv
  obtain ⟨rfl, hE, hM⟩ := hv
  have hx := B.exec
  have hb := B.bytes
  have hr := B.returns
  have hts0 := atoms_spec (ws := Cond.codeWith yL_tagAt cL_tagAt 5 (some .int) [(0, 10, 13, 19)] :: lw_G) B.pre
  have hts : ∀ w ∈ lw_G, w.before _ s = true := fun w hw => hts0 w (List.mem_cons_of_mem _ hw)
  have htab := vx_table (x := yL_tagAt) B (hts0 _ List.mem_cons_self)
  have hown : s.vm.findClass RL = some m.cls := findClass_of_methodNamed B.named
  have hlocks := B.notSynchronized
  have hC : CallFix p m c cL_tagAt 5 s _ lw_G RL := ⟨hx, hb, hml, hown, hts⟩
  have hS : va_S (eA E) s.heap s.heap [] := va_S.rf
  have hl := lv_entry ([.ref x, .int a1, .int a2, .ref out]) (n := 5) (Nat.le_of_ble_eq_true rfl)
  rw [lg_entry_eq]
  generalize (lg_sl ([.ref x, .int a1, .int a2, .ref out]) ++ List.replicate (5 - (lg_sl ([.ref x, .int a1, .int a2, .ref out])).length) Slot.unset).toArray = ls at hl ⊢
  have hl : lv_has ls 5 [(0, .ref x), (1, .int a1), (2, .int a2), (3, .ref out)] := hl
  unfold f_L_tagAt at h
  show W p l e rm_L_tagAt s m _ below meth c s.heap [] 0 0 _ _
  refine lv_aload_n hx hb dL_tagAt_0 rfl (lv_at hl 3 rfl) ?_
  refine lv_iconst (v := 0) hx hb dL_tagAt_1 (by decide) ?_
  refine lv_aload_n hx hb dL_tagAt_2 rfl (lv_at hl 0 rfl) ?_
  refine lv_iload_n hx hb dL_tagAt_3 rfl (lv_at hl 1 rfl) ?_
  refine lv_iload_n hx hb dL_tagAt_4 rfl (lv_at hl 2 rfl) ?_
  rcases obx h with ⟨v1, M2, h1, h⟩ | ⟨ex, M9, h1, h⟩
  rotate_left
  · obtain ⟨hk1, h1⟩ := ifg h1
    unfold hnd1 at h
    obtain ⟨e1, h⟩ := ifg h
    subst e1
    cases h
    refine kx_hand (hpc := 13) (kx_V (ci := 4) (As := [.int a1, .int a2]) (rest := [.int 0, .ref out]) hC hE hS hM (mt_X4_tagAt _ hfl E x a1 a2 _ _ _ h1) (gwV qw_838 qw_839 qw_840 qw_92 qw_841) ⟨rfl, rfl, (Nat.le_of_ble_eq_true rfl), (Nat.le_of_ble_eq_true rfl)⟩ dd_X4_tagAt rfl hk1 rfl rfl hl.1 (Nat.le_of_ble_eq_true rfl) dL_tagAt_5 ⟨(Nat.le_of_ble_eq_true rfl), (Nat.le_of_ble_eq_true rfl)⟩) hS hown [] (⟨0, 10, 13, 19⟩ : ExceptionTableEntry) [] htab (fun z hz => nomatch hz) (by decide) (by decide) (hts _ qw_674) (va_Nw.use rfl (hE.2.2.2.2.2.2.2.1 (exN 0, exN 0) (by decide))) rfl (fun H locs z q9 hM hS => ?_)
    refine lv_astore (lv' := [(4, .ref q9), (0, .ref x), (1, .int a1), (2, .int a2), (3, .ref out)]) hx hb dL_tagAt_13 hl (by decide) rfl (fun ls hl => ?_)
    refine lv_iconst (v := 1) hx hb dL_tagAt_15 (by decide) ?_
    exact eIz hx hb hr hlocks hM hS dL_tagAt_16 (Nat.le_of_ble_eq_true rfl) (Nat.le_of_ble_eq_true rfl)
  obtain ⟨hk1, h1⟩ := ifg h1
  refine kx_ok1 (kx_V (ci := 4) (As := [.int a1, .int a2]) (rest := [.int 0, .ref out]) hC hE hS hM (mt_X4_tagAt _ hfl E x a1 a2 _ _ _ h1) (gwV qw_838 qw_839 qw_840 qw_92 qw_841) ⟨rfl, rfl, (Nat.le_of_ble_eq_true rfl), (Nat.le_of_ble_eq_true rfl)⟩ dd_X4_tagAt rfl hk1 rfl rfl hl.1 (Nat.le_of_ble_eq_true rfl) dL_tagAt_5 ⟨(Nat.le_of_ble_eq_true rfl), (Nat.le_of_ble_eq_true rfl)⟩) hS (fun H locs hM hS => ?_)
  refine lv_i2l (v := v1.toInt64) hx hb dL_tagAt_8 rfl ?_
  obtain ⟨M3, h1, h⟩ := ob h
  refine r_last hx hb hE hM hS h1 dL_tagAt_9 (fun H locs hM hS => ?_)
  refine lv_goto (tgt := 17) hx hb dL_tagAt_10 (by decide) ?_
  refine lv_iconst (v := 0) hx hb dL_tagAt_17 (by decide) ?_
  cases h
  exact eIz (z := mZ M') hx hb hr hlocks (show MOK E (setZ M' (mZ M')) _ from hM) hS dL_tagAt_18 (Nat.le_of_ble_eq_true rfl) (Nat.le_of_ble_eq_true rfl)

theorem dd_L_entryCount : yL_entryCount.cls ≠ "java/lang/invoke/MethodHandle" ∧ yL_entryCount.cls ≠ "java/lang/invoke/VarHandle" ∧ (parseMethodDescriptor yL_entryCount.desc).map (fun d => d.parameters.length) = some 4 := by decide +kernel
abbrev rm_L_entryCount : Room := ({ frames := 9, cells := 2, slots := 12, locals := 155 } : Room)
noncomputable def f_L_entryCount (x : Nat) (a1 : Int32) (a2 : Int32) (out : Nat) (M : Mem) : Option (Int32 × Mem) :=
  bx (cK 5 x M (f_X4_entryCount x a1 a2 M)) (hnd1 0) fun v1 M2 =>
  (sL out 0 v1.toInt64 M2).bind fun M3 =>
  some (0, M3)
set_option maxHeartbeats 4000000 in
set_option maxRecDepth 100000 in
theorem mt_L_entryCount (l : Launch) (hfl : l.stackTraces = false) (E : KEnv) (x : Nat) (a1 : Int32) (a2 : Int32) (out : Nat) (M M' : Mem) (v : Int32) (h : f_L_entryCount x a1 a2 out M = some (v, M')) : Met l yL_entryCount (Cond.codeWith yL_entryCount cL_entryCount 5 (some .int) [(0, 10, 13, 19)] :: lw_G) rm_L_entryCount (cPc E [.ref x, .int a1, .int a2, .ref out] M) (cQz E (some (.int v)) M') 2 12 (eA E) := by
  refine Met_ofWH (cc := cL_entryCount) (maxL := 5) (ret := (some .int)) (hh := [(0, 10, 13, 19)]) (by decide) rfl ?_
  intro p e s m args below meth c s₁ B hml hv
  obtain ⟨rfl, hE, hM⟩ := hv
  have hx := B.exec
  have hb := B.bytes
  have hr := B.returns
  have hts0 := atoms_spec (ws := Cond.codeWith yL_entryCount cL_entryCount 5 (some .int) [(0, 10, 13, 19)] :: lw_G) B.pre
  have hts : ∀ w ∈ lw_G, w.before _ s = true := fun w hw => hts0 w (List.mem_cons_of_mem _ hw)
  have htab := vx_table (x := yL_entryCount) B (hts0 _ List.mem_cons_self)
  have hown : s.vm.findClass RL = some m.cls := findClass_of_methodNamed B.named
  have hlocks := B.notSynchronized
  have hC : CallFix p m c cL_entryCount 5 s _ lw_G RL := ⟨hx, hb, hml, hown, hts⟩
  have hS : va_S (eA E) s.heap s.heap [] := va_S.rf
  have hl := lv_entry ([.ref x, .int a1, .int a2, .ref out]) (n := 5) (Nat.le_of_ble_eq_true rfl)
  rw [lg_entry_eq]
  generalize (lg_sl ([.ref x, .int a1, .int a2, .ref out]) ++ List.replicate (5 - (lg_sl ([.ref x, .int a1, .int a2, .ref out])).length) Slot.unset).toArray = ls at hl ⊢
  have hl : lv_has ls 5 [(0, .ref x), (1, .int a1), (2, .int a2), (3, .ref out)] := hl
  unfold f_L_entryCount at h
  show W p l e rm_L_entryCount s m _ below meth c s.heap [] 0 0 _ _
  refine lv_aload_n hx hb dL_entryCount_0 rfl (lv_at hl 3 rfl) ?_
  refine lv_iconst (v := 0) hx hb dL_entryCount_1 (by decide) ?_
  refine lv_aload_n hx hb dL_entryCount_2 rfl (lv_at hl 0 rfl) ?_
  refine lv_iload_n hx hb dL_entryCount_3 rfl (lv_at hl 1 rfl) ?_
  refine lv_iload_n hx hb dL_entryCount_4 rfl (lv_at hl 2 rfl) ?_
  rcases obx h with ⟨v1, M2, h1, h⟩ | ⟨ex, M9, h1, h⟩
  rotate_left
  · obtain ⟨hk1, h1⟩ := ifg h1
    unfold hnd1 at h
    obtain ⟨e1, h⟩ := ifg h
    subst e1
    cases h
    refine kx_hand (hpc := 13) (kx_V (ci := 4) (As := [.int a1, .int a2]) (rest := [.int 0, .ref out]) hC hE hS hM (mt_X4_entryCount _ hfl E x a1 a2 _ _ _ h1) (gwV qw_849 qw_850 qw_851 qw_92 qw_852) ⟨rfl, rfl, (Nat.le_of_ble_eq_true rfl), (Nat.le_of_ble_eq_true rfl)⟩ dd_X4_entryCount rfl hk1 rfl rfl hl.1 (Nat.le_of_ble_eq_true rfl) dL_entryCount_5 ⟨(Nat.le_of_ble_eq_true rfl), (Nat.le_of_ble_eq_true rfl)⟩) hS hown [] (⟨0, 10, 13, 19⟩ : ExceptionTableEntry) [] htab (fun z hz => nomatch hz) (by decide) (by decide) (hts _ qw_674) (va_Nw.use rfl (hE.2.2.2.2.2.2.2.1 (exN 0, exN 0) (by decide))) rfl (fun H locs z q9 hM hS => ?_)
    refine lv_astore (lv' := [(4, .ref q9), (0, .ref x), (1, .int a1), (2, .int a2), (3, .ref out)]) hx hb dL_entryCount_13 hl (by decide) rfl (fun ls hl => ?_)
    refine lv_iconst (v := 1) hx hb dL_entryCount_15 (by decide) ?_
    exact eIz hx hb hr hlocks hM hS dL_entryCount_16 (Nat.le_of_ble_eq_true rfl) (Nat.le_of_ble_eq_true rfl)
  obtain ⟨hk1, h1⟩ := ifg h1
  refine kx_ok1 (kx_V (ci := 4) (As := [.int a1, .int a2]) (rest := [.int 0, .ref out]) hC hE hS hM (mt_X4_entryCount _ hfl E x a1 a2 _ _ _ h1) (gwV qw_849 qw_850 qw_851 qw_92 qw_852) ⟨rfl, rfl, (Nat.le_of_ble_eq_true rfl), (Nat.le_of_ble_eq_true rfl)⟩ dd_X4_entryCount rfl hk1 rfl rfl hl.1 (Nat.le_of_ble_eq_true rfl) dL_entryCount_5 ⟨(Nat.le_of_ble_eq_true rfl), (Nat.le_of_ble_eq_true rfl)⟩) hS (fun H locs hM hS => ?_)
  refine lv_i2l (v := v1.toInt64) hx hb dL_entryCount_8 rfl ?_
  obtain ⟨M3, h1, h⟩ := ob h
  refine r_last hx hb hE hM hS h1 dL_entryCount_9 (fun H locs hM hS => ?_)
  refine lv_goto (tgt := 17) hx hb dL_entryCount_10 (by decide) ?_
  refine lv_iconst (v := 0) hx hb dL_entryCount_17 (by decide) ?_
  cases h
  exact eIz (z := mZ M') hx hb hr hlocks (show MOK E (setZ M' (mZ M')) _ from hM) hS dL_entryCount_18 (Nat.le_of_ble_eq_true rfl) (Nat.le_of_ble_eq_true rfl)

theorem dd_L_entryValue : yL_entryValue.cls ≠ "java/lang/invoke/MethodHandle" ∧ yL_entryValue.cls ≠ "java/lang/invoke/VarHandle" ∧ (parseMethodDescriptor yL_entryValue.desc).map (fun d => d.parameters.length) = some 5 := by decide +kernel
abbrev rm_L_entryValue : Room := ({ frames := 9, cells := 3, slots := 18, locals := 156 } : Room)
noncomputable def f_L_entryValue (x : Nat) (a1 : Int32) (a2 : Int32) (a3 : Int32) (out : Nat) (M : Mem) : Option (Int32 × Mem) :=
  bx (cK 5 x M (f_X4_entryValue x a1 a2 a3 M)) (hnd1 0) fun v1 M2 =>
  (sL out 0 v1.toInt64 M2).bind fun M3 =>
  some (0, M3)
set_option maxHeartbeats 4000000 in
set_option maxRecDepth 100000 in
theorem mt_L_entryValue (l : Launch) (hfl : l.stackTraces = false) (E : KEnv) (x : Nat) (a1 : Int32) (a2 : Int32) (a3 : Int32) (out : Nat) (M M' : Mem) (v : Int32) (h : f_L_entryValue x a1 a2 a3 out M = some (v, M')) : Met l yL_entryValue (Cond.codeWith yL_entryValue cL_entryValue 6 (some .int) [(0, 12, 15, 19)] :: lw_G) rm_L_entryValue (cPc E [.ref x, .int a1, .int a2, .int a3, .ref out] M) (cQz E (some (.int v)) M') 3 18 (eA E) := by
  refine Met_ofWH (cc := cL_entryValue) (maxL := 6) (ret := (some .int)) (hh := [(0, 12, 15, 19)]) (by decide) rfl ?_
  intro p e s m args below meth c s₁ B hml hv
  obtain ⟨rfl, hE, hM⟩ := hv
  have hx := B.exec
  have hb := B.bytes
  have hr := B.returns
  have hts0 := atoms_spec (ws := Cond.codeWith yL_entryValue cL_entryValue 6 (some .int) [(0, 12, 15, 19)] :: lw_G) B.pre
  have hts : ∀ w ∈ lw_G, w.before _ s = true := fun w hw => hts0 w (List.mem_cons_of_mem _ hw)
  have htab := vx_table (x := yL_entryValue) B (hts0 _ List.mem_cons_self)
  have hown : s.vm.findClass RL = some m.cls := findClass_of_methodNamed B.named
  have hlocks := B.notSynchronized
  have hC : CallFix p m c cL_entryValue 6 s _ lw_G RL := ⟨hx, hb, hml, hown, hts⟩
  have hS : va_S (eA E) s.heap s.heap [] := va_S.rf
  have hl := lv_entry ([.ref x, .int a1, .int a2, .int a3, .ref out]) (n := 6) (Nat.le_of_ble_eq_true rfl)
  rw [lg_entry_eq]
  generalize (lg_sl ([.ref x, .int a1, .int a2, .int a3, .ref out]) ++ List.replicate (6 - (lg_sl ([.ref x, .int a1, .int a2, .int a3, .ref out])).length) Slot.unset).toArray = ls at hl ⊢
  have hl : lv_has ls 6 [(0, .ref x), (1, .int a1), (2, .int a2), (3, .int a3), (4, .ref out)] := hl
  unfold f_L_entryValue at h
  show W p l e rm_L_entryValue s m _ below meth c s.heap [] 0 0 _ _
  refine lv_aload hx hb dL_entryValue_0 (lv_at hl 4 rfl) ?_
  refine lv_iconst (v := 0) hx hb dL_entryValue_2 (by decide) ?_
  refine lv_aload_n hx hb dL_entryValue_3 rfl (lv_at hl 0 rfl) ?_
  refine lv_iload_n hx hb dL_entryValue_4 rfl (lv_at hl 1 rfl) ?_
  refine lv_iload_n hx hb dL_entryValue_5 rfl (lv_at hl 2 rfl) ?_
  refine lv_iload_n hx hb dL_entryValue_6 rfl (lv_at hl 3 rfl) ?_
  rcases obx h with ⟨v1, M2, h1, h⟩ | ⟨ex, M9, h1, h⟩
  rotate_left
  · obtain ⟨hk1, h1⟩ := ifg h1
    unfold hnd1 at h
    obtain ⟨e1, h⟩ := ifg h
    subst e1
    cases h
    refine kx_hand (hpc := 15) (kx_V (ci := 4) (As := [.int a1, .int a2, .int a3]) (rest := [.int 0, .ref out]) hC hE hS hM (mt_X4_entryValue _ hfl E x a1 a2 a3 _ _ _ h1) (gwV qw_862 qw_863 qw_864 qw_92 qw_865) ⟨rfl, rfl, (Nat.le_of_ble_eq_true rfl), (Nat.le_of_ble_eq_true rfl)⟩ dd_X4_entryValue rfl hk1 rfl rfl hl.1 (Nat.le_of_ble_eq_true rfl) dL_entryValue_7 ⟨(Nat.le_of_ble_eq_true rfl), (Nat.le_of_ble_eq_true rfl)⟩) hS hown [] (⟨0, 12, 15, 19⟩ : ExceptionTableEntry) [] htab (fun z hz => nomatch hz) (by decide) (by decide) (hts _ qw_674) (va_Nw.use rfl (hE.2.2.2.2.2.2.2.1 (exN 0, exN 0) (by decide))) rfl (fun H locs z q9 hM hS => ?_)
    refine lv_astore (lv' := [(5, .ref q9), (0, .ref x), (1, .int a1), (2, .int a2), (3, .int a3), (4, .ref out)]) hx hb dL_entryValue_15 hl (by decide) rfl (fun ls hl => ?_)
    refine lv_iconst (v := 1) hx hb dL_entryValue_17 (by decide) ?_
    exact eIz hx hb hr hlocks hM hS dL_entryValue_18 (Nat.le_of_ble_eq_true rfl) (Nat.le_of_ble_eq_true rfl)
  obtain ⟨hk1, h1⟩ := ifg h1
  refine kx_ok1 (kx_V (ci := 4) (As := [.int a1, .int a2, .int a3]) (rest := [.int 0, .ref out]) hC hE hS hM (mt_X4_entryValue _ hfl E x a1 a2 a3 _ _ _ h1) (gwV qw_862 qw_863 qw_864 qw_92 qw_865) ⟨rfl, rfl, (Nat.le_of_ble_eq_true rfl), (Nat.le_of_ble_eq_true rfl)⟩ dd_X4_entryValue rfl hk1 rfl rfl hl.1 (Nat.le_of_ble_eq_true rfl) dL_entryValue_7 ⟨(Nat.le_of_ble_eq_true rfl), (Nat.le_of_ble_eq_true rfl)⟩) hS (fun H locs hM hS => ?_)
  refine lv_i2l (v := v1.toInt64) hx hb dL_entryValue_10 rfl ?_
  obtain ⟨M3, h1, h⟩ := ob h
  refine r_last hx hb hE hM hS h1 dL_entryValue_11 (fun H locs hM hS => ?_)
  refine lv_goto (tgt := 19) hx hb dL_entryValue_12 (by decide) ?_
  refine lv_iconst (v := 0) hx hb dL_entryValue_19 (by decide) ?_
  cases h
  exact eIz (z := mZ M') hx hb hr hlocks (show MOK E (setZ M' (mZ M')) _ from hM) hS dL_entryValue_20 (Nat.le_of_ble_eq_true rfl) (Nat.le_of_ble_eq_true rfl)

theorem dd_L_greatestValue : yL_greatestValue.cls ≠ "java/lang/invoke/MethodHandle" ∧ yL_greatestValue.cls ≠ "java/lang/invoke/VarHandle" ∧ (parseMethodDescriptor yL_greatestValue.desc).map (fun d => d.parameters.length) = some 4 := by decide +kernel
abbrev rm_L_greatestValue : Room := ({ frames := 9, cells := 2, slots := 12, locals := 157 } : Room)
noncomputable def f_L_greatestValue (x : Nat) (a1 : Int32) (a2 : Int32) (out : Nat) (M : Mem) : Option (Int32 × Mem) :=
  bx (cK 5 x M (f_X4_greatestValue x a1 a2 M)) (hnd1 0) fun v1 M2 =>
  (sL out 0 v1.toInt64 M2).bind fun M3 =>
  some (0, M3)
set_option maxHeartbeats 4000000 in
set_option maxRecDepth 100000 in
theorem mt_L_greatestValue (l : Launch) (hfl : l.stackTraces = false) (E : KEnv) (x : Nat) (a1 : Int32) (a2 : Int32) (out : Nat) (M M' : Mem) (v : Int32) (h : f_L_greatestValue x a1 a2 out M = some (v, M')) : Met l yL_greatestValue (Cond.codeWith yL_greatestValue cL_greatestValue 5 (some .int) [(0, 10, 13, 19)] :: lw_G) rm_L_greatestValue (cPc E [.ref x, .int a1, .int a2, .ref out] M) (cQz E (some (.int v)) M') 2 12 (eA E) := by
  refine Met_ofWH (cc := cL_greatestValue) (maxL := 5) (ret := (some .int)) (hh := [(0, 10, 13, 19)]) (by decide) rfl ?_
  intro p e s m args below meth c s₁ B hml hv
  obtain ⟨rfl, hE, hM⟩ := hv
  have hx := B.exec
  have hb := B.bytes
  have hr := B.returns
  have hts0 := atoms_spec (ws := Cond.codeWith yL_greatestValue cL_greatestValue 5 (some .int) [(0, 10, 13, 19)] :: lw_G) B.pre
  have hts : ∀ w ∈ lw_G, w.before _ s = true := fun w hw => hts0 w (List.mem_cons_of_mem _ hw)
  have htab := vx_table (x := yL_greatestValue) B (hts0 _ List.mem_cons_self)
  have hown : s.vm.findClass RL = some m.cls := findClass_of_methodNamed B.named
  have hlocks := B.notSynchronized
  have hC : CallFix p m c cL_greatestValue 5 s _ lw_G RL := ⟨hx, hb, hml, hown, hts⟩
  have hS : va_S (eA E) s.heap s.heap [] := va_S.rf
  have hl := lv_entry ([.ref x, .int a1, .int a2, .ref out]) (n := 5) (Nat.le_of_ble_eq_true rfl)
  rw [lg_entry_eq]
  generalize (lg_sl ([.ref x, .int a1, .int a2, .ref out]) ++ List.replicate (5 - (lg_sl ([.ref x, .int a1, .int a2, .ref out])).length) Slot.unset).toArray = ls at hl ⊢
  have hl : lv_has ls 5 [(0, .ref x), (1, .int a1), (2, .int a2), (3, .ref out)] := hl
  unfold f_L_greatestValue at h
  show W p l e rm_L_greatestValue s m _ below meth c s.heap [] 0 0 _ _
  refine lv_aload_n hx hb dL_greatestValue_0 rfl (lv_at hl 3 rfl) ?_
  refine lv_iconst (v := 0) hx hb dL_greatestValue_1 (by decide) ?_
  refine lv_aload_n hx hb dL_greatestValue_2 rfl (lv_at hl 0 rfl) ?_
  refine lv_iload_n hx hb dL_greatestValue_3 rfl (lv_at hl 1 rfl) ?_
  refine lv_iload_n hx hb dL_greatestValue_4 rfl (lv_at hl 2 rfl) ?_
  rcases obx h with ⟨v1, M2, h1, h⟩ | ⟨ex, M9, h1, h⟩
  rotate_left
  · obtain ⟨hk1, h1⟩ := ifg h1
    unfold hnd1 at h
    obtain ⟨e1, h⟩ := ifg h
    subst e1
    cases h
    refine kx_hand (hpc := 13) (kx_V (ci := 4) (As := [.int a1, .int a2]) (rest := [.int 0, .ref out]) hC hE hS hM (mt_X4_greatestValue _ hfl E x a1 a2 _ _ _ h1) (gwV qw_873 qw_874 qw_875 qw_92 qw_876) ⟨rfl, rfl, (Nat.le_of_ble_eq_true rfl), (Nat.le_of_ble_eq_true rfl)⟩ dd_X4_greatestValue rfl hk1 rfl rfl hl.1 (Nat.le_of_ble_eq_true rfl) dL_greatestValue_5 ⟨(Nat.le_of_ble_eq_true rfl), (Nat.le_of_ble_eq_true rfl)⟩) hS hown [] (⟨0, 10, 13, 19⟩ : ExceptionTableEntry) [] htab (fun z hz => nomatch hz) (by decide) (by decide) (hts _ qw_674) (va_Nw.use rfl (hE.2.2.2.2.2.2.2.1 (exN 0, exN 0) (by decide))) rfl (fun H locs z q9 hM hS => ?_)
    refine lv_astore (lv' := [(4, .ref q9), (0, .ref x), (1, .int a1), (2, .int a2), (3, .ref out)]) hx hb dL_greatestValue_13 hl (by decide) rfl (fun ls hl => ?_)
    refine lv_iconst (v := 1) hx hb dL_greatestValue_15 (by decide) ?_
    exact eIz hx hb hr hlocks hM hS dL_greatestValue_16 (Nat.le_of_ble_eq_true rfl) (Nat.le_of_ble_eq_true rfl)
  obtain ⟨hk1, h1⟩ := ifg h1
  refine kx_ok1 (kx_V (ci := 4) (As := [.int a1, .int a2]) (rest := [.int 0, .ref out]) hC hE hS hM (mt_X4_greatestValue _ hfl E x a1 a2 _ _ _ h1) (gwV qw_873 qw_874 qw_875 qw_92 qw_876) ⟨rfl, rfl, (Nat.le_of_ble_eq_true rfl), (Nat.le_of_ble_eq_true rfl)⟩ dd_X4_greatestValue rfl hk1 rfl rfl hl.1 (Nat.le_of_ble_eq_true rfl) dL_greatestValue_5 ⟨(Nat.le_of_ble_eq_true rfl), (Nat.le_of_ble_eq_true rfl)⟩) hS (fun H locs hM hS => ?_)
  refine lv_i2l (v := v1.toInt64) hx hb dL_greatestValue_8 rfl ?_
  obtain ⟨M3, h1, h⟩ := ob h
  refine r_last hx hb hE hM hS h1 dL_greatestValue_9 (fun H locs hM hS => ?_)
  refine lv_goto (tgt := 17) hx hb dL_greatestValue_10 (by decide) ?_
  refine lv_iconst (v := 0) hx hb dL_greatestValue_17 (by decide) ?_
  cases h
  exact eIz (z := mZ M') hx hb hr hlocks (show MOK E (setZ M' (mZ M')) _ from hM) hS dL_greatestValue_18 (Nat.le_of_ble_eq_true rfl) (Nat.le_of_ble_eq_true rfl)

theorem dd_L_conflicts : yL_conflicts.cls ≠ "java/lang/invoke/MethodHandle" ∧ yL_conflicts.cls ≠ "java/lang/invoke/VarHandle" ∧ (parseMethodDescriptor yL_conflicts.desc).map (fun d => d.parameters.length) = some 3 := by decide +kernel
abbrev rm_L_conflicts : Room := ({ frames := 9, cells := 1, slots := 6, locals := 153 } : Room)
noncomputable def f_L_conflicts (x : Nat) (a1 : Int32) (out : Nat) (M : Mem) : Option (Int32 × Mem) :=
  bx (cK 5 x M (f_X4_conflicts x a1 M)) (hnd1 0) fun v1 M2 =>
  (sL out 0 v1.toInt64 M2).bind fun M3 =>
  some (0, M3)
set_option maxHeartbeats 4000000 in
set_option maxRecDepth 100000 in
theorem mt_L_conflicts (l : Launch) (hfl : l.stackTraces = false) (E : KEnv) (x : Nat) (a1 : Int32) (out : Nat) (M M' : Mem) (v : Int32) (h : f_L_conflicts x a1 out M = some (v, M')) : Met l yL_conflicts (Cond.codeWith yL_conflicts cL_conflicts 4 (some .int) [(0, 9, 12, 19)] :: lw_G) rm_L_conflicts (cPc E [.ref x, .int a1, .ref out] M) (cQz E (some (.int v)) M') 1 6 (eA E) := by
  refine Met_ofWH (cc := cL_conflicts) (maxL := 4) (ret := (some .int)) (hh := [(0, 9, 12, 19)]) (by decide) rfl ?_
  intro p e s m args below meth c s₁ B hml hv
  obtain ⟨rfl, hE, hM⟩ := hv
  have hx := B.exec
  have hb := B.bytes
  have hr := B.returns
  have hts0 := atoms_spec (ws := Cond.codeWith yL_conflicts cL_conflicts 4 (some .int) [(0, 9, 12, 19)] :: lw_G) B.pre
  have hts : ∀ w ∈ lw_G, w.before _ s = true := fun w hw => hts0 w (List.mem_cons_of_mem _ hw)
  have htab := vx_table (x := yL_conflicts) B (hts0 _ List.mem_cons_self)
  have hown : s.vm.findClass RL = some m.cls := findClass_of_methodNamed B.named
  have hlocks := B.notSynchronized
  have hC : CallFix p m c cL_conflicts 4 s _ lw_G RL := ⟨hx, hb, hml, hown, hts⟩
  have hS : va_S (eA E) s.heap s.heap [] := va_S.rf
  have hl := lv_entry ([.ref x, .int a1, .ref out]) (n := 4) (Nat.le_of_ble_eq_true rfl)
  rw [lg_entry_eq]
  generalize (lg_sl ([.ref x, .int a1, .ref out]) ++ List.replicate (4 - (lg_sl ([.ref x, .int a1, .ref out])).length) Slot.unset).toArray = ls at hl ⊢
  have hl : lv_has ls 4 [(0, .ref x), (1, .int a1), (2, .ref out)] := hl
  unfold f_L_conflicts at h
  show W p l e rm_L_conflicts s m _ below meth c s.heap [] 0 0 _ _
  refine lv_aload_n hx hb dL_conflicts_0 rfl (lv_at hl 2 rfl) ?_
  refine lv_iconst (v := 0) hx hb dL_conflicts_1 (by decide) ?_
  refine lv_aload_n hx hb dL_conflicts_2 rfl (lv_at hl 0 rfl) ?_
  refine lv_iload_n hx hb dL_conflicts_3 rfl (lv_at hl 1 rfl) ?_
  rcases obx h with ⟨v1, M2, h1, h⟩ | ⟨ex, M9, h1, h⟩
  rotate_left
  · obtain ⟨hk1, h1⟩ := ifg h1
    unfold hnd1 at h
    obtain ⟨e1, h⟩ := ifg h
    subst e1
    cases h
    refine kx_hand (hpc := 12) (kx_V (ci := 4) (As := [.int a1]) (rest := [.int 0, .ref out]) hC hE hS hM (mt_X4_conflicts _ hfl E x a1 _ _ _ h1) (gwV qw_881 qw_882 qw_883 qw_92 qw_884) ⟨rfl, rfl, (Nat.le_of_ble_eq_true rfl), (Nat.le_of_ble_eq_true rfl)⟩ dd_X4_conflicts rfl hk1 rfl rfl hl.1 (Nat.le_of_ble_eq_true rfl) dL_conflicts_4 ⟨(Nat.le_of_ble_eq_true rfl), (Nat.le_of_ble_eq_true rfl)⟩) hS hown [] (⟨0, 9, 12, 19⟩ : ExceptionTableEntry) [] htab (fun z hz => nomatch hz) (by decide) (by decide) (hts _ qw_674) (va_Nw.use rfl (hE.2.2.2.2.2.2.2.1 (exN 0, exN 0) (by decide))) rfl (fun H locs z q9 hM hS => ?_)
    refine lv_astore_n (lv' := [(3, .ref q9), (0, .ref x), (1, .int a1), (2, .ref out)]) hx hb dL_conflicts_12 rfl hl (by decide) rfl (fun ls hl => ?_)
    refine lv_iconst (v := 1) hx hb dL_conflicts_13 (by decide) ?_
    exact eIz hx hb hr hlocks hM hS dL_conflicts_14 (Nat.le_of_ble_eq_true rfl) (Nat.le_of_ble_eq_true rfl)
  obtain ⟨hk1, h1⟩ := ifg h1
  refine kx_ok1 (kx_V (ci := 4) (As := [.int a1]) (rest := [.int 0, .ref out]) hC hE hS hM (mt_X4_conflicts _ hfl E x a1 _ _ _ h1) (gwV qw_881 qw_882 qw_883 qw_92 qw_884) ⟨rfl, rfl, (Nat.le_of_ble_eq_true rfl), (Nat.le_of_ble_eq_true rfl)⟩ dd_X4_conflicts rfl hk1 rfl rfl hl.1 (Nat.le_of_ble_eq_true rfl) dL_conflicts_4 ⟨(Nat.le_of_ble_eq_true rfl), (Nat.le_of_ble_eq_true rfl)⟩) hS (fun H locs hM hS => ?_)
  refine lv_i2l (v := v1.toInt64) hx hb dL_conflicts_7 rfl ?_
  obtain ⟨M3, h1, h⟩ := ob h
  refine r_last hx hb hE hM hS h1 dL_conflicts_8 (fun H locs hM hS => ?_)
  refine lv_goto (tgt := 15) hx hb dL_conflicts_9 (by decide) ?_
  refine lv_iconst (v := 0) hx hb dL_conflicts_15 (by decide) ?_
  cases h
  exact eIz (z := mZ M') hx hb hr hlocks (show MOK E (setZ M' (mZ M')) _ from hM) hS dL_conflicts_16 (Nat.le_of_ble_eq_true rfl) (Nat.le_of_ble_eq_true rfl)

theorem dd_L_unseenDots : yL_unseenDots.cls ≠ "java/lang/invoke/MethodHandle" ∧ yL_unseenDots.cls ≠ "java/lang/invoke/VarHandle" ∧ (parseMethodDescriptor yL_unseenDots.desc).map (fun d => d.parameters.length) = some 4 := by decide +kernel
abbrev rm_L_unseenDots : Room := ({ frames := 9, cells := 2, slots := 12, locals := 158 } : Room)
noncomputable def f_L_unseenDots (x : Nat) (a1 : Int32) (a2 : Int32) (out : Nat) (M : Mem) : Option (Int32 × Mem) :=
  bx (cK 5 x M (f_X4_unseenDots x a1 a2 M)) (hnd1 0) fun v1 M2 =>
  (sL out 0 v1.toInt64 M2).bind fun M3 =>
  some (0, M3)
set_option maxHeartbeats 4000000 in
set_option maxRecDepth 100000 in
theorem mt_L_unseenDots (l : Launch) (hfl : l.stackTraces = false) (E : KEnv) (x : Nat) (a1 : Int32) (a2 : Int32) (out : Nat) (M M' : Mem) (v : Int32) (h : f_L_unseenDots x a1 a2 out M = some (v, M')) : Met l yL_unseenDots (Cond.codeWith yL_unseenDots cL_unseenDots 5 (some .int) [(0, 10, 13, 19)] :: lw_G) rm_L_unseenDots (cPc E [.ref x, .int a1, .int a2, .ref out] M) (cQz E (some (.int v)) M') 2 12 (eA E) := by
  refine Met_ofWH (cc := cL_unseenDots) (maxL := 5) (ret := (some .int)) (hh := [(0, 10, 13, 19)]) (by decide) rfl ?_
  intro p e s m args below meth c s₁ B hml hv
  obtain ⟨rfl, hE, hM⟩ := hv
  have hx := B.exec
  have hb := B.bytes
  have hr := B.returns
  have hts0 := atoms_spec (ws := Cond.codeWith yL_unseenDots cL_unseenDots 5 (some .int) [(0, 10, 13, 19)] :: lw_G) B.pre
  have hts : ∀ w ∈ lw_G, w.before _ s = true := fun w hw => hts0 w (List.mem_cons_of_mem _ hw)
  have htab := vx_table (x := yL_unseenDots) B (hts0 _ List.mem_cons_self)
  have hown : s.vm.findClass RL = some m.cls := findClass_of_methodNamed B.named
  have hlocks := B.notSynchronized
  have hC : CallFix p m c cL_unseenDots 5 s _ lw_G RL := ⟨hx, hb, hml, hown, hts⟩
  have hS : va_S (eA E) s.heap s.heap [] := va_S.rf
  have hl := lv_entry ([.ref x, .int a1, .int a2, .ref out]) (n := 5) (Nat.le_of_ble_eq_true rfl)
  rw [lg_entry_eq]
  generalize (lg_sl ([.ref x, .int a1, .int a2, .ref out]) ++ List.replicate (5 - (lg_sl ([.ref x, .int a1, .int a2, .ref out])).length) Slot.unset).toArray = ls at hl ⊢
  have hl : lv_has ls 5 [(0, .ref x), (1, .int a1), (2, .int a2), (3, .ref out)] := hl
  unfold f_L_unseenDots at h
  show W p l e rm_L_unseenDots s m _ below meth c s.heap [] 0 0 _ _
  refine lv_aload_n hx hb dL_unseenDots_0 rfl (lv_at hl 3 rfl) ?_
  refine lv_iconst (v := 0) hx hb dL_unseenDots_1 (by decide) ?_
  refine lv_aload_n hx hb dL_unseenDots_2 rfl (lv_at hl 0 rfl) ?_
  refine lv_iload_n hx hb dL_unseenDots_3 rfl (lv_at hl 1 rfl) ?_
  refine lv_iload_n hx hb dL_unseenDots_4 rfl (lv_at hl 2 rfl) ?_
  rcases obx h with ⟨v1, M2, h1, h⟩ | ⟨ex, M9, h1, h⟩
  rotate_left
  · obtain ⟨hk1, h1⟩ := ifg h1
    unfold hnd1 at h
    obtain ⟨e1, h⟩ := ifg h
    subst e1
    cases h
    refine kx_hand (hpc := 13) (kx_V (ci := 4) (As := [.int a1, .int a2]) (rest := [.int 0, .ref out]) hC hE hS hM (mt_X4_unseenDots _ hfl E x a1 a2 _ _ _ h1) (gwV qw_888 qw_889 qw_890 qw_92 qw_891) ⟨rfl, rfl, (Nat.le_of_ble_eq_true rfl), (Nat.le_of_ble_eq_true rfl)⟩ dd_X4_unseenDots rfl hk1 rfl rfl hl.1 (Nat.le_of_ble_eq_true rfl) dL_unseenDots_5 ⟨(Nat.le_of_ble_eq_true rfl), (Nat.le_of_ble_eq_true rfl)⟩) hS hown [] (⟨0, 10, 13, 19⟩ : ExceptionTableEntry) [] htab (fun z hz => nomatch hz) (by decide) (by decide) (hts _ qw_674) (va_Nw.use rfl (hE.2.2.2.2.2.2.2.1 (exN 0, exN 0) (by decide))) rfl (fun H locs z q9 hM hS => ?_)
    refine lv_astore (lv' := [(4, .ref q9), (0, .ref x), (1, .int a1), (2, .int a2), (3, .ref out)]) hx hb dL_unseenDots_13 hl (by decide) rfl (fun ls hl => ?_)
    refine lv_iconst (v := 1) hx hb dL_unseenDots_15 (by decide) ?_
    exact eIz hx hb hr hlocks hM hS dL_unseenDots_16 (Nat.le_of_ble_eq_true rfl) (Nat.le_of_ble_eq_true rfl)
  obtain ⟨hk1, h1⟩ := ifg h1
  refine kx_ok1 (kx_V (ci := 4) (As := [.int a1, .int a2]) (rest := [.int 0, .ref out]) hC hE hS hM (mt_X4_unseenDots _ hfl E x a1 a2 _ _ _ h1) (gwV qw_888 qw_889 qw_890 qw_92 qw_891) ⟨rfl, rfl, (Nat.le_of_ble_eq_true rfl), (Nat.le_of_ble_eq_true rfl)⟩ dd_X4_unseenDots rfl hk1 rfl rfl hl.1 (Nat.le_of_ble_eq_true rfl) dL_unseenDots_5 ⟨(Nat.le_of_ble_eq_true rfl), (Nat.le_of_ble_eq_true rfl)⟩) hS (fun H locs hM hS => ?_)
  refine lv_i2l (v := v1.toInt64) hx hb dL_unseenDots_8 rfl ?_
  obtain ⟨M3, h1, h⟩ := ob h
  refine r_last hx hb hE hM hS h1 dL_unseenDots_9 (fun H locs hM hS => ?_)
  refine lv_goto (tgt := 17) hx hb dL_unseenDots_10 (by decide) ?_
  refine lv_iconst (v := 0) hx hb dL_unseenDots_17 (by decide) ?_
  cases h
  exact eIz (z := mZ M') hx hb hr hlocks (show MOK E (setZ M' (mZ M')) _ from hM) hS dL_unseenDots_18 (Nat.le_of_ble_eq_true rfl) (Nat.le_of_ble_eq_true rfl)

theorem dd_L_deltaSize : yL_deltaSize.cls ≠ "java/lang/invoke/MethodHandle" ∧ yL_deltaSize.cls ≠ "java/lang/invoke/VarHandle" ∧ (parseMethodDescriptor yL_deltaSize.desc).map (fun d => d.parameters.length) = some 4 := by decide +kernel
abbrev rm_L_deltaSize : Room := ({ frames := 9, cells := 2, slots := 12, locals := 154 } : Room)
noncomputable def f_L_deltaSize (x : Nat) (a1 : Int32) (a2 : Int32) (out : Nat) (M : Mem) : Option (Int32 × Mem) :=
  bx (cK 5 x M (f_X4_deltaSize x a1 a2 M)) (hnd1 0) fun v1 M2 =>
  (sL out 0 v1.toInt64 M2).bind fun M3 =>
  some (0, M3)
set_option maxHeartbeats 4000000 in
set_option maxRecDepth 100000 in
theorem mt_L_deltaSize (l : Launch) (hfl : l.stackTraces = false) (E : KEnv) (x : Nat) (a1 : Int32) (a2 : Int32) (out : Nat) (M M' : Mem) (v : Int32) (h : f_L_deltaSize x a1 a2 out M = some (v, M')) : Met l yL_deltaSize (Cond.codeWith yL_deltaSize cL_deltaSize 5 (some .int) [(0, 10, 13, 19)] :: lw_G) rm_L_deltaSize (cPc E [.ref x, .int a1, .int a2, .ref out] M) (cQz E (some (.int v)) M') 2 12 (eA E) := by
  refine Met_ofWH (cc := cL_deltaSize) (maxL := 5) (ret := (some .int)) (hh := [(0, 10, 13, 19)]) (by decide) rfl ?_
  intro p e s m args below meth c s₁ B hml hv
  obtain ⟨rfl, hE, hM⟩ := hv
  have hx := B.exec
  have hb := B.bytes
  have hr := B.returns
  have hts0 := atoms_spec (ws := Cond.codeWith yL_deltaSize cL_deltaSize 5 (some .int) [(0, 10, 13, 19)] :: lw_G) B.pre
  have hts : ∀ w ∈ lw_G, w.before _ s = true := fun w hw => hts0 w (List.mem_cons_of_mem _ hw)
  have htab := vx_table (x := yL_deltaSize) B (hts0 _ List.mem_cons_self)
  have hown : s.vm.findClass RL = some m.cls := findClass_of_methodNamed B.named
  have hlocks := B.notSynchronized
  have hC : CallFix p m c cL_deltaSize 5 s _ lw_G RL := ⟨hx, hb, hml, hown, hts⟩
  have hS : va_S (eA E) s.heap s.heap [] := va_S.rf
  have hl := lv_entry ([.ref x, .int a1, .int a2, .ref out]) (n := 5) (Nat.le_of_ble_eq_true rfl)
  rw [lg_entry_eq]
  generalize (lg_sl ([.ref x, .int a1, .int a2, .ref out]) ++ List.replicate (5 - (lg_sl ([.ref x, .int a1, .int a2, .ref out])).length) Slot.unset).toArray = ls at hl ⊢
  have hl : lv_has ls 5 [(0, .ref x), (1, .int a1), (2, .int a2), (3, .ref out)] := hl
  unfold f_L_deltaSize at h
  show W p l e rm_L_deltaSize s m _ below meth c s.heap [] 0 0 _ _
  refine lv_aload_n hx hb dL_deltaSize_0 rfl (lv_at hl 3 rfl) ?_
  refine lv_iconst (v := 0) hx hb dL_deltaSize_1 (by decide) ?_
  refine lv_aload_n hx hb dL_deltaSize_2 rfl (lv_at hl 0 rfl) ?_
  refine lv_iload_n hx hb dL_deltaSize_3 rfl (lv_at hl 1 rfl) ?_
  refine lv_iload_n hx hb dL_deltaSize_4 rfl (lv_at hl 2 rfl) ?_
  rcases obx h with ⟨v1, M2, h1, h⟩ | ⟨ex, M9, h1, h⟩
  rotate_left
  · obtain ⟨hk1, h1⟩ := ifg h1
    unfold hnd1 at h
    obtain ⟨e1, h⟩ := ifg h
    subst e1
    cases h
    refine kx_hand (hpc := 13) (kx_V (ci := 4) (As := [.int a1, .int a2]) (rest := [.int 0, .ref out]) hC hE hS hM (mt_X4_deltaSize _ hfl E x a1 a2 _ _ _ h1) (gwV qw_895 qw_896 qw_897 qw_92 qw_898) ⟨rfl, rfl, (Nat.le_of_ble_eq_true rfl), (Nat.le_of_ble_eq_true rfl)⟩ dd_X4_deltaSize rfl hk1 rfl rfl hl.1 (Nat.le_of_ble_eq_true rfl) dL_deltaSize_5 ⟨(Nat.le_of_ble_eq_true rfl), (Nat.le_of_ble_eq_true rfl)⟩) hS hown [] (⟨0, 10, 13, 19⟩ : ExceptionTableEntry) [] htab (fun z hz => nomatch hz) (by decide) (by decide) (hts _ qw_674) (va_Nw.use rfl (hE.2.2.2.2.2.2.2.1 (exN 0, exN 0) (by decide))) rfl (fun H locs z q9 hM hS => ?_)
    refine lv_astore (lv' := [(4, .ref q9), (0, .ref x), (1, .int a1), (2, .int a2), (3, .ref out)]) hx hb dL_deltaSize_13 hl (by decide) rfl (fun ls hl => ?_)
    refine lv_iconst (v := 1) hx hb dL_deltaSize_15 (by decide) ?_
    exact eIz hx hb hr hlocks hM hS dL_deltaSize_16 (Nat.le_of_ble_eq_true rfl) (Nat.le_of_ble_eq_true rfl)
  obtain ⟨hk1, h1⟩ := ifg h1
  refine kx_ok1 (kx_V (ci := 4) (As := [.int a1, .int a2]) (rest := [.int 0, .ref out]) hC hE hS hM (mt_X4_deltaSize _ hfl E x a1 a2 _ _ _ h1) (gwV qw_895 qw_896 qw_897 qw_92 qw_898) ⟨rfl, rfl, (Nat.le_of_ble_eq_true rfl), (Nat.le_of_ble_eq_true rfl)⟩ dd_X4_deltaSize rfl hk1 rfl rfl hl.1 (Nat.le_of_ble_eq_true rfl) dL_deltaSize_5 ⟨(Nat.le_of_ble_eq_true rfl), (Nat.le_of_ble_eq_true rfl)⟩) hS (fun H locs hM hS => ?_)
  refine lv_i2l (v := v1.toInt64) hx hb dL_deltaSize_8 rfl ?_
  obtain ⟨M3, h1, h⟩ := ob h
  refine r_last hx hb hE hM hS h1 dL_deltaSize_9 (fun H locs hM hS => ?_)
  refine lv_goto (tgt := 17) hx hb dL_deltaSize_10 (by decide) ?_
  refine lv_iconst (v := 0) hx hb dL_deltaSize_17 (by decide) ?_
  cases h
  exact eIz (z := mZ M') hx hb hr hlocks (show MOK E (setZ M' (mZ M')) _ from hM) hS dL_deltaSize_18 (Nat.le_of_ble_eq_true rfl) (Nat.le_of_ble_eq_true rfl)

theorem dd_L_tagsGained : yL_tagsGained.cls ≠ "java/lang/invoke/MethodHandle" ∧ yL_tagsGained.cls ≠ "java/lang/invoke/VarHandle" ∧ (parseMethodDescriptor yL_tagsGained.desc).map (fun d => d.parameters.length) = some 4 := by decide +kernel
abbrev rm_L_tagsGained : Room := ({ frames := 9, cells := 2, slots := 12, locals := 156 } : Room)
noncomputable def f_L_tagsGained (x : Nat) (a1 : Int32) (a2 : Int32) (out : Nat) (M : Mem) : Option (Int32 × Mem) :=
  bx (cK 5 x M (f_X4_tagsGained x a1 a2 M)) (hnd1 0) fun v1 M2 =>
  (sL out 0 v1.toInt64 M2).bind fun M3 =>
  some (0, M3)
set_option maxHeartbeats 4000000 in
set_option maxRecDepth 100000 in
theorem mt_L_tagsGained (l : Launch) (hfl : l.stackTraces = false) (E : KEnv) (x : Nat) (a1 : Int32) (a2 : Int32) (out : Nat) (M M' : Mem) (v : Int32) (h : f_L_tagsGained x a1 a2 out M = some (v, M')) : Met l yL_tagsGained (Cond.codeWith yL_tagsGained cL_tagsGained 5 (some .int) [(0, 10, 13, 19)] :: lw_G) rm_L_tagsGained (cPc E [.ref x, .int a1, .int a2, .ref out] M) (cQz E (some (.int v)) M') 2 12 (eA E) := by
  refine Met_ofWH (cc := cL_tagsGained) (maxL := 5) (ret := (some .int)) (hh := [(0, 10, 13, 19)]) (by decide) rfl ?_
  intro p e s m args below meth c s₁ B hml hv
  obtain ⟨rfl, hE, hM⟩ := hv
  have hx := B.exec
  have hb := B.bytes
  have hr := B.returns
  have hts0 := atoms_spec (ws := Cond.codeWith yL_tagsGained cL_tagsGained 5 (some .int) [(0, 10, 13, 19)] :: lw_G) B.pre
  have hts : ∀ w ∈ lw_G, w.before _ s = true := fun w hw => hts0 w (List.mem_cons_of_mem _ hw)
  have htab := vx_table (x := yL_tagsGained) B (hts0 _ List.mem_cons_self)
  have hown : s.vm.findClass RL = some m.cls := findClass_of_methodNamed B.named
  have hlocks := B.notSynchronized
  have hC : CallFix p m c cL_tagsGained 5 s _ lw_G RL := ⟨hx, hb, hml, hown, hts⟩
  have hS : va_S (eA E) s.heap s.heap [] := va_S.rf
  have hl := lv_entry ([.ref x, .int a1, .int a2, .ref out]) (n := 5) (Nat.le_of_ble_eq_true rfl)
  rw [lg_entry_eq]
  generalize (lg_sl ([.ref x, .int a1, .int a2, .ref out]) ++ List.replicate (5 - (lg_sl ([.ref x, .int a1, .int a2, .ref out])).length) Slot.unset).toArray = ls at hl ⊢
  have hl : lv_has ls 5 [(0, .ref x), (1, .int a1), (2, .int a2), (3, .ref out)] := hl
  unfold f_L_tagsGained at h
  show W p l e rm_L_tagsGained s m _ below meth c s.heap [] 0 0 _ _
  refine lv_aload_n hx hb dL_tagsGained_0 rfl (lv_at hl 3 rfl) ?_
  refine lv_iconst (v := 0) hx hb dL_tagsGained_1 (by decide) ?_
  refine lv_aload_n hx hb dL_tagsGained_2 rfl (lv_at hl 0 rfl) ?_
  refine lv_iload_n hx hb dL_tagsGained_3 rfl (lv_at hl 1 rfl) ?_
  refine lv_iload_n hx hb dL_tagsGained_4 rfl (lv_at hl 2 rfl) ?_
  rcases obx h with ⟨v1, M2, h1, h⟩ | ⟨ex, M9, h1, h⟩
  rotate_left
  · obtain ⟨hk1, h1⟩ := ifg h1
    unfold hnd1 at h
    obtain ⟨e1, h⟩ := ifg h
    subst e1
    cases h
    refine kx_hand (hpc := 13) (kx_V (ci := 4) (As := [.int a1, .int a2]) (rest := [.int 0, .ref out]) hC hE hS hM (mt_X4_tagsGained _ hfl E x a1 a2 _ _ _ h1) (gwV qw_906 qw_907 qw_908 qw_92 qw_909) ⟨rfl, rfl, (Nat.le_of_ble_eq_true rfl), (Nat.le_of_ble_eq_true rfl)⟩ dd_X4_tagsGained rfl hk1 rfl rfl hl.1 (Nat.le_of_ble_eq_true rfl) dL_tagsGained_5 ⟨(Nat.le_of_ble_eq_true rfl), (Nat.le_of_ble_eq_true rfl)⟩) hS hown [] (⟨0, 10, 13, 19⟩ : ExceptionTableEntry) [] htab (fun z hz => nomatch hz) (by decide) (by decide) (hts _ qw_674) (va_Nw.use rfl (hE.2.2.2.2.2.2.2.1 (exN 0, exN 0) (by decide))) rfl (fun H locs z q9 hM hS => ?_)
    refine lv_astore (lv' := [(4, .ref q9), (0, .ref x), (1, .int a1), (2, .int a2), (3, .ref out)]) hx hb dL_tagsGained_13 hl (by decide) rfl (fun ls hl => ?_)
    refine lv_iconst (v := 1) hx hb dL_tagsGained_15 (by decide) ?_
    exact eIz hx hb hr hlocks hM hS dL_tagsGained_16 (Nat.le_of_ble_eq_true rfl) (Nat.le_of_ble_eq_true rfl)
  obtain ⟨hk1, h1⟩ := ifg h1
  refine kx_ok1 (kx_V (ci := 4) (As := [.int a1, .int a2]) (rest := [.int 0, .ref out]) hC hE hS hM (mt_X4_tagsGained _ hfl E x a1 a2 _ _ _ h1) (gwV qw_906 qw_907 qw_908 qw_92 qw_909) ⟨rfl, rfl, (Nat.le_of_ble_eq_true rfl), (Nat.le_of_ble_eq_true rfl)⟩ dd_X4_tagsGained rfl hk1 rfl rfl hl.1 (Nat.le_of_ble_eq_true rfl) dL_tagsGained_5 ⟨(Nat.le_of_ble_eq_true rfl), (Nat.le_of_ble_eq_true rfl)⟩) hS (fun H locs hM hS => ?_)
  refine lv_i2l (v := v1.toInt64) hx hb dL_tagsGained_8 rfl ?_
  obtain ⟨M3, h1, h⟩ := ob h
  refine r_last hx hb hE hM hS h1 dL_tagsGained_9 (fun H locs hM hS => ?_)
  refine lv_goto (tgt := 17) hx hb dL_tagsGained_10 (by decide) ?_
  refine lv_iconst (v := 0) hx hb dL_tagsGained_17 (by decide) ?_
  cases h
  exact eIz (z := mZ M') hx hb hr hlocks (show MOK E (setZ M' (mZ M')) _ from hM) hS dL_tagsGained_18 (Nat.le_of_ble_eq_true rfl) (Nat.le_of_ble_eq_true rfl)

theorem dd_L_tagsLost : yL_tagsLost.cls ≠ "java/lang/invoke/MethodHandle" ∧ yL_tagsLost.cls ≠ "java/lang/invoke/VarHandle" ∧ (parseMethodDescriptor yL_tagsLost.desc).map (fun d => d.parameters.length) = some 4 := by decide +kernel
abbrev rm_L_tagsLost : Room := ({ frames := 9, cells := 2, slots := 12, locals := 156 } : Room)
noncomputable def f_L_tagsLost (x : Nat) (a1 : Int32) (a2 : Int32) (out : Nat) (M : Mem) : Option (Int32 × Mem) :=
  bx (cK 5 x M (f_X4_tagsLost x a1 a2 M)) (hnd1 0) fun v1 M2 =>
  (sL out 0 v1.toInt64 M2).bind fun M3 =>
  some (0, M3)
set_option maxHeartbeats 4000000 in
set_option maxRecDepth 100000 in
theorem mt_L_tagsLost (l : Launch) (hfl : l.stackTraces = false) (E : KEnv) (x : Nat) (a1 : Int32) (a2 : Int32) (out : Nat) (M M' : Mem) (v : Int32) (h : f_L_tagsLost x a1 a2 out M = some (v, M')) : Met l yL_tagsLost (Cond.codeWith yL_tagsLost cL_tagsLost 5 (some .int) [(0, 10, 13, 19)] :: lw_G) rm_L_tagsLost (cPc E [.ref x, .int a1, .int a2, .ref out] M) (cQz E (some (.int v)) M') 2 12 (eA E) := by
  refine Met_ofWH (cc := cL_tagsLost) (maxL := 5) (ret := (some .int)) (hh := [(0, 10, 13, 19)]) (by decide) rfl ?_
  intro p e s m args below meth c s₁ B hml hv
  obtain ⟨rfl, hE, hM⟩ := hv
  have hx := B.exec
  have hb := B.bytes
  have hr := B.returns
  have hts0 := atoms_spec (ws := Cond.codeWith yL_tagsLost cL_tagsLost 5 (some .int) [(0, 10, 13, 19)] :: lw_G) B.pre
  have hts : ∀ w ∈ lw_G, w.before _ s = true := fun w hw => hts0 w (List.mem_cons_of_mem _ hw)
  have htab := vx_table (x := yL_tagsLost) B (hts0 _ List.mem_cons_self)
  have hown : s.vm.findClass RL = some m.cls := findClass_of_methodNamed B.named
  have hlocks := B.notSynchronized
  have hC : CallFix p m c cL_tagsLost 5 s _ lw_G RL := ⟨hx, hb, hml, hown, hts⟩
  have hS : va_S (eA E) s.heap s.heap [] := va_S.rf
  have hl := lv_entry ([.ref x, .int a1, .int a2, .ref out]) (n := 5) (Nat.le_of_ble_eq_true rfl)
  rw [lg_entry_eq]
  generalize (lg_sl ([.ref x, .int a1, .int a2, .ref out]) ++ List.replicate (5 - (lg_sl ([.ref x, .int a1, .int a2, .ref out])).length) Slot.unset).toArray = ls at hl ⊢
  have hl : lv_has ls 5 [(0, .ref x), (1, .int a1), (2, .int a2), (3, .ref out)] := hl
  unfold f_L_tagsLost at h
  show W p l e rm_L_tagsLost s m _ below meth c s.heap [] 0 0 _ _
  refine lv_aload_n hx hb dL_tagsLost_0 rfl (lv_at hl 3 rfl) ?_
  refine lv_iconst (v := 0) hx hb dL_tagsLost_1 (by decide) ?_
  refine lv_aload_n hx hb dL_tagsLost_2 rfl (lv_at hl 0 rfl) ?_
  refine lv_iload_n hx hb dL_tagsLost_3 rfl (lv_at hl 1 rfl) ?_
  refine lv_iload_n hx hb dL_tagsLost_4 rfl (lv_at hl 2 rfl) ?_
  rcases obx h with ⟨v1, M2, h1, h⟩ | ⟨ex, M9, h1, h⟩
  rotate_left
  · obtain ⟨hk1, h1⟩ := ifg h1
    unfold hnd1 at h
    obtain ⟨e1, h⟩ := ifg h
    subst e1
    cases h
    refine kx_hand (hpc := 13) (kx_V (ci := 4) (As := [.int a1, .int a2]) (rest := [.int 0, .ref out]) hC hE hS hM (mt_X4_tagsLost _ hfl E x a1 a2 _ _ _ h1) (gwV qw_917 qw_918 qw_919 qw_92 qw_920) ⟨rfl, rfl, (Nat.le_of_ble_eq_true rfl), (Nat.le_of_ble_eq_true rfl)⟩ dd_X4_tagsLost rfl hk1 rfl rfl hl.1 (Nat.le_of_ble_eq_true rfl) dL_tagsLost_5 ⟨(Nat.le_of_ble_eq_true rfl), (Nat.le_of_ble_eq_true rfl)⟩) hS hown [] (⟨0, 10, 13, 19⟩ : ExceptionTableEntry) [] htab (fun z hz => nomatch hz) (by decide) (by decide) (hts _ qw_674) (va_Nw.use rfl (hE.2.2.2.2.2.2.2.1 (exN 0, exN 0) (by decide))) rfl (fun H locs z q9 hM hS => ?_)
    refine lv_astore (lv' := [(4, .ref q9), (0, .ref x), (1, .int a1), (2, .int a2), (3, .ref out)]) hx hb dL_tagsLost_13 hl (by decide) rfl (fun ls hl => ?_)
    refine lv_iconst (v := 1) hx hb dL_tagsLost_15 (by decide) ?_
    exact eIz hx hb hr hlocks hM hS dL_tagsLost_16 (Nat.le_of_ble_eq_true rfl) (Nat.le_of_ble_eq_true rfl)
  obtain ⟨hk1, h1⟩ := ifg h1
  refine kx_ok1 (kx_V (ci := 4) (As := [.int a1, .int a2]) (rest := [.int 0, .ref out]) hC hE hS hM (mt_X4_tagsLost _ hfl E x a1 a2 _ _ _ h1) (gwV qw_917 qw_918 qw_919 qw_92 qw_920) ⟨rfl, rfl, (Nat.le_of_ble_eq_true rfl), (Nat.le_of_ble_eq_true rfl)⟩ dd_X4_tagsLost rfl hk1 rfl rfl hl.1 (Nat.le_of_ble_eq_true rfl) dL_tagsLost_5 ⟨(Nat.le_of_ble_eq_true rfl), (Nat.le_of_ble_eq_true rfl)⟩) hS (fun H locs hM hS => ?_)
  refine lv_i2l (v := v1.toInt64) hx hb dL_tagsLost_8 rfl ?_
  obtain ⟨M3, h1, h⟩ := ob h
  refine r_last hx hb hE hM hS h1 dL_tagsLost_9 (fun H locs hM hS => ?_)
  refine lv_goto (tgt := 17) hx hb dL_tagsLost_10 (by decide) ?_
  refine lv_iconst (v := 0) hx hb dL_tagsLost_17 (by decide) ?_
  cases h
  exact eIz (z := mZ M') hx hb hr hlocks (show MOK E (setZ M' (mZ M')) _ from hM) hS dL_tagsLost_18 (Nat.le_of_ble_eq_true rfl) (Nat.le_of_ble_eq_true rfl)

theorem dd_L_mergedValue : yL_mergedValue.cls ≠ "java/lang/invoke/MethodHandle" ∧ yL_mergedValue.cls ≠ "java/lang/invoke/VarHandle" ∧ (parseMethodDescriptor yL_mergedValue.desc).map (fun d => d.parameters.length) = some 3 := by decide +kernel
abbrev rm_L_mergedValue : Room := ({ frames := 8, cells := 1, slots := 6, locals := 132 } : Room)
noncomputable def f_L_mergedValue (x : Nat) (a1 : Int32) (out : Nat) (M : Mem) : Option (Int32 × Mem) :=
  bx (cK 5 x M (f_X4_mergedValue x a1 M)) (hnd1 0) fun v1 M2 =>
  (sL out 0 v1.toInt64 M2).bind fun M3 =>
  some (0, M3)
set_option maxHeartbeats 4000000 in
set_option maxRecDepth 100000 in
theorem mt_L_mergedValue (l : Launch) (hfl : l.stackTraces = false) (E : KEnv) (x : Nat) (a1 : Int32) (out : Nat) (M M' : Mem) (v : Int32) (h : f_L_mergedValue x a1 out M = some (v, M')) : Met l yL_mergedValue (Cond.codeWith yL_mergedValue cL_mergedValue 4 (some .int) [(0, 9, 12, 19)] :: lw_G) rm_L_mergedValue (cPc E [.ref x, .int a1, .ref out] M) (cQz E (some (.int v)) M') 1 6 (eA E) := by
  refine Met_ofWH (cc := cL_mergedValue) (maxL := 4) (ret := (some .int)) (hh := [(0, 9, 12, 19)]) (by decide) rfl ?_
  intro p e s m args below meth c s₁ B hml hv
  obtain ⟨rfl, hE, hM⟩ := hv
  have hx := B.exec
  have hb := B.bytes
  have hr := B.returns
  have hts0 := atoms_spec (ws := Cond.codeWith yL_mergedValue cL_mergedValue 4 (some .int) [(0, 9, 12, 19)] :: lw_G) B.pre
  have hts : ∀ w ∈ lw_G, w.before _ s = true := fun w hw => hts0 w (List.mem_cons_of_mem _ hw)
  have htab := vx_table (x := yL_mergedValue) B (hts0 _ List.mem_cons_self)
  have hown : s.vm.findClass RL = some m.cls := findClass_of_methodNamed B.named
  have hlocks := B.notSynchronized
  have hC : CallFix p m c cL_mergedValue 4 s _ lw_G RL := ⟨hx, hb, hml, hown, hts⟩
  have hS : va_S (eA E) s.heap s.heap [] := va_S.rf
  have hl := lv_entry ([.ref x, .int a1, .ref out]) (n := 4) (Nat.le_of_ble_eq_true rfl)
  rw [lg_entry_eq]
  generalize (lg_sl ([.ref x, .int a1, .ref out]) ++ List.replicate (4 - (lg_sl ([.ref x, .int a1, .ref out])).length) Slot.unset).toArray = ls at hl ⊢
  have hl : lv_has ls 4 [(0, .ref x), (1, .int a1), (2, .ref out)] := hl
  unfold f_L_mergedValue at h
  show W p l e rm_L_mergedValue s m _ below meth c s.heap [] 0 0 _ _
  refine lv_aload_n hx hb dL_mergedValue_0 rfl (lv_at hl 2 rfl) ?_
  refine lv_iconst (v := 0) hx hb dL_mergedValue_1 (by decide) ?_
  refine lv_aload_n hx hb dL_mergedValue_2 rfl (lv_at hl 0 rfl) ?_
  refine lv_iload_n hx hb dL_mergedValue_3 rfl (lv_at hl 1 rfl) ?_
  rcases obx h with ⟨v1, M2, h1, h⟩ | ⟨ex, M9, h1, h⟩
  rotate_left
  · obtain ⟨hk1, h1⟩ := ifg h1
    unfold hnd1 at h
    obtain ⟨e1, h⟩ := ifg h
    subst e1
    cases h
    refine kx_hand (hpc := 12) (kx_V (ci := 4) (As := [.int a1]) (rest := [.int 0, .ref out]) hC hE hS hM (mt_X4_mergedValue _ hfl E x a1 _ _ _ h1) (gwV qw_924 qw_925 qw_926 qw_92 qw_927) ⟨rfl, rfl, (Nat.le_of_ble_eq_true rfl), (Nat.le_of_ble_eq_true rfl)⟩ dd_X4_mergedValue rfl hk1 rfl rfl hl.1 (Nat.le_of_ble_eq_true rfl) dL_mergedValue_4 ⟨(Nat.le_of_ble_eq_true rfl), (Nat.le_of_ble_eq_true rfl)⟩) hS hown [] (⟨0, 9, 12, 19⟩ : ExceptionTableEntry) [] htab (fun z hz => nomatch hz) (by decide) (by decide) (hts _ qw_674) (va_Nw.use rfl (hE.2.2.2.2.2.2.2.1 (exN 0, exN 0) (by decide))) rfl (fun H locs z q9 hM hS => ?_)
    refine lv_astore_n (lv' := [(3, .ref q9), (0, .ref x), (1, .int a1), (2, .ref out)]) hx hb dL_mergedValue_12 rfl hl (by decide) rfl (fun ls hl => ?_)
    refine lv_iconst (v := 1) hx hb dL_mergedValue_13 (by decide) ?_
    exact eIz hx hb hr hlocks hM hS dL_mergedValue_14 (Nat.le_of_ble_eq_true rfl) (Nat.le_of_ble_eq_true rfl)
  obtain ⟨hk1, h1⟩ := ifg h1
  refine kx_ok1 (kx_V (ci := 4) (As := [.int a1]) (rest := [.int 0, .ref out]) hC hE hS hM (mt_X4_mergedValue _ hfl E x a1 _ _ _ h1) (gwV qw_924 qw_925 qw_926 qw_92 qw_927) ⟨rfl, rfl, (Nat.le_of_ble_eq_true rfl), (Nat.le_of_ble_eq_true rfl)⟩ dd_X4_mergedValue rfl hk1 rfl rfl hl.1 (Nat.le_of_ble_eq_true rfl) dL_mergedValue_4 ⟨(Nat.le_of_ble_eq_true rfl), (Nat.le_of_ble_eq_true rfl)⟩) hS (fun H locs hM hS => ?_)
  refine lv_i2l (v := v1.toInt64) hx hb dL_mergedValue_7 rfl ?_
  obtain ⟨M3, h1, h⟩ := ob h
  refine r_last hx hb hE hM hS h1 dL_mergedValue_8 (fun H locs hM hS => ?_)
  refine lv_goto (tgt := 15) hx hb dL_mergedValue_9 (by decide) ?_
  refine lv_iconst (v := 0) hx hb dL_mergedValue_15 (by decide) ?_
  cases h
  exact eIz (z := mZ M') hx hb hr hlocks (show MOK E (setZ M' (mZ M')) _ from hM) hS dL_mergedValue_16 (Nat.le_of_ble_eq_true rfl) (Nat.le_of_ble_eq_true rfl)

theorem dd_L_senderOf : yL_senderOf.cls ≠ "java/lang/invoke/MethodHandle" ∧ yL_senderOf.cls ≠ "java/lang/invoke/VarHandle" ∧ (parseMethodDescriptor yL_senderOf.desc).map (fun d => d.parameters.length) = some 3 := by decide +kernel
abbrev rm_L_senderOf : Room := ({ frames := 8, cells := 1, slots := 6, locals := 132 } : Room)
noncomputable def f_L_senderOf (x : Nat) (a1 : Int32) (out : Nat) (M : Mem) : Option (Int32 × Mem) :=
  bx (cK 5 x M (f_X4_senderOf x a1 M)) (hnd1 0) fun v1 M2 =>
  (sL out 0 v1.toInt64 M2).bind fun M3 =>
  some (0, M3)
set_option maxHeartbeats 4000000 in
set_option maxRecDepth 100000 in
theorem mt_L_senderOf (l : Launch) (hfl : l.stackTraces = false) (E : KEnv) (x : Nat) (a1 : Int32) (out : Nat) (M M' : Mem) (v : Int32) (h : f_L_senderOf x a1 out M = some (v, M')) : Met l yL_senderOf (Cond.codeWith yL_senderOf cL_senderOf 4 (some .int) [(0, 9, 12, 19)] :: lw_G) rm_L_senderOf (cPc E [.ref x, .int a1, .ref out] M) (cQz E (some (.int v)) M') 1 6 (eA E) := by
  refine Met_ofWH (cc := cL_senderOf) (maxL := 4) (ret := (some .int)) (hh := [(0, 9, 12, 19)]) (by decide) rfl ?_
  intro p e s m args below meth c s₁ B hml hv
  obtain ⟨rfl, hE, hM⟩ := hv
  have hx := B.exec
  have hb := B.bytes
  have hr := B.returns
  have hts0 := atoms_spec (ws := Cond.codeWith yL_senderOf cL_senderOf 4 (some .int) [(0, 9, 12, 19)] :: lw_G) B.pre
  have hts : ∀ w ∈ lw_G, w.before _ s = true := fun w hw => hts0 w (List.mem_cons_of_mem _ hw)
  have htab := vx_table (x := yL_senderOf) B (hts0 _ List.mem_cons_self)
  have hown : s.vm.findClass RL = some m.cls := findClass_of_methodNamed B.named
  have hlocks := B.notSynchronized
  have hC : CallFix p m c cL_senderOf 4 s _ lw_G RL := ⟨hx, hb, hml, hown, hts⟩
  have hS : va_S (eA E) s.heap s.heap [] := va_S.rf
  have hl := lv_entry ([.ref x, .int a1, .ref out]) (n := 4) (Nat.le_of_ble_eq_true rfl)
  rw [lg_entry_eq]
  generalize (lg_sl ([.ref x, .int a1, .ref out]) ++ List.replicate (4 - (lg_sl ([.ref x, .int a1, .ref out])).length) Slot.unset).toArray = ls at hl ⊢
  have hl : lv_has ls 4 [(0, .ref x), (1, .int a1), (2, .ref out)] := hl
  unfold f_L_senderOf at h
  show W p l e rm_L_senderOf s m _ below meth c s.heap [] 0 0 _ _
  refine lv_aload_n hx hb dL_senderOf_0 rfl (lv_at hl 2 rfl) ?_
  refine lv_iconst (v := 0) hx hb dL_senderOf_1 (by decide) ?_
  refine lv_aload_n hx hb dL_senderOf_2 rfl (lv_at hl 0 rfl) ?_
  refine lv_iload_n hx hb dL_senderOf_3 rfl (lv_at hl 1 rfl) ?_
  rcases obx h with ⟨v1, M2, h1, h⟩ | ⟨ex, M9, h1, h⟩
  rotate_left
  · obtain ⟨hk1, h1⟩ := ifg h1
    unfold hnd1 at h
    obtain ⟨e1, h⟩ := ifg h
    subst e1
    cases h
    refine kx_hand (hpc := 12) (kx_V (ci := 4) (As := [.int a1]) (rest := [.int 0, .ref out]) hC hE hS hM (mt_X4_senderOf _ hfl E x a1 _ _ _ h1) (gwV qw_931 qw_932 qw_933 qw_92 qw_934) ⟨rfl, rfl, (Nat.le_of_ble_eq_true rfl), (Nat.le_of_ble_eq_true rfl)⟩ dd_X4_senderOf rfl hk1 rfl rfl hl.1 (Nat.le_of_ble_eq_true rfl) dL_senderOf_4 ⟨(Nat.le_of_ble_eq_true rfl), (Nat.le_of_ble_eq_true rfl)⟩) hS hown [] (⟨0, 9, 12, 19⟩ : ExceptionTableEntry) [] htab (fun z hz => nomatch hz) (by decide) (by decide) (hts _ qw_674) (va_Nw.use rfl (hE.2.2.2.2.2.2.2.1 (exN 0, exN 0) (by decide))) rfl (fun H locs z q9 hM hS => ?_)
    refine lv_astore_n (lv' := [(3, .ref q9), (0, .ref x), (1, .int a1), (2, .ref out)]) hx hb dL_senderOf_12 rfl hl (by decide) rfl (fun ls hl => ?_)
    refine lv_iconst (v := 1) hx hb dL_senderOf_13 (by decide) ?_
    exact eIz hx hb hr hlocks hM hS dL_senderOf_14 (Nat.le_of_ble_eq_true rfl) (Nat.le_of_ble_eq_true rfl)
  obtain ⟨hk1, h1⟩ := ifg h1
  refine kx_ok1 (kx_V (ci := 4) (As := [.int a1]) (rest := [.int 0, .ref out]) hC hE hS hM (mt_X4_senderOf _ hfl E x a1 _ _ _ h1) (gwV qw_931 qw_932 qw_933 qw_92 qw_934) ⟨rfl, rfl, (Nat.le_of_ble_eq_true rfl), (Nat.le_of_ble_eq_true rfl)⟩ dd_X4_senderOf rfl hk1 rfl rfl hl.1 (Nat.le_of_ble_eq_true rfl) dL_senderOf_4 ⟨(Nat.le_of_ble_eq_true rfl), (Nat.le_of_ble_eq_true rfl)⟩) hS (fun H locs hM hS => ?_)
  refine lv_i2l (v := v1.toInt64) hx hb dL_senderOf_7 rfl ?_
  obtain ⟨M3, h1, h⟩ := ob h
  refine r_last hx hb hE hM hS h1 dL_senderOf_8 (fun H locs hM hS => ?_)
  refine lv_goto (tgt := 15) hx hb dL_senderOf_9 (by decide) ?_
  refine lv_iconst (v := 0) hx hb dL_senderOf_15 (by decide) ?_
  cases h
  exact eIz (z := mZ M') hx hb hr hlocks (show MOK E (setZ M' (mZ M')) _ from hM) hS dL_senderOf_16 (Nat.le_of_ble_eq_true rfl) (Nat.le_of_ble_eq_true rfl)

theorem dd_L_isNews : yL_isNews.cls ≠ "java/lang/invoke/MethodHandle" ∧ yL_isNews.cls ≠ "java/lang/invoke/VarHandle" ∧ (parseMethodDescriptor yL_isNews.desc).map (fun d => d.parameters.length) = some 4 := by decide +kernel
abbrev rm_L_isNews : Room := ({ frames := 9, cells := 2, slots := 12, locals := 154 } : Room)
noncomputable def f_L_isNews (x : Nat) (a1 : Int32) (a2 : Int32) (out : Nat) (M : Mem) : Option (Int32 × Mem) :=
  bx (cK 5 x M (f_X4_isNews x a1 a2 M)) (hnd1 0) fun v1 M2 =>
  (if v1 = 0 then
  (sL out 0 0 M2).bind fun M3 =>
  some (0, M3)
  else
  (sL out 0 1 M2).bind fun M4 =>
  some (0, M4))
set_option maxHeartbeats 4000000 in
set_option maxRecDepth 100000 in
theorem mt_L_isNews (l : Launch) (hfl : l.stackTraces = false) (E : KEnv) (x : Nat) (a1 : Int32) (a2 : Int32) (out : Nat) (M M' : Mem) (v : Int32) (h : f_L_isNews x a1 a2 out M = some (v, M')) : Met l yL_isNews (Cond.codeWith yL_isNews cL_isNews 5 (some .int) [(0, 17, 20, 19)] :: lw_G) rm_L_isNews (cPc E [.ref x, .int a1, .int a2, .ref out] M) (cQz E (some (.int v)) M') 2 12 (eA E) := by
  refine Met_ofWH (cc := cL_isNews) (maxL := 5) (ret := (some .int)) (hh := [(0, 17, 20, 19)]) (by decide) rfl ?_
  intro p e s m args below meth c s₁ B hml hv
  obtain ⟨rfl, hE, hM⟩ := hv
  have hx := B.exec
  have hb := B.bytes
  have hr := B.returns
  have hts0 := atoms_spec (ws := Cond.codeWith yL_isNews cL_isNews 5 (some .int) [(0, 17, 20, 19)] :: lw_G) B.pre
  have hts : ∀ w ∈ lw_G, w.before _ s = true := fun w hw => hts0 w (List.mem_cons_of_mem _ hw)
  have htab := vx_table (x := yL_isNews) B (hts0 _ List.mem_cons_self)
  have hown : s.vm.findClass RL = some m.cls := findClass_of_methodNamed B.named
  have hlocks := B.notSynchronized
  have hC : CallFix p m c cL_isNews 5 s _ lw_G RL := ⟨hx, hb, hml, hown, hts⟩
  have hS : va_S (eA E) s.heap s.heap [] := va_S.rf
  have hl := lv_entry ([.ref x, .int a1, .int a2, .ref out]) (n := 5) (Nat.le_of_ble_eq_true rfl)
  rw [lg_entry_eq]
  generalize (lg_sl ([.ref x, .int a1, .int a2, .ref out]) ++ List.replicate (5 - (lg_sl ([.ref x, .int a1, .int a2, .ref out])).length) Slot.unset).toArray = ls at hl ⊢
  have hl : lv_has ls 5 [(0, .ref x), (1, .int a1), (2, .int a2), (3, .ref out)] := hl
  unfold f_L_isNews at h
  show W p l e rm_L_isNews s m _ below meth c s.heap [] 0 0 _ _
  refine lv_aload_n hx hb dL_isNews_0 rfl (lv_at hl 3 rfl) ?_
  refine lv_iconst (v := 0) hx hb dL_isNews_1 (by decide) ?_
  refine lv_aload_n hx hb dL_isNews_2 rfl (lv_at hl 0 rfl) ?_
  refine lv_iload_n hx hb dL_isNews_3 rfl (lv_at hl 1 rfl) ?_
  refine lv_iload_n hx hb dL_isNews_4 rfl (lv_at hl 2 rfl) ?_
  rcases obx h with ⟨v1, M2, h1, h⟩ | ⟨ex, M9, h1, h⟩
  rotate_left
  · obtain ⟨hk1, h1⟩ := ifg h1
    unfold hnd1 at h
    obtain ⟨e1, h⟩ := ifg h
    subst e1
    cases h
    refine kx_hand (hpc := 20) (kx_V (ci := 4) (As := [.int a1, .int a2]) (rest := [.int 0, .ref out]) hC hE hS hM (mt_X4_isNews _ hfl E x a1 a2 _ _ _ h1) (gwV qw_943 qw_944 qw_945 qw_92 qw_946) ⟨rfl, rfl, (Nat.le_of_ble_eq_true rfl), (Nat.le_of_ble_eq_true rfl)⟩ dd_X4_isNews rfl hk1 rfl rfl hl.1 (Nat.le_of_ble_eq_true rfl) dL_isNews_5 ⟨(Nat.le_of_ble_eq_true rfl), (Nat.le_of_ble_eq_true rfl)⟩) hS hown [] (⟨0, 17, 20, 19⟩ : ExceptionTableEntry) [] htab (fun z hz => nomatch hz) (by decide) (by decide) (hts _ qw_674) (va_Nw.use rfl (hE.2.2.2.2.2.2.2.1 (exN 0, exN 0) (by decide))) rfl (fun H locs z q9 hM hS => ?_)
    refine lv_astore (lv' := [(4, .ref q9), (0, .ref x), (1, .int a1), (2, .int a2), (3, .ref out)]) hx hb dL_isNews_20 hl (by decide) rfl (fun ls hl => ?_)
    refine lv_iconst (v := 1) hx hb dL_isNews_22 (by decide) ?_
    exact eIz hx hb hr hlocks hM hS dL_isNews_23 (Nat.le_of_ble_eq_true rfl) (Nat.le_of_ble_eq_true rfl)
  obtain ⟨hk1, h1⟩ := ifg h1
  refine kx_ok1 (kx_V (ci := 4) (As := [.int a1, .int a2]) (rest := [.int 0, .ref out]) hC hE hS hM (mt_X4_isNews _ hfl E x a1 a2 _ _ _ h1) (gwV qw_943 qw_944 qw_945 qw_92 qw_946) ⟨rfl, rfl, (Nat.le_of_ble_eq_true rfl), (Nat.le_of_ble_eq_true rfl)⟩ dd_X4_isNews rfl hk1 rfl rfl hl.1 (Nat.le_of_ble_eq_true rfl) dL_isNews_5 ⟨(Nat.le_of_ble_eq_true rfl), (Nat.le_of_ble_eq_true rfl)⟩) hS (fun H locs hM hS => ?_)
  refine lv_if_eq (tgt := 15) hx hb dL_isNews_8 (by decide) (fun c1 => ?_) (fun c1 => ?_)
  · have h := ifp c1 h
    refine lv_lconst (v := 0) hx hb dL_isNews_15 (by decide) ?_
    obtain ⟨M3, h1, h⟩ := ob h
    refine r_last hx hb hE hM hS h1 dL_isNews_16 (fun H locs hM hS => ?_)
    refine lv_goto (tgt := 24) hx hb dL_isNews_17 (by decide) ?_
    refine lv_iconst (v := 0) hx hb dL_isNews_24 (by decide) ?_
    cases h
    exact eIz (z := mZ M') hx hb hr hlocks (show MOK E (setZ M' (mZ M')) _ from hM) hS dL_isNews_25 (Nat.le_of_ble_eq_true rfl) (Nat.le_of_ble_eq_true rfl)
  · have h := ifn c1 h
    refine lv_lconst (v := 1) hx hb dL_isNews_11 (by decide) ?_
    refine lv_goto (tgt := 16) hx hb dL_isNews_12 (by decide) ?_
    obtain ⟨M4, h1, h⟩ := ob h
    refine r_last hx hb hE hM hS h1 dL_isNews_16 (fun H locs hM hS => ?_)
    refine lv_goto (tgt := 24) hx hb dL_isNews_17 (by decide) ?_
    refine lv_iconst (v := 0) hx hb dL_isNews_24 (by decide) ?_
    cases h
    exact eIz (z := mZ M') hx hb hr hlocks (show MOK E (setZ M' (mZ M')) _ from hM) hS dL_isNews_25 (Nat.le_of_ble_eq_true rfl) (Nat.le_of_ble_eq_true rfl)

theorem dd_L_increment : yL_increment.cls ≠ "java/lang/invoke/MethodHandle" ∧ yL_increment.cls ≠ "java/lang/invoke/VarHandle" ∧ (parseMethodDescriptor yL_increment.desc).map (fun d => d.parameters.length) = some 5 := by decide +kernel
abbrev rm_L_increment : Room := ({ frames := 10, cells := 26, slots := 1365, locals := 180 } : Room)
noncomputable def f_L_increment (x : Nat) (a1 : Int32) (a2 : Int32) (a3 : Int32) (out : Nat) (M : Mem) : Option (Int32 × Mem) :=
  bx (cK 5 x M (f_X4_increment x a1 a2 a3 M)) (hnd2 0 1) fun v1 M2 =>
  (sL out 0 v1.toInt64 M2).bind fun M3 =>
  some (0, M3)
set_option maxHeartbeats 4000000 in
set_option maxRecDepth 100000 in
theorem mt_L_increment (l : Launch) (hfl : l.stackTraces = false) (E : KEnv) (x : Nat) (a1 : Int32) (a2 : Int32) (a3 : Int32) (out : Nat) (M M' : Mem) (v : Int32) (h : f_L_increment x a1 a2 a3 out M = some (v, M')) : Met l yL_increment (Cond.codeWith yL_increment cL_increment 6 (some .int) [(0, 12, 15, 19), (0, 12, 19, 21)] :: lw_G) rm_L_increment (cPc E [.ref x, .int a1, .int a2, .int a3, .ref out] M) (cQz E (some (.int v)) M') 26 1365 (eA E) := by
  refine Met_ofWH (cc := cL_increment) (maxL := 6) (ret := (some .int)) (hh := [(0, 12, 15, 19), (0, 12, 19, 21)]) (by decide) rfl ?_
  intro p e s m args below meth c s₁ B hml hv
  obtain ⟨rfl, hE, hM⟩ := hv
  have hx := B.exec
  have hb := B.bytes
  have hr := B.returns
  have hts0 := atoms_spec (ws := Cond.codeWith yL_increment cL_increment 6 (some .int) [(0, 12, 15, 19), (0, 12, 19, 21)] :: lw_G) B.pre
  have hts : ∀ w ∈ lw_G, w.before _ s = true := fun w hw => hts0 w (List.mem_cons_of_mem _ hw)
  have htab := vx_table (x := yL_increment) B (hts0 _ List.mem_cons_self)
  have hown : s.vm.findClass RL = some m.cls := findClass_of_methodNamed B.named
  have hlocks := B.notSynchronized
  have hC : CallFix p m c cL_increment 6 s _ lw_G RL := ⟨hx, hb, hml, hown, hts⟩
  have hS : va_S (eA E) s.heap s.heap [] := va_S.rf
  have hl := lv_entry ([.ref x, .int a1, .int a2, .int a3, .ref out]) (n := 6) (Nat.le_of_ble_eq_true rfl)
  rw [lg_entry_eq]
  generalize (lg_sl ([.ref x, .int a1, .int a2, .int a3, .ref out]) ++ List.replicate (6 - (lg_sl ([.ref x, .int a1, .int a2, .int a3, .ref out])).length) Slot.unset).toArray = ls at hl ⊢
  have hl : lv_has ls 6 [(0, .ref x), (1, .int a1), (2, .int a2), (3, .int a3), (4, .ref out)] := hl
  unfold f_L_increment at h
  show W p l e rm_L_increment s m _ below meth c s.heap [] 0 0 _ _
  refine lv_aload hx hb dL_increment_0 (lv_at hl 4 rfl) ?_
  refine lv_iconst (v := 0) hx hb dL_increment_2 (by decide) ?_
  refine lv_aload_n hx hb dL_increment_3 rfl (lv_at hl 0 rfl) ?_
  refine lv_iload_n hx hb dL_increment_4 rfl (lv_at hl 1 rfl) ?_
  refine lv_iload_n hx hb dL_increment_5 rfl (lv_at hl 2 rfl) ?_
  refine lv_iload_n hx hb dL_increment_6 rfl (lv_at hl 3 rfl) ?_
  rcases obx h with ⟨v1, M2, h1, h⟩ | ⟨ex, M9, h1, h⟩
  rotate_left
  · obtain ⟨hk1, h1⟩ := ifg h1
    unfold hnd2 at h
    by_cases e1 : ex = 0
    · have h := ifp e1 h
      subst e1
      cases h
      refine kx_hand (hpc := 15) (kx_V (ci := 4) (As := [.int a1, .int a2, .int a3]) (rest := [.int 0, .ref out]) hC hE hS hM (mt_X4_increment _ hfl E x a1 a2 a3 _ _ _ h1) (gwV qw_950 qw_951 qw_952 qw_92 qw_953) ⟨rfl, rfl, (Nat.le_of_ble_eq_true rfl), (Nat.le_of_ble_eq_true rfl)⟩ dd_X4_increment rfl hk1 rfl rfl hl.1 (Nat.le_of_ble_eq_true rfl) dL_increment_7 ⟨(Nat.le_of_ble_eq_true rfl), (Nat.le_of_ble_eq_true rfl)⟩) hS hown [] (⟨0, 12, 15, 19⟩ : ExceptionTableEntry) [(⟨0, 12, 19, 21⟩ : ExceptionTableEntry)] htab (fun z hz => nomatch hz) (by decide) (by decide) (hts _ qw_674) (va_Nw.use rfl (hE.2.2.2.2.2.2.2.1 (exN 0, exN 0) (by decide))) rfl (fun H locs z q9 hM hS => ?_)
      refine lv_astore (lv' := [(5, .ref q9), (0, .ref x), (1, .int a1), (2, .int a2), (3, .int a3), (4, .ref out)]) hx hb dL_increment_15 hl (by decide) rfl (fun ls hl => ?_)
      refine lv_iconst (v := 1) hx hb dL_increment_17 (by decide) ?_
      exact eIz hx hb hr hlocks hM hS dL_increment_18 (Nat.le_of_ble_eq_true rfl) (Nat.le_of_ble_eq_true rfl)
    · have h := ifn e1 h
      obtain ⟨e2, h⟩ := ifg h
      subst e2
      cases h
      refine kx_hand (hpc := 19) (kx_V (ci := 4) (As := [.int a1, .int a2, .int a3]) (rest := [.int 0, .ref out]) hC hE hS hM (mt_X4_increment _ hfl E x a1 a2 a3 _ _ _ h1) (gwV qw_950 qw_951 qw_952 qw_92 qw_953) ⟨rfl, rfl, (Nat.le_of_ble_eq_true rfl), (Nat.le_of_ble_eq_true rfl)⟩ dd_X4_increment rfl hk1 rfl rfl hl.1 (Nat.le_of_ble_eq_true rfl) dL_increment_7 ⟨(Nat.le_of_ble_eq_true rfl), (Nat.le_of_ble_eq_true rfl)⟩) hS hown [(⟨0, 12, 15, 19⟩ : ExceptionTableEntry)] (⟨0, 12, 19, 21⟩ : ExceptionTableEntry) [] htab (fun z hz => by rw [List.mem_singleton.mp hz]; exact Or.inr ⟨by decide, _, hts _ qw_674, hE.2.2.2.2.2.2.2.2.2.2.2 (exN 1, "java/lang/IndexOutOfBoundsException") (by decide)⟩) (by decide) (by decide) (hts _ qw_675) (va_Nw.use rfl (hE.2.2.2.2.2.2.2.1 (exN 1, exN 1) (by decide))) rfl (fun H locs z q9 hM hS => ?_)
      refine lv_astore (lv' := [(5, .ref q9), (0, .ref x), (1, .int a1), (2, .int a2), (3, .int a3), (4, .ref out)]) hx hb dL_increment_19 hl (by decide) rfl (fun ls hl => ?_)
      refine lv_iconst (v := 2) hx hb dL_increment_21 (by decide) ?_
      exact eIz hx hb hr hlocks hM hS dL_increment_22 (Nat.le_of_ble_eq_true rfl) (Nat.le_of_ble_eq_true rfl)
  obtain ⟨hk1, h1⟩ := ifg h1
  refine kx_ok1 (kx_V (ci := 4) (As := [.int a1, .int a2, .int a3]) (rest := [.int 0, .ref out]) hC hE hS hM (mt_X4_increment _ hfl E x a1 a2 a3 _ _ _ h1) (gwV qw_950 qw_951 qw_952 qw_92 qw_953) ⟨rfl, rfl, (Nat.le_of_ble_eq_true rfl), (Nat.le_of_ble_eq_true rfl)⟩ dd_X4_increment rfl hk1 rfl rfl hl.1 (Nat.le_of_ble_eq_true rfl) dL_increment_7 ⟨(Nat.le_of_ble_eq_true rfl), (Nat.le_of_ble_eq_true rfl)⟩) hS (fun H locs hM hS => ?_)
  refine lv_i2l (v := v1.toInt64) hx hb dL_increment_10 rfl ?_
  obtain ⟨M3, h1, h⟩ := ob h
  refine r_last hx hb hE hM hS h1 dL_increment_11 (fun H locs hM hS => ?_)
  refine lv_goto (tgt := 23) hx hb dL_increment_12 (by decide) ?_
  refine lv_iconst (v := 0) hx hb dL_increment_23 (by decide) ?_
  cases h
  exact eIz (z := mZ M') hx hb hr hlocks (show MOK E (setZ M' (mZ M')) _ from hM) hS dL_increment_24 (Nat.le_of_ble_eq_true rfl) (Nat.le_of_ble_eq_true rfl)

theorem dd_L_decrement : yL_decrement.cls ≠ "java/lang/invoke/MethodHandle" ∧ yL_decrement.cls ≠ "java/lang/invoke/VarHandle" ∧ (parseMethodDescriptor yL_decrement.desc).map (fun d => d.parameters.length) = some 5 := by decide +kernel
abbrev rm_L_decrement : Room := ({ frames := 10, cells := 26, slots := 1365, locals := 180 } : Room)
noncomputable def f_L_decrement (x : Nat) (a1 : Int32) (a2 : Int32) (a3 : Int32) (out : Nat) (M : Mem) : Option (Int32 × Mem) :=
  bx (cK 5 x M (f_X4_decrement x a1 a2 a3 M)) (hnd2 0 1) fun v1 M2 =>
  (sL out 0 v1.toInt64 M2).bind fun M3 =>
  some (0, M3)
set_option maxHeartbeats 4000000 in
set_option maxRecDepth 100000 in
theorem mt_L_decrement (l : Launch) (hfl : l.stackTraces = false) (E : KEnv) (x : Nat) (a1 : Int32) (a2 : Int32) (a3 : Int32) (out : Nat) (M M' : Mem) (v : Int32) (h : f_L_decrement x a1 a2 a3 out M = some (v, M')) : Met l yL_decrement (Cond.codeWith yL_decrement cL_decrement 6 (some .int) [(0, 12, 15, 19), (0, 12, 19, 21)] :: lw_G) rm_L_decrement (cPc E [.ref x, .int a1, .int a2, .int a3, .ref out] M) (cQz E (some (.int v)) M') 26 1365 (eA E) := by
  refine Met_ofWH (cc := cL_decrement) (maxL := 6) (ret := (some .int)) (hh := [(0, 12, 15, 19), (0, 12, 19, 21)]) (by decide) rfl ?_
  intro p e s m args below meth c s₁ B hml hv
  obtain ⟨rfl, hE, hM⟩ := hv
  have hx := B.exec
  have hb := B.bytes
  have hr := B.returns
  have hts0 := atoms_spec (ws := Cond.codeWith yL_decrement cL_decrement 6 (some .int) [(0, 12, 15, 19), (0, 12, 19, 21)] :: lw_G) B.pre
  have hts : ∀ w ∈ lw_G, w.before _ s = true := fun w hw => hts0 w (List.mem_cons_of_mem _ hw)
  have htab := vx_table (x := yL_decrement) B (hts0 _ List.mem_cons_self)
  have hown : s.vm.findClass RL = some m.cls := findClass_of_methodNamed B.named
  have hlocks := B.notSynchronized
  have hC : CallFix p m c cL_decrement 6 s _ lw_G RL := ⟨hx, hb, hml, hown, hts⟩
  have hS : va_S (eA E) s.heap s.heap [] := va_S.rf
  have hl := lv_entry ([.ref x, .int a1, .int a2, .int a3, .ref out]) (n := 6) (Nat.le_of_ble_eq_true rfl)
  rw [lg_entry_eq]
  generalize (lg_sl ([.ref x, .int a1, .int a2, .int a3, .ref out]) ++ List.replicate (6 - (lg_sl ([.ref x, .int a1, .int a2, .int a3, .ref out])).length) Slot.unset).toArray = ls at hl ⊢
  have hl : lv_has ls 6 [(0, .ref x), (1, .int a1), (2, .int a2), (3, .int a3), (4, .ref out)] := hl
  unfold f_L_decrement at h
  show W p l e rm_L_decrement s m _ below meth c s.heap [] 0 0 _ _
  refine lv_aload hx hb dL_decrement_0 (lv_at hl 4 rfl) ?_
  refine lv_iconst (v := 0) hx hb dL_decrement_2 (by decide) ?_
  refine lv_aload_n hx hb dL_decrement_3 rfl (lv_at hl 0 rfl) ?_
  refine lv_iload_n hx hb dL_decrement_4 rfl (lv_at hl 1 rfl) ?_
  refine lv_iload_n hx hb dL_decrement_5 rfl (lv_at hl 2 rfl) ?_
  refine lv_iload_n hx hb dL_decrement_6 rfl (lv_at hl 3 rfl) ?_
  rcases obx h with ⟨v1, M2, h1, h⟩ | ⟨ex, M9, h1, h⟩
  rotate_left
  · obtain ⟨hk1, h1⟩ := ifg h1
    unfold hnd2 at h
    by_cases e1 : ex = 0
    · have h := ifp e1 h
      subst e1
      cases h
      refine kx_hand (hpc := 15) (kx_V (ci := 4) (As := [.int a1, .int a2, .int a3]) (rest := [.int 0, .ref out]) hC hE hS hM (mt_X4_decrement _ hfl E x a1 a2 a3 _ _ _ h1) (gwV qw_963 qw_964 qw_965 qw_92 qw_966) ⟨rfl, rfl, (Nat.le_of_ble_eq_true rfl), (Nat.le_of_ble_eq_true rfl)⟩ dd_X4_decrement rfl hk1 rfl rfl hl.1 (Nat.le_of_ble_eq_true rfl) dL_decrement_7 ⟨(Nat.le_of_ble_eq_true rfl), (Nat.le_of_ble_eq_true rfl)⟩) hS hown [] (⟨0, 12, 15, 19⟩ : ExceptionTableEntry) [(⟨0, 12, 19, 21⟩ : ExceptionTableEntry)] htab (fun z hz => nomatch hz) (by decide) (by decide) (hts _ qw_674) (va_Nw.use rfl (hE.2.2.2.2.2.2.2.1 (exN 0, exN 0) (by decide))) rfl (fun H locs z q9 hM hS => ?_)
      refine lv_astore (lv' := [(5, .ref q9), (0, .ref x), (1, .int a1), (2, .int a2), (3, .int a3), (4, .ref out)]) hx hb dL_decrement_15 hl (by decide) rfl (fun ls hl => ?_)
      refine lv_iconst (v := 1) hx hb dL_decrement_17 (by decide) ?_
      exact eIz hx hb hr hlocks hM hS dL_decrement_18 (Nat.le_of_ble_eq_true rfl) (Nat.le_of_ble_eq_true rfl)
    · have h := ifn e1 h
      obtain ⟨e2, h⟩ := ifg h
      subst e2
      cases h
      refine kx_hand (hpc := 19) (kx_V (ci := 4) (As := [.int a1, .int a2, .int a3]) (rest := [.int 0, .ref out]) hC hE hS hM (mt_X4_decrement _ hfl E x a1 a2 a3 _ _ _ h1) (gwV qw_963 qw_964 qw_965 qw_92 qw_966) ⟨rfl, rfl, (Nat.le_of_ble_eq_true rfl), (Nat.le_of_ble_eq_true rfl)⟩ dd_X4_decrement rfl hk1 rfl rfl hl.1 (Nat.le_of_ble_eq_true rfl) dL_decrement_7 ⟨(Nat.le_of_ble_eq_true rfl), (Nat.le_of_ble_eq_true rfl)⟩) hS hown [(⟨0, 12, 15, 19⟩ : ExceptionTableEntry)] (⟨0, 12, 19, 21⟩ : ExceptionTableEntry) [] htab (fun z hz => by rw [List.mem_singleton.mp hz]; exact Or.inr ⟨by decide, _, hts _ qw_674, hE.2.2.2.2.2.2.2.2.2.2.2 (exN 1, "java/lang/IndexOutOfBoundsException") (by decide)⟩) (by decide) (by decide) (hts _ qw_675) (va_Nw.use rfl (hE.2.2.2.2.2.2.2.1 (exN 1, exN 1) (by decide))) rfl (fun H locs z q9 hM hS => ?_)
      refine lv_astore (lv' := [(5, .ref q9), (0, .ref x), (1, .int a1), (2, .int a2), (3, .int a3), (4, .ref out)]) hx hb dL_decrement_19 hl (by decide) rfl (fun ls hl => ?_)
      refine lv_iconst (v := 2) hx hb dL_decrement_21 (by decide) ?_
      exact eIz hx hb hr hlocks hM hS dL_decrement_22 (Nat.le_of_ble_eq_true rfl) (Nat.le_of_ble_eq_true rfl)
  obtain ⟨hk1, h1⟩ := ifg h1
  refine kx_ok1 (kx_V (ci := 4) (As := [.int a1, .int a2, .int a3]) (rest := [.int 0, .ref out]) hC hE hS hM (mt_X4_decrement _ hfl E x a1 a2 a3 _ _ _ h1) (gwV qw_963 qw_964 qw_965 qw_92 qw_966) ⟨rfl, rfl, (Nat.le_of_ble_eq_true rfl), (Nat.le_of_ble_eq_true rfl)⟩ dd_X4_decrement rfl hk1 rfl rfl hl.1 (Nat.le_of_ble_eq_true rfl) dL_decrement_7 ⟨(Nat.le_of_ble_eq_true rfl), (Nat.le_of_ble_eq_true rfl)⟩) hS (fun H locs hM hS => ?_)
  refine lv_i2l (v := v1.toInt64) hx hb dL_decrement_10 rfl ?_
  obtain ⟨M3, h1, h⟩ := ob h
  refine r_last hx hb hE hM hS h1 dL_decrement_11 (fun H locs hM hS => ?_)
  refine lv_goto (tgt := 23) hx hb dL_decrement_12 (by decide) ?_
  refine lv_iconst (v := 0) hx hb dL_decrement_23 (by decide) ?_
  cases h
  exact eIz (z := mZ M') hx hb hr hlocks (show MOK E (setZ M' (mZ M')) _ from hM) hS dL_decrement_24 (Nat.le_of_ble_eq_true rfl) (Nat.le_of_ble_eq_true rfl)

theorem dd_L_addTag : yL_addTag.cls ≠ "java/lang/invoke/MethodHandle" ∧ yL_addTag.cls ≠ "java/lang/invoke/VarHandle" ∧ (parseMethodDescriptor yL_addTag.desc).map (fun d => d.parameters.length) = some 4 := by decide +kernel
abbrev rm_L_addTag : Room := ({ frames := 9, cells := 26, slots := 1365, locals := 155 } : Room)
noncomputable def f_L_addTag (x : Nat) (a1 : Int32) (a2 : Int32) (out : Nat) (M : Mem) : Option (Int32 × Mem) :=
  bx (cK 5 x M (f_X4_addTag x a1 a2 M)) (hnd1 0) fun v1 M2 =>
  (sL out 0 v1.toInt64 M2).bind fun M3 =>
  some (0, M3)
set_option maxHeartbeats 4000000 in
set_option maxRecDepth 100000 in
theorem mt_L_addTag (l : Launch) (hfl : l.stackTraces = false) (E : KEnv) (x : Nat) (a1 : Int32) (a2 : Int32) (out : Nat) (M M' : Mem) (v : Int32) (h : f_L_addTag x a1 a2 out M = some (v, M')) : Met l yL_addTag (Cond.codeWith yL_addTag cL_addTag 5 (some .int) [(0, 10, 13, 19)] :: lw_G) rm_L_addTag (cPc E [.ref x, .int a1, .int a2, .ref out] M) (cQz E (some (.int v)) M') 26 1365 (eA E) := by
  refine Met_ofWH (cc := cL_addTag) (maxL := 5) (ret := (some .int)) (hh := [(0, 10, 13, 19)]) (by decide) rfl ?_
  intro p e s m args below meth c s₁ B hml hv
  obtain ⟨rfl, hE, hM⟩ := hv
  have hx := B.exec
  have hb := B.bytes
  have hr := B.returns
  have hts0 := atoms_spec (ws := Cond.codeWith yL_addTag cL_addTag 5 (some .int) [(0, 10, 13, 19)] :: lw_G) B.pre
  have hts : ∀ w ∈ lw_G, w.before _ s = true := fun w hw => hts0 w (List.mem_cons_of_mem _ hw)
  have htab := vx_table (x := yL_addTag) B (hts0 _ List.mem_cons_self)
  have hown : s.vm.findClass RL = some m.cls := findClass_of_methodNamed B.named
  have hlocks := B.notSynchronized
  have hC : CallFix p m c cL_addTag 5 s _ lw_G RL := ⟨hx, hb, hml, hown, hts⟩
  have hS : va_S (eA E) s.heap s.heap [] := va_S.rf
  have hl := lv_entry ([.ref x, .int a1, .int a2, .ref out]) (n := 5) (Nat.le_of_ble_eq_true rfl)
  rw [lg_entry_eq]
  generalize (lg_sl ([.ref x, .int a1, .int a2, .ref out]) ++ List.replicate (5 - (lg_sl ([.ref x, .int a1, .int a2, .ref out])).length) Slot.unset).toArray = ls at hl ⊢
  have hl : lv_has ls 5 [(0, .ref x), (1, .int a1), (2, .int a2), (3, .ref out)] := hl
  unfold f_L_addTag at h
  show W p l e rm_L_addTag s m _ below meth c s.heap [] 0 0 _ _
  refine lv_aload_n hx hb dL_addTag_0 rfl (lv_at hl 3 rfl) ?_
  refine lv_iconst (v := 0) hx hb dL_addTag_1 (by decide) ?_
  refine lv_aload_n hx hb dL_addTag_2 rfl (lv_at hl 0 rfl) ?_
  refine lv_iload_n hx hb dL_addTag_3 rfl (lv_at hl 1 rfl) ?_
  refine lv_iload_n hx hb dL_addTag_4 rfl (lv_at hl 2 rfl) ?_
  rcases obx h with ⟨v1, M2, h1, h⟩ | ⟨ex, M9, h1, h⟩
  rotate_left
  · obtain ⟨hk1, h1⟩ := ifg h1
    unfold hnd1 at h
    obtain ⟨e1, h⟩ := ifg h
    subst e1
    cases h
    refine kx_hand (hpc := 13) (kx_V (ci := 4) (As := [.int a1, .int a2]) (rest := [.int 0, .ref out]) hC hE hS hM (mt_X4_addTag _ hfl E x a1 a2 _ _ _ h1) (gwV qw_970 qw_971 qw_972 qw_92 qw_973) ⟨rfl, rfl, (Nat.le_of_ble_eq_true rfl), (Nat.le_of_ble_eq_true rfl)⟩ dd_X4_addTag rfl hk1 rfl rfl hl.1 (Nat.le_of_ble_eq_true rfl) dL_addTag_5 ⟨(Nat.le_of_ble_eq_true rfl), (Nat.le_of_ble_eq_true rfl)⟩) hS hown [] (⟨0, 10, 13, 19⟩ : ExceptionTableEntry) [] htab (fun z hz => nomatch hz) (by decide) (by decide) (hts _ qw_674) (va_Nw.use rfl (hE.2.2.2.2.2.2.2.1 (exN 0, exN 0) (by decide))) rfl (fun H locs z q9 hM hS => ?_)
    refine lv_astore (lv' := [(4, .ref q9), (0, .ref x), (1, .int a1), (2, .int a2), (3, .ref out)]) hx hb dL_addTag_13 hl (by decide) rfl (fun ls hl => ?_)
    refine lv_iconst (v := 1) hx hb dL_addTag_15 (by decide) ?_
    exact eIz hx hb hr hlocks hM hS dL_addTag_16 (Nat.le_of_ble_eq_true rfl) (Nat.le_of_ble_eq_true rfl)
  obtain ⟨hk1, h1⟩ := ifg h1
  refine kx_ok1 (kx_V (ci := 4) (As := [.int a1, .int a2]) (rest := [.int 0, .ref out]) hC hE hS hM (mt_X4_addTag _ hfl E x a1 a2 _ _ _ h1) (gwV qw_970 qw_971 qw_972 qw_92 qw_973) ⟨rfl, rfl, (Nat.le_of_ble_eq_true rfl), (Nat.le_of_ble_eq_true rfl)⟩ dd_X4_addTag rfl hk1 rfl rfl hl.1 (Nat.le_of_ble_eq_true rfl) dL_addTag_5 ⟨(Nat.le_of_ble_eq_true rfl), (Nat.le_of_ble_eq_true rfl)⟩) hS (fun H locs hM hS => ?_)
  refine lv_i2l (v := v1.toInt64) hx hb dL_addTag_8 rfl ?_
  obtain ⟨M3, h1, h⟩ := ob h
  refine r_last hx hb hE hM hS h1 dL_addTag_9 (fun H locs hM hS => ?_)
  refine lv_goto (tgt := 17) hx hb dL_addTag_10 (by decide) ?_
  refine lv_iconst (v := 0) hx hb dL_addTag_17 (by decide) ?_
  cases h
  exact eIz (z := mZ M') hx hb hr hlocks (show MOK E (setZ M' (mZ M')) _ from hM) hS dL_addTag_18 (Nat.le_of_ble_eq_true rfl) (Nat.le_of_ble_eq_true rfl)

theorem dd_L_removeTag : yL_removeTag.cls ≠ "java/lang/invoke/MethodHandle" ∧ yL_removeTag.cls ≠ "java/lang/invoke/VarHandle" ∧ (parseMethodDescriptor yL_removeTag.desc).map (fun d => d.parameters.length) = some 4 := by decide +kernel
abbrev rm_L_removeTag : Room := ({ frames := 9, cells := 26, slots := 1365, locals := 156 } : Room)
noncomputable def f_L_removeTag (x : Nat) (a1 : Int32) (a2 : Int32) (out : Nat) (M : Mem) : Option (Int32 × Mem) :=
  bx (cK 5 x M (f_X4_removeTag x a1 a2 M)) (hnd2 0 2) fun v1 M2 =>
  (sL out 0 v1.toInt64 M2).bind fun M3 =>
  some (0, M3)
set_option maxHeartbeats 4000000 in
set_option maxRecDepth 100000 in
theorem mt_L_removeTag (l : Launch) (hfl : l.stackTraces = false) (E : KEnv) (x : Nat) (a1 : Int32) (a2 : Int32) (out : Nat) (M M' : Mem) (v : Int32) (h : f_L_removeTag x a1 a2 out M = some (v, M')) : Met l yL_removeTag (Cond.codeWith yL_removeTag cL_removeTag 5 (some .int) [(0, 10, 13, 19), (0, 10, 17, 13)] :: lw_G) rm_L_removeTag (cPc E [.ref x, .int a1, .int a2, .ref out] M) (cQz E (some (.int v)) M') 26 1365 (eA E) := by
  refine Met_ofWH (cc := cL_removeTag) (maxL := 5) (ret := (some .int)) (hh := [(0, 10, 13, 19), (0, 10, 17, 13)]) (by decide) rfl ?_
  intro p e s m args below meth c s₁ B hml hv
  obtain ⟨rfl, hE, hM⟩ := hv
  have hx := B.exec
  have hb := B.bytes
  have hr := B.returns
  have hts0 := atoms_spec (ws := Cond.codeWith yL_removeTag cL_removeTag 5 (some .int) [(0, 10, 13, 19), (0, 10, 17, 13)] :: lw_G) B.pre
  have hts : ∀ w ∈ lw_G, w.before _ s = true := fun w hw => hts0 w (List.mem_cons_of_mem _ hw)
  have htab := vx_table (x := yL_removeTag) B (hts0 _ List.mem_cons_self)
  have hown : s.vm.findClass RL = some m.cls := findClass_of_methodNamed B.named
  have hlocks := B.notSynchronized
  have hC : CallFix p m c cL_removeTag 5 s _ lw_G RL := ⟨hx, hb, hml, hown, hts⟩
  have hS : va_S (eA E) s.heap s.heap [] := va_S.rf
  have hl := lv_entry ([.ref x, .int a1, .int a2, .ref out]) (n := 5) (Nat.le_of_ble_eq_true rfl)
  rw [lg_entry_eq]
  generalize (lg_sl ([.ref x, .int a1, .int a2, .ref out]) ++ List.replicate (5 - (lg_sl ([.ref x, .int a1, .int a2, .ref out])).length) Slot.unset).toArray = ls at hl ⊢
  have hl : lv_has ls 5 [(0, .ref x), (1, .int a1), (2, .int a2), (3, .ref out)] := hl
  unfold f_L_removeTag at h
  show W p l e rm_L_removeTag s m _ below meth c s.heap [] 0 0 _ _
  refine lv_aload_n hx hb dL_removeTag_0 rfl (lv_at hl 3 rfl) ?_
  refine lv_iconst (v := 0) hx hb dL_removeTag_1 (by decide) ?_
  refine lv_aload_n hx hb dL_removeTag_2 rfl (lv_at hl 0 rfl) ?_
  refine lv_iload_n hx hb dL_removeTag_3 rfl (lv_at hl 1 rfl) ?_
  refine lv_iload_n hx hb dL_removeTag_4 rfl (lv_at hl 2 rfl) ?_
  rcases obx h with ⟨v1, M2, h1, h⟩ | ⟨ex, M9, h1, h⟩
  rotate_left
  · obtain ⟨hk1, h1⟩ := ifg h1
    unfold hnd2 at h
    by_cases e1 : ex = 0
    · have h := ifp e1 h
      subst e1
      cases h
      refine kx_hand (hpc := 13) (kx_V (ci := 4) (As := [.int a1, .int a2]) (rest := [.int 0, .ref out]) hC hE hS hM (mt_X4_removeTag _ hfl E x a1 a2 _ _ _ h1) (gwV qw_978 qw_979 qw_980 qw_92 qw_981) ⟨rfl, rfl, (Nat.le_of_ble_eq_true rfl), (Nat.le_of_ble_eq_true rfl)⟩ dd_X4_removeTag rfl hk1 rfl rfl hl.1 (Nat.le_of_ble_eq_true rfl) dL_removeTag_5 ⟨(Nat.le_of_ble_eq_true rfl), (Nat.le_of_ble_eq_true rfl)⟩) hS hown [] (⟨0, 10, 13, 19⟩ : ExceptionTableEntry) [(⟨0, 10, 17, 13⟩ : ExceptionTableEntry)] htab (fun z hz => nomatch hz) (by decide) (by decide) (hts _ qw_674) (va_Nw.use rfl (hE.2.2.2.2.2.2.2.1 (exN 0, exN 0) (by decide))) rfl (fun H locs z q9 hM hS => ?_)
      refine lv_astore (lv' := [(4, .ref q9), (0, .ref x), (1, .int a1), (2, .int a2), (3, .ref out)]) hx hb dL_removeTag_13 hl (by decide) rfl (fun ls hl => ?_)
      refine lv_iconst (v := 1) hx hb dL_removeTag_15 (by decide) ?_
      exact eIz hx hb hr hlocks hM hS dL_removeTag_16 (Nat.le_of_ble_eq_true rfl) (Nat.le_of_ble_eq_true rfl)
    · have h := ifn e1 h
      obtain ⟨e2, h⟩ := ifg h
      subst e2
      cases h
      refine kx_hand (hpc := 17) (kx_V (ci := 4) (As := [.int a1, .int a2]) (rest := [.int 0, .ref out]) hC hE hS hM (mt_X4_removeTag _ hfl E x a1 a2 _ _ _ h1) (gwV qw_978 qw_979 qw_980 qw_92 qw_981) ⟨rfl, rfl, (Nat.le_of_ble_eq_true rfl), (Nat.le_of_ble_eq_true rfl)⟩ dd_X4_removeTag rfl hk1 rfl rfl hl.1 (Nat.le_of_ble_eq_true rfl) dL_removeTag_5 ⟨(Nat.le_of_ble_eq_true rfl), (Nat.le_of_ble_eq_true rfl)⟩) hS hown [(⟨0, 10, 13, 19⟩ : ExceptionTableEntry)] (⟨0, 10, 17, 13⟩ : ExceptionTableEntry) [] htab (fun z hz => by rw [List.mem_singleton.mp hz]; exact Or.inr ⟨by decide, _, hts _ qw_674, hE.2.2.2.2.2.2.2.2.2.2.2 (exN 2, "java/lang/IndexOutOfBoundsException") (by decide)⟩) (by decide) (by decide) (hts _ qw_595) (va_Nw.use rfl (hE.2.2.2.2.2.2.2.1 (exN 2, exN 2) (by decide))) rfl (fun H locs z q9 hM hS => ?_)
      refine lv_astore (lv' := [(4, .ref q9), (0, .ref x), (1, .int a1), (2, .int a2), (3, .ref out)]) hx hb dL_removeTag_17 hl (by decide) rfl (fun ls hl => ?_)
      refine lv_iconst (v := 2) hx hb dL_removeTag_19 (by decide) ?_
      exact eIz hx hb hr hlocks hM hS dL_removeTag_20 (Nat.le_of_ble_eq_true rfl) (Nat.le_of_ble_eq_true rfl)
  obtain ⟨hk1, h1⟩ := ifg h1
  refine kx_ok1 (kx_V (ci := 4) (As := [.int a1, .int a2]) (rest := [.int 0, .ref out]) hC hE hS hM (mt_X4_removeTag _ hfl E x a1 a2 _ _ _ h1) (gwV qw_978 qw_979 qw_980 qw_92 qw_981) ⟨rfl, rfl, (Nat.le_of_ble_eq_true rfl), (Nat.le_of_ble_eq_true rfl)⟩ dd_X4_removeTag rfl hk1 rfl rfl hl.1 (Nat.le_of_ble_eq_true rfl) dL_removeTag_5 ⟨(Nat.le_of_ble_eq_true rfl), (Nat.le_of_ble_eq_true rfl)⟩) hS (fun H locs hM hS => ?_)
  refine lv_i2l (v := v1.toInt64) hx hb dL_removeTag_8 rfl ?_
  obtain ⟨M3, h1, h⟩ := ob h
  refine r_last hx hb hE hM hS h1 dL_removeTag_9 (fun H locs hM hS => ?_)
  refine lv_goto (tgt := 21) hx hb dL_removeTag_10 (by decide) ?_
  refine lv_iconst (v := 0) hx hb dL_removeTag_21 (by decide) ?_
  cases h
  exact eIz (z := mZ M') hx hb hr hlocks (show MOK E (setZ M' (mZ M')) _ from hM) hS dL_removeTag_22 (Nat.le_of_ble_eq_true rfl) (Nat.le_of_ble_eq_true rfl)

theorem dd_L_write : yL_write.cls ≠ "java/lang/invoke/MethodHandle" ∧ yL_write.cls ≠ "java/lang/invoke/VarHandle" ∧ (parseMethodDescriptor yL_write.desc).map (fun d => d.parameters.length) = some 5 := by decide +kernel
abbrev rm_L_write : Room := ({ frames := 9, cells := 26, slots := 1365, locals := 157 } : Room)
noncomputable def f_L_write (x : Nat) (a1 : Int32) (a2 : Int32) (a3 : Int32) (out : Nat) (M : Mem) : Option (Int32 × Mem) :=
  bx (cK 5 x M (f_X4_write x a1 a2 a3 M)) (hnd2 0 1) fun v1 M2 =>
  (sL out 0 v1.toInt64 M2).bind fun M3 =>
  some (0, M3)
set_option maxHeartbeats 4000000 in
set_option maxRecDepth 100000 in
theorem mt_L_write (l : Launch) (hfl : l.stackTraces = false) (E : KEnv) (x : Nat) (a1 : Int32) (a2 : Int32) (a3 : Int32) (out : Nat) (M M' : Mem) (v : Int32) (h : f_L_write x a1 a2 a3 out M = some (v, M')) : Met l yL_write (Cond.codeWith yL_write cL_write 6 (some .int) [(0, 12, 15, 19), (0, 12, 19, 21)] :: lw_G) rm_L_write (cPc E [.ref x, .int a1, .int a2, .int a3, .ref out] M) (cQz E (some (.int v)) M') 26 1365 (eA E) := by
  refine Met_ofWH (cc := cL_write) (maxL := 6) (ret := (some .int)) (hh := [(0, 12, 15, 19), (0, 12, 19, 21)]) (by decide) rfl ?_
  intro p e s m args below meth c s₁ B hml hv
  obtain ⟨rfl, hE, hM⟩ := hv
  have hx := B.exec
  have hb := B.bytes
  have hr := B.returns
  have hts0 := atoms_spec (ws := Cond.codeWith yL_write cL_write 6 (some .int) [(0, 12, 15, 19), (0, 12, 19, 21)] :: lw_G) B.pre
  have hts : ∀ w ∈ lw_G, w.before _ s = true := fun w hw => hts0 w (List.mem_cons_of_mem _ hw)
  have htab := vx_table (x := yL_write) B (hts0 _ List.mem_cons_self)
  have hown : s.vm.findClass RL = some m.cls := findClass_of_methodNamed B.named
  have hlocks := B.notSynchronized
  have hC : CallFix p m c cL_write 6 s _ lw_G RL := ⟨hx, hb, hml, hown, hts⟩
  have hS : va_S (eA E) s.heap s.heap [] := va_S.rf
  have hl := lv_entry ([.ref x, .int a1, .int a2, .int a3, .ref out]) (n := 6) (Nat.le_of_ble_eq_true rfl)
  rw [lg_entry_eq]
  generalize (lg_sl ([.ref x, .int a1, .int a2, .int a3, .ref out]) ++ List.replicate (6 - (lg_sl ([.ref x, .int a1, .int a2, .int a3, .ref out])).length) Slot.unset).toArray = ls at hl ⊢
  have hl : lv_has ls 6 [(0, .ref x), (1, .int a1), (2, .int a2), (3, .int a3), (4, .ref out)] := hl
  unfold f_L_write at h
  show W p l e rm_L_write s m _ below meth c s.heap [] 0 0 _ _
  refine lv_aload hx hb dL_write_0 (lv_at hl 4 rfl) ?_
  refine lv_iconst (v := 0) hx hb dL_write_2 (by decide) ?_
  refine lv_aload_n hx hb dL_write_3 rfl (lv_at hl 0 rfl) ?_
  refine lv_iload_n hx hb dL_write_4 rfl (lv_at hl 1 rfl) ?_
  refine lv_iload_n hx hb dL_write_5 rfl (lv_at hl 2 rfl) ?_
  refine lv_iload_n hx hb dL_write_6 rfl (lv_at hl 3 rfl) ?_
  rcases obx h with ⟨v1, M2, h1, h⟩ | ⟨ex, M9, h1, h⟩
  rotate_left
  · obtain ⟨hk1, h1⟩ := ifg h1
    unfold hnd2 at h
    by_cases e1 : ex = 0
    · have h := ifp e1 h
      subst e1
      cases h
      refine kx_hand (hpc := 15) (kx_V (ci := 4) (As := [.int a1, .int a2, .int a3]) (rest := [.int 0, .ref out]) hC hE hS hM (mt_X4_write _ hfl E x a1 a2 a3 _ _ _ h1) (gwV qw_987 qw_988 qw_989 qw_92 qw_990) ⟨rfl, rfl, (Nat.le_of_ble_eq_true rfl), (Nat.le_of_ble_eq_true rfl)⟩ dd_X4_write rfl hk1 rfl rfl hl.1 (Nat.le_of_ble_eq_true rfl) dL_write_7 ⟨(Nat.le_of_ble_eq_true rfl), (Nat.le_of_ble_eq_true rfl)⟩) hS hown [] (⟨0, 12, 15, 19⟩ : ExceptionTableEntry) [(⟨0, 12, 19, 21⟩ : ExceptionTableEntry)] htab (fun z hz => nomatch hz) (by decide) (by decide) (hts _ qw_674) (va_Nw.use rfl (hE.2.2.2.2.2.2.2.1 (exN 0, exN 0) (by decide))) rfl (fun H locs z q9 hM hS => ?_)
      refine lv_astore (lv' := [(5, .ref q9), (0, .ref x), (1, .int a1), (2, .int a2), (3, .int a3), (4, .ref out)]) hx hb dL_write_15 hl (by decide) rfl (fun ls hl => ?_)
      refine lv_iconst (v := 1) hx hb dL_write_17 (by decide) ?_
      exact eIz hx hb hr hlocks hM hS dL_write_18 (Nat.le_of_ble_eq_true rfl) (Nat.le_of_ble_eq_true rfl)
    · have h := ifn e1 h
      obtain ⟨e2, h⟩ := ifg h
      subst e2
      cases h
      refine kx_hand (hpc := 19) (kx_V (ci := 4) (As := [.int a1, .int a2, .int a3]) (rest := [.int 0, .ref out]) hC hE hS hM (mt_X4_write _ hfl E x a1 a2 a3 _ _ _ h1) (gwV qw_987 qw_988 qw_989 qw_92 qw_990) ⟨rfl, rfl, (Nat.le_of_ble_eq_true rfl), (Nat.le_of_ble_eq_true rfl)⟩ dd_X4_write rfl hk1 rfl rfl hl.1 (Nat.le_of_ble_eq_true rfl) dL_write_7 ⟨(Nat.le_of_ble_eq_true rfl), (Nat.le_of_ble_eq_true rfl)⟩) hS hown [(⟨0, 12, 15, 19⟩ : ExceptionTableEntry)] (⟨0, 12, 19, 21⟩ : ExceptionTableEntry) [] htab (fun z hz => by rw [List.mem_singleton.mp hz]; exact Or.inr ⟨by decide, _, hts _ qw_674, hE.2.2.2.2.2.2.2.2.2.2.2 (exN 1, "java/lang/IndexOutOfBoundsException") (by decide)⟩) (by decide) (by decide) (hts _ qw_675) (va_Nw.use rfl (hE.2.2.2.2.2.2.2.1 (exN 1, exN 1) (by decide))) rfl (fun H locs z q9 hM hS => ?_)
      refine lv_astore (lv' := [(5, .ref q9), (0, .ref x), (1, .int a1), (2, .int a2), (3, .int a3), (4, .ref out)]) hx hb dL_write_19 hl (by decide) rfl (fun ls hl => ?_)
      refine lv_iconst (v := 2) hx hb dL_write_21 (by decide) ?_
      exact eIz hx hb hr hlocks hM hS dL_write_22 (Nat.le_of_ble_eq_true rfl) (Nat.le_of_ble_eq_true rfl)
  obtain ⟨hk1, h1⟩ := ifg h1
  refine kx_ok1 (kx_V (ci := 4) (As := [.int a1, .int a2, .int a3]) (rest := [.int 0, .ref out]) hC hE hS hM (mt_X4_write _ hfl E x a1 a2 a3 _ _ _ h1) (gwV qw_987 qw_988 qw_989 qw_92 qw_990) ⟨rfl, rfl, (Nat.le_of_ble_eq_true rfl), (Nat.le_of_ble_eq_true rfl)⟩ dd_X4_write rfl hk1 rfl rfl hl.1 (Nat.le_of_ble_eq_true rfl) dL_write_7 ⟨(Nat.le_of_ble_eq_true rfl), (Nat.le_of_ble_eq_true rfl)⟩) hS (fun H locs hM hS => ?_)
  refine lv_i2l (v := v1.toInt64) hx hb dL_write_10 rfl ?_
  obtain ⟨M3, h1, h⟩ := ob h
  refine r_last hx hb hE hM hS h1 dL_write_11 (fun H locs hM hS => ?_)
  refine lv_goto (tgt := 23) hx hb dL_write_12 (by decide) ?_
  refine lv_iconst (v := 0) hx hb dL_write_23 (by decide) ?_
  cases h
  exact eIz (z := mZ M') hx hb hr hlocks (show MOK E (setZ M' (mZ M')) _ from hM) hS dL_write_24 (Nat.le_of_ble_eq_true rfl) (Nat.le_of_ble_eq_true rfl)

theorem dd_L_merge : yL_merge.cls ≠ "java/lang/invoke/MethodHandle" ∧ yL_merge.cls ≠ "java/lang/invoke/VarHandle" ∧ (parseMethodDescriptor yL_merge.desc).map (fun d => d.parameters.length) = some 4 := by decide +kernel
abbrev rm_L_merge : Room := ({ frames := 9, cells := 26, slots := 1365, locals := 168 } : Room)
noncomputable def f_L_merge (x : Nat) (a1 : Int32) (a2 : Int32) (out : Nat) (M : Mem) : Option (Int32 × Mem) :=
  bx (cK 5 x M (f_X4_merge x a1 a2 M)) (hnd1 0) fun v1 M2 =>
  (if v1 = 0 then
  (sL out 0 0 M2).bind fun M3 =>
  some (0, M3)
  else
  (sL out 0 1 M2).bind fun M4 =>
  some (0, M4))
set_option maxHeartbeats 4000000 in
set_option maxRecDepth 100000 in
theorem mt_L_merge (l : Launch) (hfl : l.stackTraces = false) (E : KEnv) (x : Nat) (a1 : Int32) (a2 : Int32) (out : Nat) (M M' : Mem) (v : Int32) (h : f_L_merge x a1 a2 out M = some (v, M')) : Met l yL_merge (Cond.codeWith yL_merge cL_merge 5 (some .int) [(0, 17, 20, 19)] :: lw_G) rm_L_merge (cPc E [.ref x, .int a1, .int a2, .ref out] M) (cQz E (some (.int v)) M') 26 1365 (eA E) := by
  refine Met_ofWH (cc := cL_merge) (maxL := 5) (ret := (some .int)) (hh := [(0, 17, 20, 19)]) (by decide) rfl ?_
  intro p e s m args below meth c s₁ B hml hv
  obtain ⟨rfl, hE, hM⟩ := hv
  have hx := B.exec
  have hb := B.bytes
  have hr := B.returns
  have hts0 := atoms_spec (ws := Cond.codeWith yL_merge cL_merge 5 (some .int) [(0, 17, 20, 19)] :: lw_G) B.pre
  have hts : ∀ w ∈ lw_G, w.before _ s = true := fun w hw => hts0 w (List.mem_cons_of_mem _ hw)
  have htab := vx_table (x := yL_merge) B (hts0 _ List.mem_cons_self)
  have hown : s.vm.findClass RL = some m.cls := findClass_of_methodNamed B.named
  have hlocks := B.notSynchronized
  have hC : CallFix p m c cL_merge 5 s _ lw_G RL := ⟨hx, hb, hml, hown, hts⟩
  have hS : va_S (eA E) s.heap s.heap [] := va_S.rf
  have hl := lv_entry ([.ref x, .int a1, .int a2, .ref out]) (n := 5) (Nat.le_of_ble_eq_true rfl)
  rw [lg_entry_eq]
  generalize (lg_sl ([.ref x, .int a1, .int a2, .ref out]) ++ List.replicate (5 - (lg_sl ([.ref x, .int a1, .int a2, .ref out])).length) Slot.unset).toArray = ls at hl ⊢
  have hl : lv_has ls 5 [(0, .ref x), (1, .int a1), (2, .int a2), (3, .ref out)] := hl
  unfold f_L_merge at h
  show W p l e rm_L_merge s m _ below meth c s.heap [] 0 0 _ _
  refine lv_aload_n hx hb dL_merge_0 rfl (lv_at hl 3 rfl) ?_
  refine lv_iconst (v := 0) hx hb dL_merge_1 (by decide) ?_
  refine lv_aload_n hx hb dL_merge_2 rfl (lv_at hl 0 rfl) ?_
  refine lv_iload_n hx hb dL_merge_3 rfl (lv_at hl 1 rfl) ?_
  refine lv_iload_n hx hb dL_merge_4 rfl (lv_at hl 2 rfl) ?_
  rcases obx h with ⟨v1, M2, h1, h⟩ | ⟨ex, M9, h1, h⟩
  rotate_left
  · obtain ⟨hk1, h1⟩ := ifg h1
    unfold hnd1 at h
    obtain ⟨e1, h⟩ := ifg h
    subst e1
    cases h
    refine kx_hand (hpc := 20) (kx_V (ci := 4) (As := [.int a1, .int a2]) (rest := [.int 0, .ref out]) hC hE hS hM (mt_X4_merge _ hfl E x a1 a2 _ _ _ h1) (gwV qw_996 qw_997 qw_998 qw_92 qw_999) ⟨rfl, rfl, (Nat.le_of_ble_eq_true rfl), (Nat.le_of_ble_eq_true rfl)⟩ dd_X4_merge rfl hk1 rfl rfl hl.1 (Nat.le_of_ble_eq_true rfl) dL_merge_5 ⟨(Nat.le_of_ble_eq_true rfl), (Nat.le_of_ble_eq_true rfl)⟩) hS hown [] (⟨0, 17, 20, 19⟩ : ExceptionTableEntry) [] htab (fun z hz => nomatch hz) (by decide) (by decide) (hts _ qw_674) (va_Nw.use rfl (hE.2.2.2.2.2.2.2.1 (exN 0, exN 0) (by decide))) rfl (fun H locs z q9 hM hS => ?_)
    refine lv_astore (lv' := [(4, .ref q9), (0, .ref x), (1, .int a1), (2, .int a2), (3, .ref out)]) hx hb dL_merge_20 hl (by decide) rfl (fun ls hl => ?_)
    refine lv_iconst (v := 1) hx hb dL_merge_22 (by decide) ?_
    exact eIz hx hb hr hlocks hM hS dL_merge_23 (Nat.le_of_ble_eq_true rfl) (Nat.le_of_ble_eq_true rfl)
  obtain ⟨hk1, h1⟩ := ifg h1
  refine kx_ok1 (kx_V (ci := 4) (As := [.int a1, .int a2]) (rest := [.int 0, .ref out]) hC hE hS hM (mt_X4_merge _ hfl E x a1 a2 _ _ _ h1) (gwV qw_996 qw_997 qw_998 qw_92 qw_999) ⟨rfl, rfl, (Nat.le_of_ble_eq_true rfl), (Nat.le_of_ble_eq_true rfl)⟩ dd_X4_merge rfl hk1 rfl rfl hl.1 (Nat.le_of_ble_eq_true rfl) dL_merge_5 ⟨(Nat.le_of_ble_eq_true rfl), (Nat.le_of_ble_eq_true rfl)⟩) hS (fun H locs hM hS => ?_)
  refine lv_if_eq (tgt := 15) hx hb dL_merge_8 (by decide) (fun c1 => ?_) (fun c1 => ?_)
  · have h := ifp c1 h
    refine lv_lconst (v := 0) hx hb dL_merge_15 (by decide) ?_
    obtain ⟨M3, h1, h⟩ := ob h
    refine r_last hx hb hE hM hS h1 dL_merge_16 (fun H locs hM hS => ?_)
    refine lv_goto (tgt := 24) hx hb dL_merge_17 (by decide) ?_
    refine lv_iconst (v := 0) hx hb dL_merge_24 (by decide) ?_
    cases h
    exact eIz (z := mZ M') hx hb hr hlocks (show MOK E (setZ M' (mZ M')) _ from hM) hS dL_merge_25 (Nat.le_of_ble_eq_true rfl) (Nat.le_of_ble_eq_true rfl)
  · have h := ifn c1 h
    refine lv_lconst (v := 1) hx hb dL_merge_11 (by decide) ?_
    refine lv_goto (tgt := 16) hx hb dL_merge_12 (by decide) ?_
    obtain ⟨M4, h1, h⟩ := ob h
    refine r_last hx hb hE hM hS h1 dL_merge_16 (fun H locs hM hS => ?_)
    refine lv_goto (tgt := 24) hx hb dL_merge_17 (by decide) ?_
    refine lv_iconst (v := 0) hx hb dL_merge_24 (by decide) ?_
    cases h
    exact eIz (z := mZ M') hx hb hr hlocks (show MOK E (setZ M' (mZ M')) _ from hM) hS dL_merge_25 (Nat.le_of_ble_eq_true rfl) (Nat.le_of_ble_eq_true rfl)

theorem dd_L_send : yL_send.cls ≠ "java/lang/invoke/MethodHandle" ∧ yL_send.cls ≠ "java/lang/invoke/VarHandle" ∧ (parseMethodDescriptor yL_send.desc).map (fun d => d.parameters.length) = some 3 := by decide +kernel
abbrev rm_L_send : Room := ({ frames := 8, cells := 25, slots := 1359, locals := 145 } : Room)
noncomputable def f_L_send (x : Nat) (a1 : Int32) (out : Nat) (M : Mem) : Option (Int32 × Mem) :=
  bx (cK 5 x M (f_X4_send x a1 M)) (hnd2 0 2) fun v1 M2 =>
  (sL out 0 v1.toInt64 M2).bind fun M3 =>
  some (0, M3)
set_option maxHeartbeats 4000000 in
set_option maxRecDepth 100000 in
theorem mt_L_send (l : Launch) (hfl : l.stackTraces = false) (E : KEnv) (x : Nat) (a1 : Int32) (out : Nat) (M M' : Mem) (v : Int32) (h : f_L_send x a1 out M = some (v, M')) : Met l yL_send (Cond.codeWith yL_send cL_send 4 (some .int) [(0, 9, 12, 19), (0, 9, 15, 13)] :: lw_G) rm_L_send (cPc E [.ref x, .int a1, .ref out] M) (cQz E (some (.int v)) M') 25 1359 (eA E) := by
  refine Met_ofWH (cc := cL_send) (maxL := 4) (ret := (some .int)) (hh := [(0, 9, 12, 19), (0, 9, 15, 13)]) (by decide) rfl ?_
  intro p e s m args below meth c s₁ B hml hv
  obtain ⟨rfl, hE, hM⟩ := hv
  have hx := B.exec
  have hb := B.bytes
  have hr := B.returns
  have hts0 := atoms_spec (ws := Cond.codeWith yL_send cL_send 4 (some .int) [(0, 9, 12, 19), (0, 9, 15, 13)] :: lw_G) B.pre
  have hts : ∀ w ∈ lw_G, w.before _ s = true := fun w hw => hts0 w (List.mem_cons_of_mem _ hw)
  have htab := vx_table (x := yL_send) B (hts0 _ List.mem_cons_self)
  have hown : s.vm.findClass RL = some m.cls := findClass_of_methodNamed B.named
  have hlocks := B.notSynchronized
  have hC : CallFix p m c cL_send 4 s _ lw_G RL := ⟨hx, hb, hml, hown, hts⟩
  have hS : va_S (eA E) s.heap s.heap [] := va_S.rf
  have hl := lv_entry ([.ref x, .int a1, .ref out]) (n := 4) (Nat.le_of_ble_eq_true rfl)
  rw [lg_entry_eq]
  generalize (lg_sl ([.ref x, .int a1, .ref out]) ++ List.replicate (4 - (lg_sl ([.ref x, .int a1, .ref out])).length) Slot.unset).toArray = ls at hl ⊢
  have hl : lv_has ls 4 [(0, .ref x), (1, .int a1), (2, .ref out)] := hl
  unfold f_L_send at h
  show W p l e rm_L_send s m _ below meth c s.heap [] 0 0 _ _
  refine lv_aload_n hx hb dL_send_0 rfl (lv_at hl 2 rfl) ?_
  refine lv_iconst (v := 0) hx hb dL_send_1 (by decide) ?_
  refine lv_aload_n hx hb dL_send_2 rfl (lv_at hl 0 rfl) ?_
  refine lv_iload_n hx hb dL_send_3 rfl (lv_at hl 1 rfl) ?_
  rcases obx h with ⟨v1, M2, h1, h⟩ | ⟨ex, M9, h1, h⟩
  rotate_left
  · obtain ⟨hk1, h1⟩ := ifg h1
    unfold hnd2 at h
    by_cases e1 : ex = 0
    · have h := ifp e1 h
      subst e1
      cases h
      refine kx_hand (hpc := 12) (kx_V (ci := 4) (As := [.int a1]) (rest := [.int 0, .ref out]) hC hE hS hM (mt_X4_send _ hfl E x a1 _ _ _ h1) (gwV qw_1007 qw_1008 qw_1009 qw_92 qw_1010) ⟨rfl, rfl, (Nat.le_of_ble_eq_true rfl), (Nat.le_of_ble_eq_true rfl)⟩ dd_X4_send rfl hk1 rfl rfl hl.1 (Nat.le_of_ble_eq_true rfl) dL_send_4 ⟨(Nat.le_of_ble_eq_true rfl), (Nat.le_of_ble_eq_true rfl)⟩) hS hown [] (⟨0, 9, 12, 19⟩ : ExceptionTableEntry) [(⟨0, 9, 15, 13⟩ : ExceptionTableEntry)] htab (fun z hz => nomatch hz) (by decide) (by decide) (hts _ qw_674) (va_Nw.use rfl (hE.2.2.2.2.2.2.2.1 (exN 0, exN 0) (by decide))) rfl (fun H locs z q9 hM hS => ?_)
      refine lv_astore_n (lv' := [(3, .ref q9), (0, .ref x), (1, .int a1), (2, .ref out)]) hx hb dL_send_12 rfl hl (by decide) rfl (fun ls hl => ?_)
      refine lv_iconst (v := 1) hx hb dL_send_13 (by decide) ?_
      exact eIz hx hb hr hlocks hM hS dL_send_14 (Nat.le_of_ble_eq_true rfl) (Nat.le_of_ble_eq_true rfl)
    · have h := ifn e1 h
      obtain ⟨e2, h⟩ := ifg h
      subst e2
      cases h
      refine kx_hand (hpc := 15) (kx_V (ci := 4) (As := [.int a1]) (rest := [.int 0, .ref out]) hC hE hS hM (mt_X4_send _ hfl E x a1 _ _ _ h1) (gwV qw_1007 qw_1008 qw_1009 qw_92 qw_1010) ⟨rfl, rfl, (Nat.le_of_ble_eq_true rfl), (Nat.le_of_ble_eq_true rfl)⟩ dd_X4_send rfl hk1 rfl rfl hl.1 (Nat.le_of_ble_eq_true rfl) dL_send_4 ⟨(Nat.le_of_ble_eq_true rfl), (Nat.le_of_ble_eq_true rfl)⟩) hS hown [(⟨0, 9, 12, 19⟩ : ExceptionTableEntry)] (⟨0, 9, 15, 13⟩ : ExceptionTableEntry) [] htab (fun z hz => by rw [List.mem_singleton.mp hz]; exact Or.inr ⟨by decide, _, hts _ qw_674, hE.2.2.2.2.2.2.2.2.2.2.2 (exN 2, "java/lang/IndexOutOfBoundsException") (by decide)⟩) (by decide) (by decide) (hts _ qw_595) (va_Nw.use rfl (hE.2.2.2.2.2.2.2.1 (exN 2, exN 2) (by decide))) rfl (fun H locs z q9 hM hS => ?_)
      refine lv_astore_n (lv' := [(3, .ref q9), (0, .ref x), (1, .int a1), (2, .ref out)]) hx hb dL_send_15 rfl hl (by decide) rfl (fun ls hl => ?_)
      refine lv_iconst (v := 2) hx hb dL_send_16 (by decide) ?_
      exact eIz hx hb hr hlocks hM hS dL_send_17 (Nat.le_of_ble_eq_true rfl) (Nat.le_of_ble_eq_true rfl)
  obtain ⟨hk1, h1⟩ := ifg h1
  refine kx_ok1 (kx_V (ci := 4) (As := [.int a1]) (rest := [.int 0, .ref out]) hC hE hS hM (mt_X4_send _ hfl E x a1 _ _ _ h1) (gwV qw_1007 qw_1008 qw_1009 qw_92 qw_1010) ⟨rfl, rfl, (Nat.le_of_ble_eq_true rfl), (Nat.le_of_ble_eq_true rfl)⟩ dd_X4_send rfl hk1 rfl rfl hl.1 (Nat.le_of_ble_eq_true rfl) dL_send_4 ⟨(Nat.le_of_ble_eq_true rfl), (Nat.le_of_ble_eq_true rfl)⟩) hS (fun H locs hM hS => ?_)
  refine lv_i2l (v := v1.toInt64) hx hb dL_send_7 rfl ?_
  obtain ⟨M3, h1, h⟩ := ob h
  refine r_last hx hb hE hM hS h1 dL_send_8 (fun H locs hM hS => ?_)
  refine lv_goto (tgt := 18) hx hb dL_send_9 (by decide) ?_
  refine lv_iconst (v := 0) hx hb dL_send_18 (by decide) ?_
  cases h
  exact eIz (z := mZ M') hx hb hr hlocks (show MOK E (setZ M' (mZ M')) _ from hM) hS dL_send_19 (Nat.le_of_ble_eq_true rfl) (Nat.le_of_ble_eq_true rfl)

theorem dd_L_deliver : yL_deliver.cls ≠ "java/lang/invoke/MethodHandle" ∧ yL_deliver.cls ≠ "java/lang/invoke/VarHandle" ∧ (parseMethodDescriptor yL_deliver.desc).map (fun d => d.parameters.length) = some 4 := by decide +kernel
abbrev rm_L_deliver : Room := ({ frames := 9, cells := 26, slots := 1365, locals := 168 } : Room)
noncomputable def f_L_deliver (x : Nat) (a1 : Int32) (a2 : Int32) (out : Nat) (M : Mem) : Option (Int32 × Mem) :=
  bx (cK 5 x M (f_X4_deliver x a1 a2 M)) (hnd1 0) fun v1 M2 =>
  (if v1 = 0 then
  (sL out 0 0 M2).bind fun M3 =>
  some (0, M3)
  else
  (sL out 0 1 M2).bind fun M4 =>
  some (0, M4))
set_option maxHeartbeats 4000000 in
set_option maxRecDepth 100000 in
theorem mt_L_deliver (l : Launch) (hfl : l.stackTraces = false) (E : KEnv) (x : Nat) (a1 : Int32) (a2 : Int32) (out : Nat) (M M' : Mem) (v : Int32) (h : f_L_deliver x a1 a2 out M = some (v, M')) : Met l yL_deliver (Cond.codeWith yL_deliver cL_deliver 5 (some .int) [(0, 17, 20, 19)] :: lw_G) rm_L_deliver (cPc E [.ref x, .int a1, .int a2, .ref out] M) (cQz E (some (.int v)) M') 26 1365 (eA E) := by
  refine Met_ofWH (cc := cL_deliver) (maxL := 5) (ret := (some .int)) (hh := [(0, 17, 20, 19)]) (by decide) rfl ?_
  intro p e s m args below meth c s₁ B hml hv
  obtain ⟨rfl, hE, hM⟩ := hv
  have hx := B.exec
  have hb := B.bytes
  have hr := B.returns
  have hts0 := atoms_spec (ws := Cond.codeWith yL_deliver cL_deliver 5 (some .int) [(0, 17, 20, 19)] :: lw_G) B.pre
  have hts : ∀ w ∈ lw_G, w.before _ s = true := fun w hw => hts0 w (List.mem_cons_of_mem _ hw)
  have htab := vx_table (x := yL_deliver) B (hts0 _ List.mem_cons_self)
  have hown : s.vm.findClass RL = some m.cls := findClass_of_methodNamed B.named
  have hlocks := B.notSynchronized
  have hC : CallFix p m c cL_deliver 5 s _ lw_G RL := ⟨hx, hb, hml, hown, hts⟩
  have hS : va_S (eA E) s.heap s.heap [] := va_S.rf
  have hl := lv_entry ([.ref x, .int a1, .int a2, .ref out]) (n := 5) (Nat.le_of_ble_eq_true rfl)
  rw [lg_entry_eq]
  generalize (lg_sl ([.ref x, .int a1, .int a2, .ref out]) ++ List.replicate (5 - (lg_sl ([.ref x, .int a1, .int a2, .ref out])).length) Slot.unset).toArray = ls at hl ⊢
  have hl : lv_has ls 5 [(0, .ref x), (1, .int a1), (2, .int a2), (3, .ref out)] := hl
  unfold f_L_deliver at h
  show W p l e rm_L_deliver s m _ below meth c s.heap [] 0 0 _ _
  refine lv_aload_n hx hb dL_deliver_0 rfl (lv_at hl 3 rfl) ?_
  refine lv_iconst (v := 0) hx hb dL_deliver_1 (by decide) ?_
  refine lv_aload_n hx hb dL_deliver_2 rfl (lv_at hl 0 rfl) ?_
  refine lv_iload_n hx hb dL_deliver_3 rfl (lv_at hl 1 rfl) ?_
  refine lv_iload_n hx hb dL_deliver_4 rfl (lv_at hl 2 rfl) ?_
  rcases obx h with ⟨v1, M2, h1, h⟩ | ⟨ex, M9, h1, h⟩
  rotate_left
  · obtain ⟨hk1, h1⟩ := ifg h1
    unfold hnd1 at h
    obtain ⟨e1, h⟩ := ifg h
    subst e1
    cases h
    refine kx_hand (hpc := 20) (kx_V (ci := 4) (As := [.int a1, .int a2]) (rest := [.int 0, .ref out]) hC hE hS hM (mt_X4_deliver _ hfl E x a1 a2 _ _ _ h1) (gwV qw_1016 qw_1017 qw_1018 qw_92 qw_1019) ⟨rfl, rfl, (Nat.le_of_ble_eq_true rfl), (Nat.le_of_ble_eq_true rfl)⟩ dd_X4_deliver rfl hk1 rfl rfl hl.1 (Nat.le_of_ble_eq_true rfl) dL_deliver_5 ⟨(Nat.le_of_ble_eq_true rfl), (Nat.le_of_ble_eq_true rfl)⟩) hS hown [] (⟨0, 17, 20, 19⟩ : ExceptionTableEntry) [] htab (fun z hz => nomatch hz) (by decide) (by decide) (hts _ qw_674) (va_Nw.use rfl (hE.2.2.2.2.2.2.2.1 (exN 0, exN 0) (by decide))) rfl (fun H locs z q9 hM hS => ?_)
    refine lv_astore (lv' := [(4, .ref q9), (0, .ref x), (1, .int a1), (2, .int a2), (3, .ref out)]) hx hb dL_deliver_20 hl (by decide) rfl (fun ls hl => ?_)
    refine lv_iconst (v := 1) hx hb dL_deliver_22 (by decide) ?_
    exact eIz hx hb hr hlocks hM hS dL_deliver_23 (Nat.le_of_ble_eq_true rfl) (Nat.le_of_ble_eq_true rfl)
  obtain ⟨hk1, h1⟩ := ifg h1
  refine kx_ok1 (kx_V (ci := 4) (As := [.int a1, .int a2]) (rest := [.int 0, .ref out]) hC hE hS hM (mt_X4_deliver _ hfl E x a1 a2 _ _ _ h1) (gwV qw_1016 qw_1017 qw_1018 qw_92 qw_1019) ⟨rfl, rfl, (Nat.le_of_ble_eq_true rfl), (Nat.le_of_ble_eq_true rfl)⟩ dd_X4_deliver rfl hk1 rfl rfl hl.1 (Nat.le_of_ble_eq_true rfl) dL_deliver_5 ⟨(Nat.le_of_ble_eq_true rfl), (Nat.le_of_ble_eq_true rfl)⟩) hS (fun H locs hM hS => ?_)
  refine lv_if_eq (tgt := 15) hx hb dL_deliver_8 (by decide) (fun c1 => ?_) (fun c1 => ?_)
  · have h := ifp c1 h
    refine lv_lconst (v := 0) hx hb dL_deliver_15 (by decide) ?_
    obtain ⟨M3, h1, h⟩ := ob h
    refine r_last hx hb hE hM hS h1 dL_deliver_16 (fun H locs hM hS => ?_)
    refine lv_goto (tgt := 24) hx hb dL_deliver_17 (by decide) ?_
    refine lv_iconst (v := 0) hx hb dL_deliver_24 (by decide) ?_
    cases h
    exact eIz (z := mZ M') hx hb hr hlocks (show MOK E (setZ M' (mZ M')) _ from hM) hS dL_deliver_25 (Nat.le_of_ble_eq_true rfl) (Nat.le_of_ble_eq_true rfl)
  · have h := ifn c1 h
    refine lv_lconst (v := 1) hx hb dL_deliver_11 (by decide) ?_
    refine lv_goto (tgt := 16) hx hb dL_deliver_12 (by decide) ?_
    obtain ⟨M4, h1, h⟩ := ob h
    refine r_last hx hb hE hM hS h1 dL_deliver_16 (fun H locs hM hS => ?_)
    refine lv_goto (tgt := 24) hx hb dL_deliver_17 (by decide) ?_
    refine lv_iconst (v := 0) hx hb dL_deliver_24 (by decide) ?_
    cases h
    exact eIz (z := mZ M') hx hb hr hlocks (show MOK E (setZ M' (mZ M')) _ from hM) hS dL_deliver_25 (Nat.le_of_ble_eq_true rfl) (Nat.le_of_ble_eq_true rfl)

theorem dd_L_drop : yL_drop.cls ≠ "java/lang/invoke/MethodHandle" ∧ yL_drop.cls ≠ "java/lang/invoke/VarHandle" ∧ (parseMethodDescriptor yL_drop.desc).map (fun d => d.parameters.length) = some 3 := by decide +kernel
abbrev rm_L_drop : Room := ({ frames := 8, cells := 25, slots := 1359, locals := 145 } : Room)
noncomputable def f_L_drop (x : Nat) (a1 : Int32) (out : Nat) (M : Mem) : Option (Int32 × Mem) :=
  bx (cK 5 x M (f_X4_drop x a1 M)) (hnd1 0) fun v1 M2 =>
  (sL out 0 v1.toInt64 M2).bind fun M3 =>
  some (0, M3)
set_option maxHeartbeats 4000000 in
set_option maxRecDepth 100000 in
theorem mt_L_drop (l : Launch) (hfl : l.stackTraces = false) (E : KEnv) (x : Nat) (a1 : Int32) (out : Nat) (M M' : Mem) (v : Int32) (h : f_L_drop x a1 out M = some (v, M')) : Met l yL_drop (Cond.codeWith yL_drop cL_drop 4 (some .int) [(0, 9, 12, 19)] :: lw_G) rm_L_drop (cPc E [.ref x, .int a1, .ref out] M) (cQz E (some (.int v)) M') 25 1359 (eA E) := by
  refine Met_ofWH (cc := cL_drop) (maxL := 4) (ret := (some .int)) (hh := [(0, 9, 12, 19)]) (by decide) rfl ?_
  intro p e s m args below meth c s₁ B hml hv
  obtain ⟨rfl, hE, hM⟩ := hv
  have hx := B.exec
  have hb := B.bytes
  have hr := B.returns
  have hts0 := atoms_spec (ws := Cond.codeWith yL_drop cL_drop 4 (some .int) [(0, 9, 12, 19)] :: lw_G) B.pre
  have hts : ∀ w ∈ lw_G, w.before _ s = true := fun w hw => hts0 w (List.mem_cons_of_mem _ hw)
  have htab := vx_table (x := yL_drop) B (hts0 _ List.mem_cons_self)
  have hown : s.vm.findClass RL = some m.cls := findClass_of_methodNamed B.named
  have hlocks := B.notSynchronized
  have hC : CallFix p m c cL_drop 4 s _ lw_G RL := ⟨hx, hb, hml, hown, hts⟩
  have hS : va_S (eA E) s.heap s.heap [] := va_S.rf
  have hl := lv_entry ([.ref x, .int a1, .ref out]) (n := 4) (Nat.le_of_ble_eq_true rfl)
  rw [lg_entry_eq]
  generalize (lg_sl ([.ref x, .int a1, .ref out]) ++ List.replicate (4 - (lg_sl ([.ref x, .int a1, .ref out])).length) Slot.unset).toArray = ls at hl ⊢
  have hl : lv_has ls 4 [(0, .ref x), (1, .int a1), (2, .ref out)] := hl
  unfold f_L_drop at h
  show W p l e rm_L_drop s m _ below meth c s.heap [] 0 0 _ _
  refine lv_aload_n hx hb dL_drop_0 rfl (lv_at hl 2 rfl) ?_
  refine lv_iconst (v := 0) hx hb dL_drop_1 (by decide) ?_
  refine lv_aload_n hx hb dL_drop_2 rfl (lv_at hl 0 rfl) ?_
  refine lv_iload_n hx hb dL_drop_3 rfl (lv_at hl 1 rfl) ?_
  rcases obx h with ⟨v1, M2, h1, h⟩ | ⟨ex, M9, h1, h⟩
  rotate_left
  · obtain ⟨hk1, h1⟩ := ifg h1
    unfold hnd1 at h
    obtain ⟨e1, h⟩ := ifg h
    subst e1
    cases h
    refine kx_hand (hpc := 12) (kx_V (ci := 4) (As := [.int a1]) (rest := [.int 0, .ref out]) hC hE hS hM (mt_X4_drop _ hfl E x a1 _ _ _ h1) (gwV qw_1023 qw_1024 qw_1025 qw_92 qw_1026) ⟨rfl, rfl, (Nat.le_of_ble_eq_true rfl), (Nat.le_of_ble_eq_true rfl)⟩ dd_X4_drop rfl hk1 rfl rfl hl.1 (Nat.le_of_ble_eq_true rfl) dL_drop_4 ⟨(Nat.le_of_ble_eq_true rfl), (Nat.le_of_ble_eq_true rfl)⟩) hS hown [] (⟨0, 9, 12, 19⟩ : ExceptionTableEntry) [] htab (fun z hz => nomatch hz) (by decide) (by decide) (hts _ qw_674) (va_Nw.use rfl (hE.2.2.2.2.2.2.2.1 (exN 0, exN 0) (by decide))) rfl (fun H locs z q9 hM hS => ?_)
    refine lv_astore_n (lv' := [(3, .ref q9), (0, .ref x), (1, .int a1), (2, .ref out)]) hx hb dL_drop_12 rfl hl (by decide) rfl (fun ls hl => ?_)
    refine lv_iconst (v := 1) hx hb dL_drop_13 (by decide) ?_
    exact eIz hx hb hr hlocks hM hS dL_drop_14 (Nat.le_of_ble_eq_true rfl) (Nat.le_of_ble_eq_true rfl)
  obtain ⟨hk1, h1⟩ := ifg h1
  refine kx_ok1 (kx_V (ci := 4) (As := [.int a1]) (rest := [.int 0, .ref out]) hC hE hS hM (mt_X4_drop _ hfl E x a1 _ _ _ h1) (gwV qw_1023 qw_1024 qw_1025 qw_92 qw_1026) ⟨rfl, rfl, (Nat.le_of_ble_eq_true rfl), (Nat.le_of_ble_eq_true rfl)⟩ dd_X4_drop rfl hk1 rfl rfl hl.1 (Nat.le_of_ble_eq_true rfl) dL_drop_4 ⟨(Nat.le_of_ble_eq_true rfl), (Nat.le_of_ble_eq_true rfl)⟩) hS (fun H locs hM hS => ?_)
  refine lv_i2l (v := v1.toInt64) hx hb dL_drop_7 rfl ?_
  obtain ⟨M3, h1, h⟩ := ob h
  refine r_last hx hb hE hM hS h1 dL_drop_8 (fun H locs hM hS => ?_)
  refine lv_goto (tgt := 15) hx hb dL_drop_9 (by decide) ?_
  refine lv_iconst (v := 0) hx hb dL_drop_15 (by decide) ?_
  cases h
  exact eIz (z := mZ M') hx hb hr hlocks (show MOK E (setZ M' (mZ M')) _ from hM) hS dL_drop_16 (Nat.le_of_ble_eq_true rfl) (Nat.le_of_ble_eq_true rfl)

theorem dd_L_restore : yL_restore.cls ≠ "java/lang/invoke/MethodHandle" ∧ yL_restore.cls ≠ "java/lang/invoke/VarHandle" ∧ (parseMethodDescriptor yL_restore.desc).map (fun d => d.parameters.length) = some 3 := by decide +kernel
abbrev rm_L_restore : Room := ({ frames := 8, cells := 25, slots := 1359, locals := 146 } : Room)
noncomputable def f_L_restore (x : Nat) (a1 : Int32) (out : Nat) (M : Mem) : Option (Int32 × Mem) :=
  bx (cK 5 x M (f_X4_restore x a1 M)) (hnd2 0 2) fun v1 M2 =>
  (sL out 0 v1.toInt64 M2).bind fun M3 =>
  some (0, M3)
set_option maxHeartbeats 4000000 in
set_option maxRecDepth 100000 in
theorem mt_L_restore (l : Launch) (hfl : l.stackTraces = false) (E : KEnv) (x : Nat) (a1 : Int32) (out : Nat) (M M' : Mem) (v : Int32) (h : f_L_restore x a1 out M = some (v, M')) : Met l yL_restore (Cond.codeWith yL_restore cL_restore 4 (some .int) [(0, 9, 12, 19), (0, 9, 15, 13)] :: lw_G) rm_L_restore (cPc E [.ref x, .int a1, .ref out] M) (cQz E (some (.int v)) M') 25 1359 (eA E) := by
  refine Met_ofWH (cc := cL_restore) (maxL := 4) (ret := (some .int)) (hh := [(0, 9, 12, 19), (0, 9, 15, 13)]) (by decide) rfl ?_
  intro p e s m args below meth c s₁ B hml hv
  obtain ⟨rfl, hE, hM⟩ := hv
  have hx := B.exec
  have hb := B.bytes
  have hr := B.returns
  have hts0 := atoms_spec (ws := Cond.codeWith yL_restore cL_restore 4 (some .int) [(0, 9, 12, 19), (0, 9, 15, 13)] :: lw_G) B.pre
  have hts : ∀ w ∈ lw_G, w.before _ s = true := fun w hw => hts0 w (List.mem_cons_of_mem _ hw)
  have htab := vx_table (x := yL_restore) B (hts0 _ List.mem_cons_self)
  have hown : s.vm.findClass RL = some m.cls := findClass_of_methodNamed B.named
  have hlocks := B.notSynchronized
  have hC : CallFix p m c cL_restore 4 s _ lw_G RL := ⟨hx, hb, hml, hown, hts⟩
  have hS : va_S (eA E) s.heap s.heap [] := va_S.rf
  have hl := lv_entry ([.ref x, .int a1, .ref out]) (n := 4) (Nat.le_of_ble_eq_true rfl)
  rw [lg_entry_eq]
  generalize (lg_sl ([.ref x, .int a1, .ref out]) ++ List.replicate (4 - (lg_sl ([.ref x, .int a1, .ref out])).length) Slot.unset).toArray = ls at hl ⊢
  have hl : lv_has ls 4 [(0, .ref x), (1, .int a1), (2, .ref out)] := hl
  unfold f_L_restore at h
  show W p l e rm_L_restore s m _ below meth c s.heap [] 0 0 _ _
  refine lv_aload_n hx hb dL_restore_0 rfl (lv_at hl 2 rfl) ?_
  refine lv_iconst (v := 0) hx hb dL_restore_1 (by decide) ?_
  refine lv_aload_n hx hb dL_restore_2 rfl (lv_at hl 0 rfl) ?_
  refine lv_iload_n hx hb dL_restore_3 rfl (lv_at hl 1 rfl) ?_
  rcases obx h with ⟨v1, M2, h1, h⟩ | ⟨ex, M9, h1, h⟩
  rotate_left
  · obtain ⟨hk1, h1⟩ := ifg h1
    unfold hnd2 at h
    by_cases e1 : ex = 0
    · have h := ifp e1 h
      subst e1
      cases h
      refine kx_hand (hpc := 12) (kx_V (ci := 4) (As := [.int a1]) (rest := [.int 0, .ref out]) hC hE hS hM (mt_X4_restore _ hfl E x a1 _ _ _ h1) (gwV qw_1034 qw_1035 qw_1036 qw_92 qw_1037) ⟨rfl, rfl, (Nat.le_of_ble_eq_true rfl), (Nat.le_of_ble_eq_true rfl)⟩ dd_X4_restore rfl hk1 rfl rfl hl.1 (Nat.le_of_ble_eq_true rfl) dL_restore_4 ⟨(Nat.le_of_ble_eq_true rfl), (Nat.le_of_ble_eq_true rfl)⟩) hS hown [] (⟨0, 9, 12, 19⟩ : ExceptionTableEntry) [(⟨0, 9, 15, 13⟩ : ExceptionTableEntry)] htab (fun z hz => nomatch hz) (by decide) (by decide) (hts _ qw_674) (va_Nw.use rfl (hE.2.2.2.2.2.2.2.1 (exN 0, exN 0) (by decide))) rfl (fun H locs z q9 hM hS => ?_)
      refine lv_astore_n (lv' := [(3, .ref q9), (0, .ref x), (1, .int a1), (2, .ref out)]) hx hb dL_restore_12 rfl hl (by decide) rfl (fun ls hl => ?_)
      refine lv_iconst (v := 1) hx hb dL_restore_13 (by decide) ?_
      exact eIz hx hb hr hlocks hM hS dL_restore_14 (Nat.le_of_ble_eq_true rfl) (Nat.le_of_ble_eq_true rfl)
    · have h := ifn e1 h
      obtain ⟨e2, h⟩ := ifg h
      subst e2
      cases h
      refine kx_hand (hpc := 15) (kx_V (ci := 4) (As := [.int a1]) (rest := [.int 0, .ref out]) hC hE hS hM (mt_X4_restore _ hfl E x a1 _ _ _ h1) (gwV qw_1034 qw_1035 qw_1036 qw_92 qw_1037) ⟨rfl, rfl, (Nat.le_of_ble_eq_true rfl), (Nat.le_of_ble_eq_true rfl)⟩ dd_X4_restore rfl hk1 rfl rfl hl.1 (Nat.le_of_ble_eq_true rfl) dL_restore_4 ⟨(Nat.le_of_ble_eq_true rfl), (Nat.le_of_ble_eq_true rfl)⟩) hS hown [(⟨0, 9, 12, 19⟩ : ExceptionTableEntry)] (⟨0, 9, 15, 13⟩ : ExceptionTableEntry) [] htab (fun z hz => by rw [List.mem_singleton.mp hz]; exact Or.inr ⟨by decide, _, hts _ qw_674, hE.2.2.2.2.2.2.2.2.2.2.2 (exN 2, "java/lang/IndexOutOfBoundsException") (by decide)⟩) (by decide) (by decide) (hts _ qw_595) (va_Nw.use rfl (hE.2.2.2.2.2.2.2.1 (exN 2, exN 2) (by decide))) rfl (fun H locs z q9 hM hS => ?_)
      refine lv_astore_n (lv' := [(3, .ref q9), (0, .ref x), (1, .int a1), (2, .ref out)]) hx hb dL_restore_15 rfl hl (by decide) rfl (fun ls hl => ?_)
      refine lv_iconst (v := 2) hx hb dL_restore_16 (by decide) ?_
      exact eIz hx hb hr hlocks hM hS dL_restore_17 (Nat.le_of_ble_eq_true rfl) (Nat.le_of_ble_eq_true rfl)
  obtain ⟨hk1, h1⟩ := ifg h1
  refine kx_ok1 (kx_V (ci := 4) (As := [.int a1]) (rest := [.int 0, .ref out]) hC hE hS hM (mt_X4_restore _ hfl E x a1 _ _ _ h1) (gwV qw_1034 qw_1035 qw_1036 qw_92 qw_1037) ⟨rfl, rfl, (Nat.le_of_ble_eq_true rfl), (Nat.le_of_ble_eq_true rfl)⟩ dd_X4_restore rfl hk1 rfl rfl hl.1 (Nat.le_of_ble_eq_true rfl) dL_restore_4 ⟨(Nat.le_of_ble_eq_true rfl), (Nat.le_of_ble_eq_true rfl)⟩) hS (fun H locs hM hS => ?_)
  refine lv_i2l (v := v1.toInt64) hx hb dL_restore_7 rfl ?_
  obtain ⟨M3, h1, h⟩ := ob h
  refine r_last hx hb hE hM hS h1 dL_restore_8 (fun H locs hM hS => ?_)
  refine lv_goto (tgt := 18) hx hb dL_restore_9 (by decide) ?_
  refine lv_iconst (v := 0) hx hb dL_restore_18 (by decide) ?_
  cases h
  exact eIz (z := mZ M') hx hb hr hlocks (show MOK E (setZ M' (mZ M')) _ from hM) hS dL_restore_19 (Nat.le_of_ble_eq_true rfl) (Nat.le_of_ble_eq_true rfl)

theorem dd_L_undo : yL_undo.cls ≠ "java/lang/invoke/MethodHandle" ∧ yL_undo.cls ≠ "java/lang/invoke/VarHandle" ∧ (parseMethodDescriptor yL_undo.desc).map (fun d => d.parameters.length) = some 2 := by decide +kernel
abbrev rm_L_undo : Room := ({ frames := 7, cells := 24, slots := 1353, locals := 128 } : Room)
noncomputable def f_L_undo (x : Nat) (out : Nat) (M : Mem) : Option (Int32 × Mem) :=
  bx (cK 5 x M (f_X4_undo x M)) (hnd1 2) fun v1 M2 =>
  (sL out 0 v1.toInt64 M2).bind fun M3 =>
  some (0, M3)
set_option maxHeartbeats 4000000 in
set_option maxRecDepth 100000 in
theorem mt_L_undo (l : Launch) (hfl : l.stackTraces = false) (E : KEnv) (x : Nat) (out : Nat) (M M' : Mem) (v : Int32) (h : f_L_undo x out M = some (v, M')) : Met l yL_undo (Cond.codeWith yL_undo cL_undo 3 (some .int) [(0, 8, 11, 13)] :: lw_G) rm_L_undo (cPc E [.ref x, .ref out] M) (cQz E (some (.int v)) M') 24 1353 (eA E) := by
  refine Met_ofWH (cc := cL_undo) (maxL := 3) (ret := (some .int)) (hh := [(0, 8, 11, 13)]) (by decide) rfl ?_
  intro p e s m args below meth c s₁ B hml hv
  obtain ⟨rfl, hE, hM⟩ := hv
  have hx := B.exec
  have hb := B.bytes
  have hr := B.returns
  have hts0 := atoms_spec (ws := Cond.codeWith yL_undo cL_undo 3 (some .int) [(0, 8, 11, 13)] :: lw_G) B.pre
  have hts : ∀ w ∈ lw_G, w.before _ s = true := fun w hw => hts0 w (List.mem_cons_of_mem _ hw)
  have htab := vx_table (x := yL_undo) B (hts0 _ List.mem_cons_self)
  have hown : s.vm.findClass RL = some m.cls := findClass_of_methodNamed B.named
  have hlocks := B.notSynchronized
  have hC : CallFix p m c cL_undo 3 s _ lw_G RL := ⟨hx, hb, hml, hown, hts⟩
  have hS : va_S (eA E) s.heap s.heap [] := va_S.rf
  have hl := lv_entry ([.ref x, .ref out]) (n := 3) (Nat.le_of_ble_eq_true rfl)
  rw [lg_entry_eq]
  generalize (lg_sl ([.ref x, .ref out]) ++ List.replicate (3 - (lg_sl ([.ref x, .ref out])).length) Slot.unset).toArray = ls at hl ⊢
  have hl : lv_has ls 3 [(0, .ref x), (1, .ref out)] := hl
  unfold f_L_undo at h
  show W p l e rm_L_undo s m _ below meth c s.heap [] 0 0 _ _
  refine lv_aload_n hx hb dL_undo_0 rfl (lv_at hl 1 rfl) ?_
  refine lv_iconst (v := 0) hx hb dL_undo_1 (by decide) ?_
  refine lv_aload_n hx hb dL_undo_2 rfl (lv_at hl 0 rfl) ?_
  rcases obx h with ⟨v1, M2, h1, h⟩ | ⟨ex, M9, h1, h⟩
  rotate_left
  · obtain ⟨hk1, h1⟩ := ifg h1
    unfold hnd1 at h
    obtain ⟨e1, h⟩ := ifg h
    subst e1
    cases h
    refine kx_hand (hpc := 11) (kx_V (ci := 4) (As := []) (rest := [.int 0, .ref out]) hC hE hS hM (mt_X4_undo _ hfl E x _ _ _ h1) (gwV qw_1048 qw_1049 qw_1050 qw_92 qw_1051) ⟨rfl, rfl, (Nat.le_of_ble_eq_true rfl), (Nat.le_of_ble_eq_true rfl)⟩ dd_X4_undo rfl hk1 rfl rfl hl.1 (Nat.le_of_ble_eq_true rfl) dL_undo_3 ⟨(Nat.le_of_ble_eq_true rfl), (Nat.le_of_ble_eq_true rfl)⟩) hS hown [] (⟨0, 8, 11, 13⟩ : ExceptionTableEntry) [] htab (fun z hz => nomatch hz) (by decide) (by decide) (hts _ qw_595) (va_Nw.use rfl (hE.2.2.2.2.2.2.2.1 (exN 2, exN 2) (by decide))) rfl (fun H locs z q9 hM hS => ?_)
    refine lv_astore_n (lv' := [(2, .ref q9), (0, .ref x), (1, .ref out)]) hx hb dL_undo_11 rfl hl (by decide) rfl (fun ls hl => ?_)
    refine lv_iconst (v := 1) hx hb dL_undo_12 (by decide) ?_
    exact eIz hx hb hr hlocks hM hS dL_undo_13 (Nat.le_of_ble_eq_true rfl) (Nat.le_of_ble_eq_true rfl)
  obtain ⟨hk1, h1⟩ := ifg h1
  refine kx_ok1 (kx_V (ci := 4) (As := []) (rest := [.int 0, .ref out]) hC hE hS hM (mt_X4_undo _ hfl E x _ _ _ h1) (gwV qw_1048 qw_1049 qw_1050 qw_92 qw_1051) ⟨rfl, rfl, (Nat.le_of_ble_eq_true rfl), (Nat.le_of_ble_eq_true rfl)⟩ dd_X4_undo rfl hk1 rfl rfl hl.1 (Nat.le_of_ble_eq_true rfl) dL_undo_3 ⟨(Nat.le_of_ble_eq_true rfl), (Nat.le_of_ble_eq_true rfl)⟩) hS (fun H locs hM hS => ?_)
  refine lv_i2l (v := v1.toInt64) hx hb dL_undo_6 rfl ?_
  obtain ⟨M3, h1, h⟩ := ob h
  refine r_last hx hb hE hM hS h1 dL_undo_7 (fun H locs hM hS => ?_)
  refine lv_goto (tgt := 14) hx hb dL_undo_8 (by decide) ?_
  refine lv_iconst (v := 0) hx hb dL_undo_14 (by decide) ?_
  cases h
  exact eIz (z := mZ M') hx hb hr hlocks (show MOK E (setZ M' (mZ M')) _ from hM) hS dL_undo_15 (Nat.le_of_ble_eq_true rfl) (Nat.le_of_ble_eq_true rfl)

theorem dd_L_save : yL_save.cls ≠ "java/lang/invoke/MethodHandle" ∧ yL_save.cls ≠ "java/lang/invoke/VarHandle" ∧ (parseMethodDescriptor yL_save.desc).map (fun d => d.parameters.length) = some 3 := by decide +kernel
abbrev rm_L_save : Room := ({ frames := 8, cells := 25, slots := 1359, locals := 133 } : Room)
noncomputable def f_L_save (x : Nat) (a1 : Int32) (out : Nat) (M : Mem) : Option (Int32 × Mem) :=
  bx (cK 5 x M (f_X4_save x a1 M)) (hnd1 0) fun v1 M2 =>
  (sL out 0 v1.toInt64 M2).bind fun M3 =>
  some (0, M3)
set_option maxHeartbeats 4000000 in
set_option maxRecDepth 100000 in
theorem mt_L_save (l : Launch) (hfl : l.stackTraces = false) (E : KEnv) (x : Nat) (a1 : Int32) (out : Nat) (M M' : Mem) (v : Int32) (h : f_L_save x a1 out M = some (v, M')) : Met l yL_save (Cond.codeWith yL_save cL_save 4 (some .int) [(0, 9, 12, 19)] :: lw_G) rm_L_save (cPc E [.ref x, .int a1, .ref out] M) (cQz E (some (.int v)) M') 25 1359 (eA E) := by
  refine Met_ofWH (cc := cL_save) (maxL := 4) (ret := (some .int)) (hh := [(0, 9, 12, 19)]) (by decide) rfl ?_
  intro p e s m args below meth c s₁ B hml hv
  obtain ⟨rfl, hE, hM⟩ := hv
  have hx := B.exec
  have hb := B.bytes
  have hr := B.returns
  have hts0 := atoms_spec (ws := Cond.codeWith yL_save cL_save 4 (some .int) [(0, 9, 12, 19)] :: lw_G) B.pre
  have hts : ∀ w ∈ lw_G, w.before _ s = true := fun w hw => hts0 w (List.mem_cons_of_mem _ hw)
  have htab := vx_table (x := yL_save) B (hts0 _ List.mem_cons_self)
  have hown : s.vm.findClass RL = some m.cls := findClass_of_methodNamed B.named
  have hlocks := B.notSynchronized
  have hC : CallFix p m c cL_save 4 s _ lw_G RL := ⟨hx, hb, hml, hown, hts⟩
  have hS : va_S (eA E) s.heap s.heap [] := va_S.rf
  have hl := lv_entry ([.ref x, .int a1, .ref out]) (n := 4) (Nat.le_of_ble_eq_true rfl)
  rw [lg_entry_eq]
  generalize (lg_sl ([.ref x, .int a1, .ref out]) ++ List.replicate (4 - (lg_sl ([.ref x, .int a1, .ref out])).length) Slot.unset).toArray = ls at hl ⊢
  have hl : lv_has ls 4 [(0, .ref x), (1, .int a1), (2, .ref out)] := hl
  unfold f_L_save at h
  show W p l e rm_L_save s m _ below meth c s.heap [] 0 0 _ _
  refine lv_aload_n hx hb dL_save_0 rfl (lv_at hl 2 rfl) ?_
  refine lv_iconst (v := 0) hx hb dL_save_1 (by decide) ?_
  refine lv_aload_n hx hb dL_save_2 rfl (lv_at hl 0 rfl) ?_
  refine lv_iload_n hx hb dL_save_3 rfl (lv_at hl 1 rfl) ?_
  rcases obx h with ⟨v1, M2, h1, h⟩ | ⟨ex, M9, h1, h⟩
  rotate_left
  · obtain ⟨hk1, h1⟩ := ifg h1
    unfold hnd1 at h
    obtain ⟨e1, h⟩ := ifg h
    subst e1
    cases h
    refine kx_hand (hpc := 12) (kx_V (ci := 4) (As := [.int a1]) (rest := [.int 0, .ref out]) hC hE hS hM (mt_X4_save _ hfl E x a1 _ _ _ h1) (gwV qw_1060 qw_1061 qw_1062 qw_92 qw_1063) ⟨rfl, rfl, (Nat.le_of_ble_eq_true rfl), (Nat.le_of_ble_eq_true rfl)⟩ dd_X4_save rfl hk1 rfl rfl hl.1 (Nat.le_of_ble_eq_true rfl) dL_save_4 ⟨(Nat.le_of_ble_eq_true rfl), (Nat.le_of_ble_eq_true rfl)⟩) hS hown [] (⟨0, 9, 12, 19⟩ : ExceptionTableEntry) [] htab (fun z hz => nomatch hz) (by decide) (by decide) (hts _ qw_674) (va_Nw.use rfl (hE.2.2.2.2.2.2.2.1 (exN 0, exN 0) (by decide))) rfl (fun H locs z q9 hM hS => ?_)
    refine lv_astore_n (lv' := [(3, .ref q9), (0, .ref x), (1, .int a1), (2, .ref out)]) hx hb dL_save_12 rfl hl (by decide) rfl (fun ls hl => ?_)
    refine lv_iconst (v := 1) hx hb dL_save_13 (by decide) ?_
    exact eIz hx hb hr hlocks hM hS dL_save_14 (Nat.le_of_ble_eq_true rfl) (Nat.le_of_ble_eq_true rfl)
  obtain ⟨hk1, h1⟩ := ifg h1
  refine kx_ok1 (kx_V (ci := 4) (As := [.int a1]) (rest := [.int 0, .ref out]) hC hE hS hM (mt_X4_save _ hfl E x a1 _ _ _ h1) (gwV qw_1060 qw_1061 qw_1062 qw_92 qw_1063) ⟨rfl, rfl, (Nat.le_of_ble_eq_true rfl), (Nat.le_of_ble_eq_true rfl)⟩ dd_X4_save rfl hk1 rfl rfl hl.1 (Nat.le_of_ble_eq_true rfl) dL_save_4 ⟨(Nat.le_of_ble_eq_true rfl), (Nat.le_of_ble_eq_true rfl)⟩) hS (fun H locs hM hS => ?_)
  refine lv_i2l (v := v1.toInt64) hx hb dL_save_7 rfl ?_
  obtain ⟨M3, h1, h⟩ := ob h
  refine r_last hx hb hE hM hS h1 dL_save_8 (fun H locs hM hS => ?_)
  refine lv_goto (tgt := 15) hx hb dL_save_9 (by decide) ?_
  refine lv_iconst (v := 0) hx hb dL_save_15 (by decide) ?_
  cases h
  exact eIz (z := mZ M') hx hb hr hlocks (show MOK E (setZ M' (mZ M')) _ from hM) hS dL_save_16 (Nat.le_of_ble_eq_true rfl) (Nat.le_of_ble_eq_true rfl)

theorem dd_L_writeTags : yL_writeTags.cls ≠ "java/lang/invoke/MethodHandle" ∧ yL_writeTags.cls ≠ "java/lang/invoke/VarHandle" ∧ (parseMethodDescriptor yL_writeTags.desc).map (fun d => d.parameters.length) = some 3 := by decide +kernel
abbrev rm_L_writeTags : Room := ({ frames := 9, cells := 1, slots := 6, locals := 156 } : Room)
noncomputable def f_L_writeTags (x : Nat) (a1 : Int32) (out : Nat) (M : Mem) : Option (Int32 × Mem) :=
  bx (cK 5 x M (f_X4_writeTags x a1 M)) (hnd1 0) fun v1 M2 =>
  (sL out 0 v1.toInt64 M2).bind fun M3 =>
  some (0, M3)
set_option maxHeartbeats 4000000 in
set_option maxRecDepth 100000 in
theorem mt_L_writeTags (l : Launch) (hfl : l.stackTraces = false) (E : KEnv) (x : Nat) (a1 : Int32) (out : Nat) (M M' : Mem) (v : Int32) (h : f_L_writeTags x a1 out M = some (v, M')) : Met l yL_writeTags (Cond.codeWith yL_writeTags cL_writeTags 4 (some .int) [(0, 9, 12, 19)] :: lw_G) rm_L_writeTags (cPc E [.ref x, .int a1, .ref out] M) (cQz E (some (.int v)) M') 1 6 (eA E) := by
  refine Met_ofWH (cc := cL_writeTags) (maxL := 4) (ret := (some .int)) (hh := [(0, 9, 12, 19)]) (by decide) rfl ?_
  intro p e s m args below meth c s₁ B hml hv
  obtain ⟨rfl, hE, hM⟩ := hv
  have hx := B.exec
  have hb := B.bytes
  have hr := B.returns
  have hts0 := atoms_spec (ws := Cond.codeWith yL_writeTags cL_writeTags 4 (some .int) [(0, 9, 12, 19)] :: lw_G) B.pre
  have hts : ∀ w ∈ lw_G, w.before _ s = true := fun w hw => hts0 w (List.mem_cons_of_mem _ hw)
  have htab := vx_table (x := yL_writeTags) B (hts0 _ List.mem_cons_self)
  have hown : s.vm.findClass RL = some m.cls := findClass_of_methodNamed B.named
  have hlocks := B.notSynchronized
  have hC : CallFix p m c cL_writeTags 4 s _ lw_G RL := ⟨hx, hb, hml, hown, hts⟩
  have hS : va_S (eA E) s.heap s.heap [] := va_S.rf
  have hl := lv_entry ([.ref x, .int a1, .ref out]) (n := 4) (Nat.le_of_ble_eq_true rfl)
  rw [lg_entry_eq]
  generalize (lg_sl ([.ref x, .int a1, .ref out]) ++ List.replicate (4 - (lg_sl ([.ref x, .int a1, .ref out])).length) Slot.unset).toArray = ls at hl ⊢
  have hl : lv_has ls 4 [(0, .ref x), (1, .int a1), (2, .ref out)] := hl
  unfold f_L_writeTags at h
  show W p l e rm_L_writeTags s m _ below meth c s.heap [] 0 0 _ _
  refine lv_aload_n hx hb dL_writeTags_0 rfl (lv_at hl 2 rfl) ?_
  refine lv_iconst (v := 0) hx hb dL_writeTags_1 (by decide) ?_
  refine lv_aload_n hx hb dL_writeTags_2 rfl (lv_at hl 0 rfl) ?_
  refine lv_iload_n hx hb dL_writeTags_3 rfl (lv_at hl 1 rfl) ?_
  rcases obx h with ⟨v1, M2, h1, h⟩ | ⟨ex, M9, h1, h⟩
  rotate_left
  · obtain ⟨hk1, h1⟩ := ifg h1
    unfold hnd1 at h
    obtain ⟨e1, h⟩ := ifg h
    subst e1
    cases h
    refine kx_hand (hpc := 12) (kx_V (ci := 4) (As := [.int a1]) (rest := [.int 0, .ref out]) hC hE hS hM (mt_X4_writeTags _ hfl E x a1 _ _ _ h1) (gwV qw_1067 qw_1068 qw_1069 qw_92 qw_1070) ⟨rfl, rfl, (Nat.le_of_ble_eq_true rfl), (Nat.le_of_ble_eq_true rfl)⟩ dd_X4_writeTags rfl hk1 rfl rfl hl.1 (Nat.le_of_ble_eq_true rfl) dL_writeTags_4 ⟨(Nat.le_of_ble_eq_true rfl), (Nat.le_of_ble_eq_true rfl)⟩) hS hown [] (⟨0, 9, 12, 19⟩ : ExceptionTableEntry) [] htab (fun z hz => nomatch hz) (by decide) (by decide) (hts _ qw_674) (va_Nw.use rfl (hE.2.2.2.2.2.2.2.1 (exN 0, exN 0) (by decide))) rfl (fun H locs z q9 hM hS => ?_)
    refine lv_astore_n (lv' := [(3, .ref q9), (0, .ref x), (1, .int a1), (2, .ref out)]) hx hb dL_writeTags_12 rfl hl (by decide) rfl (fun ls hl => ?_)
    refine lv_iconst (v := 1) hx hb dL_writeTags_13 (by decide) ?_
    exact eIz hx hb hr hlocks hM hS dL_writeTags_14 (Nat.le_of_ble_eq_true rfl) (Nat.le_of_ble_eq_true rfl)
  obtain ⟨hk1, h1⟩ := ifg h1
  refine kx_ok1 (kx_V (ci := 4) (As := [.int a1]) (rest := [.int 0, .ref out]) hC hE hS hM (mt_X4_writeTags _ hfl E x a1 _ _ _ h1) (gwV qw_1067 qw_1068 qw_1069 qw_92 qw_1070) ⟨rfl, rfl, (Nat.le_of_ble_eq_true rfl), (Nat.le_of_ble_eq_true rfl)⟩ dd_X4_writeTags rfl hk1 rfl rfl hl.1 (Nat.le_of_ble_eq_true rfl) dL_writeTags_4 ⟨(Nat.le_of_ble_eq_true rfl), (Nat.le_of_ble_eq_true rfl)⟩) hS (fun H locs hM hS => ?_)
  refine lv_i2l (v := v1.toInt64) hx hb dL_writeTags_7 rfl ?_
  obtain ⟨M3, h1, h⟩ := ob h
  refine r_last hx hb hE hM hS h1 dL_writeTags_8 (fun H locs hM hS => ?_)
  refine lv_goto (tgt := 15) hx hb dL_writeTags_9 (by decide) ?_
  refine lv_iconst (v := 0) hx hb dL_writeTags_15 (by decide) ?_
  cases h
  exact eIz (z := mZ M') hx hb hr hlocks (show MOK E (setZ M' (mZ M')) _ from hM) hS dL_writeTags_16 (Nat.le_of_ble_eq_true rfl) (Nat.le_of_ble_eq_true rfl)

theorem dd_L_writeRegister : yL_writeRegister.cls ≠ "java/lang/invoke/MethodHandle" ∧ yL_writeRegister.cls ≠ "java/lang/invoke/VarHandle" ∧ (parseMethodDescriptor yL_writeRegister.desc).map (fun d => d.parameters.length) = some 4 := by decide +kernel
abbrev rm_L_writeRegister : Room := ({ frames := 9, cells := 2, slots := 12, locals := 157 } : Room)
noncomputable def f_L_writeRegister (x : Nat) (a1 : Int32) (a2 : Int32) (out : Nat) (M : Mem) : Option (Int32 × Mem) :=
  bx (cK 5 x M (f_X4_writeRegister x a1 a2 M)) (hnd1 0) fun v1 M2 =>
  (sL out 0 v1.toInt64 M2).bind fun M3 =>
  some (0, M3)
set_option maxHeartbeats 4000000 in
set_option maxRecDepth 100000 in
theorem mt_L_writeRegister (l : Launch) (hfl : l.stackTraces = false) (E : KEnv) (x : Nat) (a1 : Int32) (a2 : Int32) (out : Nat) (M M' : Mem) (v : Int32) (h : f_L_writeRegister x a1 a2 out M = some (v, M')) : Met l yL_writeRegister (Cond.codeWith yL_writeRegister cL_writeRegister 5 (some .int) [(0, 10, 13, 19)] :: lw_G) rm_L_writeRegister (cPc E [.ref x, .int a1, .int a2, .ref out] M) (cQz E (some (.int v)) M') 2 12 (eA E) := by
  refine Met_ofWH (cc := cL_writeRegister) (maxL := 5) (ret := (some .int)) (hh := [(0, 10, 13, 19)]) (by decide) rfl ?_
  intro p e s m args below meth c s₁ B hml hv
  obtain ⟨rfl, hE, hM⟩ := hv
  have hx := B.exec
  have hb := B.bytes
  have hr := B.returns
  have hts0 := atoms_spec (ws := Cond.codeWith yL_writeRegister cL_writeRegister 5 (some .int) [(0, 10, 13, 19)] :: lw_G) B.pre
  have hts : ∀ w ∈ lw_G, w.before _ s = true := fun w hw => hts0 w (List.mem_cons_of_mem _ hw)
  have htab := vx_table (x := yL_writeRegister) B (hts0 _ List.mem_cons_self)
  have hown : s.vm.findClass RL = some m.cls := findClass_of_methodNamed B.named
  have hlocks := B.notSynchronized
  have hC : CallFix p m c cL_writeRegister 5 s _ lw_G RL := ⟨hx, hb, hml, hown, hts⟩
  have hS : va_S (eA E) s.heap s.heap [] := va_S.rf
  have hl := lv_entry ([.ref x, .int a1, .int a2, .ref out]) (n := 5) (Nat.le_of_ble_eq_true rfl)
  rw [lg_entry_eq]
  generalize (lg_sl ([.ref x, .int a1, .int a2, .ref out]) ++ List.replicate (5 - (lg_sl ([.ref x, .int a1, .int a2, .ref out])).length) Slot.unset).toArray = ls at hl ⊢
  have hl : lv_has ls 5 [(0, .ref x), (1, .int a1), (2, .int a2), (3, .ref out)] := hl
  unfold f_L_writeRegister at h
  show W p l e rm_L_writeRegister s m _ below meth c s.heap [] 0 0 _ _
  refine lv_aload_n hx hb dL_writeRegister_0 rfl (lv_at hl 3 rfl) ?_
  refine lv_iconst (v := 0) hx hb dL_writeRegister_1 (by decide) ?_
  refine lv_aload_n hx hb dL_writeRegister_2 rfl (lv_at hl 0 rfl) ?_
  refine lv_iload_n hx hb dL_writeRegister_3 rfl (lv_at hl 1 rfl) ?_
  refine lv_iload_n hx hb dL_writeRegister_4 rfl (lv_at hl 2 rfl) ?_
  rcases obx h with ⟨v1, M2, h1, h⟩ | ⟨ex, M9, h1, h⟩
  rotate_left
  · obtain ⟨hk1, h1⟩ := ifg h1
    unfold hnd1 at h
    obtain ⟨e1, h⟩ := ifg h
    subst e1
    cases h
    refine kx_hand (hpc := 13) (kx_V (ci := 4) (As := [.int a1, .int a2]) (rest := [.int 0, .ref out]) hC hE hS hM (mt_X4_writeRegister _ hfl E x a1 a2 _ _ _ h1) (gwV qw_1078 qw_1079 qw_1080 qw_92 qw_1081) ⟨rfl, rfl, (Nat.le_of_ble_eq_true rfl), (Nat.le_of_ble_eq_true rfl)⟩ dd_X4_writeRegister rfl hk1 rfl rfl hl.1 (Nat.le_of_ble_eq_true rfl) dL_writeRegister_5 ⟨(Nat.le_of_ble_eq_true rfl), (Nat.le_of_ble_eq_true rfl)⟩) hS hown [] (⟨0, 10, 13, 19⟩ : ExceptionTableEntry) [] htab (fun z hz => nomatch hz) (by decide) (by decide) (hts _ qw_674) (va_Nw.use rfl (hE.2.2.2.2.2.2.2.1 (exN 0, exN 0) (by decide))) rfl (fun H locs z q9 hM hS => ?_)
    refine lv_astore (lv' := [(4, .ref q9), (0, .ref x), (1, .int a1), (2, .int a2), (3, .ref out)]) hx hb dL_writeRegister_13 hl (by decide) rfl (fun ls hl => ?_)
    refine lv_iconst (v := 1) hx hb dL_writeRegister_15 (by decide) ?_
    exact eIz hx hb hr hlocks hM hS dL_writeRegister_16 (Nat.le_of_ble_eq_true rfl) (Nat.le_of_ble_eq_true rfl)
  obtain ⟨hk1, h1⟩ := ifg h1
  refine kx_ok1 (kx_V (ci := 4) (As := [.int a1, .int a2]) (rest := [.int 0, .ref out]) hC hE hS hM (mt_X4_writeRegister _ hfl E x a1 a2 _ _ _ h1) (gwV qw_1078 qw_1079 qw_1080 qw_92 qw_1081) ⟨rfl, rfl, (Nat.le_of_ble_eq_true rfl), (Nat.le_of_ble_eq_true rfl)⟩ dd_X4_writeRegister rfl hk1 rfl rfl hl.1 (Nat.le_of_ble_eq_true rfl) dL_writeRegister_5 ⟨(Nat.le_of_ble_eq_true rfl), (Nat.le_of_ble_eq_true rfl)⟩) hS (fun H locs hM hS => ?_)
  refine lv_i2l (v := v1.toInt64) hx hb dL_writeRegister_8 rfl ?_
  obtain ⟨M3, h1, h⟩ := ob h
  refine r_last hx hb hE hM hS h1 dL_writeRegister_9 (fun H locs hM hS => ?_)
  refine lv_goto (tgt := 17) hx hb dL_writeRegister_10 (by decide) ?_
  refine lv_iconst (v := 0) hx hb dL_writeRegister_17 (by decide) ?_
  cases h
  exact eIz (z := mZ M') hx hb hr hlocks (show MOK E (setZ M' (mZ M')) _ from hM) hS dL_writeRegister_18 (Nat.le_of_ble_eq_true rfl) (Nat.le_of_ble_eq_true rfl)

theorem dd_L_outputByte : yL_outputByte.cls ≠ "java/lang/invoke/MethodHandle" ∧ yL_outputByte.cls ≠ "java/lang/invoke/VarHandle" ∧ (parseMethodDescriptor yL_outputByte.desc).map (fun d => d.parameters.length) = some 3 := by decide +kernel
abbrev rm_L_outputByte : Room := ({ frames := 7, cells := 1, slots := 6, locals := 111 } : Room)
noncomputable def f_L_outputByte (x : Nat) (a1 : Int32) (out : Nat) (M : Mem) : Option (Int32 × Mem) :=
  bx (cK 5 x M (f_X4_outputByte x a1 M)) (hnd1 0) fun v1 M2 =>
  (sL out 0 v1.toInt64 M2).bind fun M3 =>
  some (0, M3)
set_option maxHeartbeats 4000000 in
set_option maxRecDepth 100000 in
theorem mt_L_outputByte (l : Launch) (hfl : l.stackTraces = false) (E : KEnv) (x : Nat) (a1 : Int32) (out : Nat) (M M' : Mem) (v : Int32) (h : f_L_outputByte x a1 out M = some (v, M')) : Met l yL_outputByte (Cond.codeWith yL_outputByte cL_outputByte 4 (some .int) [(0, 9, 12, 19)] :: lw_G) rm_L_outputByte (cPc E [.ref x, .int a1, .ref out] M) (cQz E (some (.int v)) M') 1 6 (eA E) := by
  refine Met_ofWH (cc := cL_outputByte) (maxL := 4) (ret := (some .int)) (hh := [(0, 9, 12, 19)]) (by decide) rfl ?_
  intro p e s m args below meth c s₁ B hml hv
  obtain ⟨rfl, hE, hM⟩ := hv
  have hx := B.exec
  have hb := B.bytes
  have hr := B.returns
  have hts0 := atoms_spec (ws := Cond.codeWith yL_outputByte cL_outputByte 4 (some .int) [(0, 9, 12, 19)] :: lw_G) B.pre
  have hts : ∀ w ∈ lw_G, w.before _ s = true := fun w hw => hts0 w (List.mem_cons_of_mem _ hw)
  have htab := vx_table (x := yL_outputByte) B (hts0 _ List.mem_cons_self)
  have hown : s.vm.findClass RL = some m.cls := findClass_of_methodNamed B.named
  have hlocks := B.notSynchronized
  have hC : CallFix p m c cL_outputByte 4 s _ lw_G RL := ⟨hx, hb, hml, hown, hts⟩
  have hS : va_S (eA E) s.heap s.heap [] := va_S.rf
  have hl := lv_entry ([.ref x, .int a1, .ref out]) (n := 4) (Nat.le_of_ble_eq_true rfl)
  rw [lg_entry_eq]
  generalize (lg_sl ([.ref x, .int a1, .ref out]) ++ List.replicate (4 - (lg_sl ([.ref x, .int a1, .ref out])).length) Slot.unset).toArray = ls at hl ⊢
  have hl : lv_has ls 4 [(0, .ref x), (1, .int a1), (2, .ref out)] := hl
  unfold f_L_outputByte at h
  show W p l e rm_L_outputByte s m _ below meth c s.heap [] 0 0 _ _
  refine lv_aload_n hx hb dL_outputByte_0 rfl (lv_at hl 2 rfl) ?_
  refine lv_iconst (v := 0) hx hb dL_outputByte_1 (by decide) ?_
  refine lv_aload_n hx hb dL_outputByte_2 rfl (lv_at hl 0 rfl) ?_
  refine lv_iload_n hx hb dL_outputByte_3 rfl (lv_at hl 1 rfl) ?_
  rcases obx h with ⟨v1, M2, h1, h⟩ | ⟨ex, M9, h1, h⟩
  rotate_left
  · obtain ⟨hk1, h1⟩ := ifg h1
    unfold hnd1 at h
    obtain ⟨e1, h⟩ := ifg h
    subst e1
    cases h
    refine kx_hand (hpc := 12) (kx_V (ci := 4) (As := [.int a1]) (rest := [.int 0, .ref out]) hC hE hS hM (mt_X4_outputByte _ hfl E x a1 _ _ _ h1) (gwV qw_1089 qw_1090 qw_1091 qw_92 qw_1092) ⟨rfl, rfl, (Nat.le_of_ble_eq_true rfl), (Nat.le_of_ble_eq_true rfl)⟩ dd_X4_outputByte rfl hk1 rfl rfl hl.1 (Nat.le_of_ble_eq_true rfl) dL_outputByte_4 ⟨(Nat.le_of_ble_eq_true rfl), (Nat.le_of_ble_eq_true rfl)⟩) hS hown [] (⟨0, 9, 12, 19⟩ : ExceptionTableEntry) [] htab (fun z hz => nomatch hz) (by decide) (by decide) (hts _ qw_674) (va_Nw.use rfl (hE.2.2.2.2.2.2.2.1 (exN 0, exN 0) (by decide))) rfl (fun H locs z q9 hM hS => ?_)
    refine lv_astore_n (lv' := [(3, .ref q9), (0, .ref x), (1, .int a1), (2, .ref out)]) hx hb dL_outputByte_12 rfl hl (by decide) rfl (fun ls hl => ?_)
    refine lv_iconst (v := 1) hx hb dL_outputByte_13 (by decide) ?_
    exact eIz hx hb hr hlocks hM hS dL_outputByte_14 (Nat.le_of_ble_eq_true rfl) (Nat.le_of_ble_eq_true rfl)
  obtain ⟨hk1, h1⟩ := ifg h1
  refine kx_ok1 (kx_V (ci := 4) (As := [.int a1]) (rest := [.int 0, .ref out]) hC hE hS hM (mt_X4_outputByte _ hfl E x a1 _ _ _ h1) (gwV qw_1089 qw_1090 qw_1091 qw_92 qw_1092) ⟨rfl, rfl, (Nat.le_of_ble_eq_true rfl), (Nat.le_of_ble_eq_true rfl)⟩ dd_X4_outputByte rfl hk1 rfl rfl hl.1 (Nat.le_of_ble_eq_true rfl) dL_outputByte_4 ⟨(Nat.le_of_ble_eq_true rfl), (Nat.le_of_ble_eq_true rfl)⟩) hS (fun H locs hM hS => ?_)
  refine lv_i2l (v := v1.toInt64) hx hb dL_outputByte_7 rfl ?_
  obtain ⟨M3, h1, h⟩ := ob h
  refine r_last hx hb hE hM hS h1 dL_outputByte_8 (fun H locs hM hS => ?_)
  refine lv_goto (tgt := 15) hx hb dL_outputByte_9 (by decide) ?_
  refine lv_iconst (v := 0) hx hb dL_outputByte_15 (by decide) ?_
  cases h
  exact eIz (z := mZ M') hx hb hr hlocks (show MOK E (setZ M' (mZ M')) _ from hM) hS dL_outputByte_16 (Nat.le_of_ble_eq_true rfl) (Nat.le_of_ble_eq_true rfl)
