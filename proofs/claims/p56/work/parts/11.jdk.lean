/-! THE JDK'S OWN METHODS that the class calls on its text constants: String.length, charAt, toCharArray -/
def jLen (i : Nat) : Option Int32 := if i < 18 then some (nI (sLEN.getD i 0)) else none
def jByt (i k : Nat) : Int32 := (sBYT.getD i []).getD k 0
def jChr (i : Nat) (k : Int32) : Option Int32 := if i < 18 ∧ ¬ (k < 0 ∨ sLEN.getD i 0 ≤ k.toNatClampNeg) then some (jByt i k.toNatClampNeg) else none
/-- the letters of the text 0 in a new row of chars -/
def jTcM (M : Mem) : Mem := (va_up (mK M) (mZ M) 8, va_up (mN M) (mZ M) 129, mI M, mR M, va_up (mA M) (mZ M) (fun k => if k < 129 then jByt 0 k else 0), va_up (mB M) (mZ M) (fun _ => none), va_up (mL M) (mZ M) (fun _ => 0), mZ M + 1)
def jTca (i : Nat) (M : Mem) : Option (Nat × Mem) := if i = 0 then some (mZ M, jTcM M) else none
theorem j_all : ∀ i, i < 18 → sLEN.getD i 0 < 1000 ∧ ∀ k, k < sLEN.getD i 0 → (jByt i k &&& 255).toUInt32 % 65536 = (jByt i k).toUInt32 ∧ narrow .char (.int (jByt i k)) = .int (jByt i k) ∧ vp_nar .char (jByt i k) = jByt i k := by decide +kernel
theorem j_len0 : sLEN.getD 0 0 = 129 := by decide +kernel
section JR
variable {p : Program} {l : Launch} {e : Env} {R : Room} {s : State} {m : MethodId} {args : Array Value} {below : List Frame} {meth : Method} {c : Code} {H : Heap} {locs : List Loc} {cells slots : Nat} {Q : State → Prop}
variable {cc : ByteArray} {pc : Nat} {ls : Array Slot} {rest : List Value} {E : KEnv} {M M' : Mem} {own C : String} {nL : Nat}
variable {y : MethodName} {bytes : ByteArray} {maxL mc ms n index : Nat} {ret : Option FieldType} {rm : Room} {b : Nat} {As st0 : List Value} {v : Option Value} {x : Value}
/-- a call on a text constant -/
theorem kJ {i : Nat} (hC : CallFix p m c cc nL s args lw_G own) (hE : EnvOK E s) (hS : va_S (eA E) s.heap H locs) (hM : MOK E M H) (hi : i < 18)
    (hMet : Met l y (Cond.code y bytes maxL ret :: lw_G) rm (cPc E (.ref (eS E i) :: As) M) (cQ E (some x) M') mc ms (eA E))
    (hw : GoodIn lw_G (wsV own index RJ0 y (Cond.code y bytes maxL ret :: lw_G))) (hr : rm.cells = mc ∧ rm.slots = ms ∧ rm.frames + 1 ≤ R.frames ∧ 8 + (maxL + 11) + rm.locals ≤ R.locals)
    (hd : y.cls = RJ0 ∧ y.cls ≠ "java/lang/invoke/MethodHandle" ∧ y.cls ≠ "java/lang/invoke/VarHandle" ∧ (parseMethodDescriptor y.desc).map (fun d => d.parameters.length) = some n) (hn : As.length = n)
    (hst : st0 = As.reverse ++ .ref (eS E i) :: rest) (hsz : ls.size = nL) (h8 : (rest.map fun v => v.category).sum ≤ 8) (hdg : decode cc pc = .ok (.invokevirtual index, 3)) (hcs : cells + mc ≤ R.cells ∧ slots + ms ≤ R.slots)
    (kk : ∀ (H1 : Heap) (locs1 : List Loc), MOK E M' H1 → va_S (eA E) s.heap H1 locs1 → W p l e R s m args below meth c H1 locs1 (cells + mc) (slots + ms) Q (F0 m (pc + 3) ls (x :: rest))) : W p l e R s m args below meth c H locs cells slots Q (F0 m pc ls st0) :=
  kk_run (va_runV (As := As) (rest := rest) hC hMet (cwV n hC.2.2.2.2 hw rfl hr.1 hr.2.1 hd ⟨hr.2.2.1, hr.2.2.2⟩) ⟨cPc.blind, jSt.recv hE.2.1 hi hS, cPc.pre hE hS hM⟩ rfl hn hsz hst (lv_room h8) hdg hcs) hS kk
theorem eB0 (hx : p.tables.exec = Jvm.exec) (hb : c.code = cc) (hr : meth.sig.returnType = some .byte) (hlocks : meth.locks = false) (hM : MOK E M H) (hS : va_S (eA E) s.heap H locs) (hdg : decode cc pc = .ok (.ireturn, 1)) (h1 : cells ≤ mc) (h2 : slots ≤ ms) :
    W p l e R s m args below meth c H locs cells slots (MQ below (cQ E (some (.int 0)) M) args s mc ms (eA E)) (F0 m pc ls [.int 0]) :=
  W.widen h1 h2 (W.zret hx hb hr rfl (fun t ht hW => ⟨rfl, by rw [ht]; exact hM, hS.F ht⟩) hS.2.2 hdg hlocks)
theorem eCh {z : Int32} (hx : p.tables.exec = Jvm.exec) (hb : c.code = cc) (hr : meth.sig.returnType = some .char) (hlocks : meth.locks = false) (hM : MOK E M H) (hS : va_S (eA E) s.heap H locs) (hdg : decode cc pc = .ok (.ireturn, 1)) (h1 : cells ≤ mc) (h2 : slots ≤ ms) (hn : narrow .char (.int z) = .int z) :
    W p l e R s m args below meth c H locs cells slots (MQ below (cQ E (some (.int z)) M) args s mc ms (eA E)) (F0 m pc ls [.int z]) :=
  W.widen h1 h2 (W.zret hx hb hr hn (fun t ht hW => ⟨rfl, by rw [ht]; exact hM, hS.F ht⟩) hS.2.2 hdg hlocks)
end JR

theorem dd_J0_coder_7d493 : yJ0_coder_7d493.cls = RJ0 ∧ yJ0_coder_7d493.cls ≠ "java/lang/invoke/MethodHandle" ∧ yJ0_coder_7d493.cls ≠ "java/lang/invoke/VarHandle" ∧ (parseMethodDescriptor yJ0_coder_7d493.desc).map (fun d => d.parameters.length) = some 0 := by decide +kernel
theorem dd_J0_isLatin1_aae02 : yJ0_isLatin1_aae02.cls = RJ0 ∧ yJ0_isLatin1_aae02.cls ≠ "java/lang/invoke/MethodHandle" ∧ yJ0_isLatin1_aae02.cls ≠ "java/lang/invoke/VarHandle" ∧ (parseMethodDescriptor yJ0_isLatin1_aae02.desc).map (fun d => d.parameters.length) = some 0 := by decide +kernel
theorem dd_J0_length_8abf5 : yJ0_length_8abf5.cls = RJ0 ∧ yJ0_length_8abf5.cls ≠ "java/lang/invoke/MethodHandle" ∧ yJ0_length_8abf5.cls ≠ "java/lang/invoke/VarHandle" ∧ (parseMethodDescriptor yJ0_length_8abf5.desc).map (fun d => d.parameters.length) = some 0 := by decide +kernel
theorem dd_J0_charAt_5068e : yJ0_charAt_5068e.cls = RJ0 ∧ yJ0_charAt_5068e.cls ≠ "java/lang/invoke/MethodHandle" ∧ yJ0_charAt_5068e.cls ≠ "java/lang/invoke/VarHandle" ∧ (parseMethodDescriptor yJ0_charAt_5068e.desc).map (fun d => d.parameters.length) = some 1 := by decide +kernel
theorem dd_J0_toCharArray_70df3 : yJ0_toCharArray_70df3.cls = RJ0 ∧ yJ0_toCharArray_70df3.cls ≠ "java/lang/invoke/MethodHandle" ∧ yJ0_toCharArray_70df3.cls ≠ "java/lang/invoke/VarHandle" ∧ (parseMethodDescriptor yJ0_toCharArray_70df3.desc).map (fun d => d.parameters.length) = some 0 := by decide +kernel
theorem dd_J0_checkIndex_df160 : yJ0_checkIndex_df160.cls ≠ "java/lang/invoke/MethodHandle" ∧ yJ0_checkIndex_df160.cls ≠ "java/lang/invoke/VarHandle" ∧ (parseMethodDescriptor yJ0_checkIndex_df160.desc).map (fun d => d.parameters.length) = some 2 := by decide +kernel
theorem dd_J3_checkIndex_8e157 : yJ3_checkIndex_8e157.cls ≠ "java/lang/invoke/MethodHandle" ∧ yJ3_checkIndex_8e157.cls ≠ "java/lang/invoke/VarHandle" ∧ (parseMethodDescriptor yJ3_checkIndex_8e157.desc).map (fun d => d.parameters.length) = some 3 := by decide +kernel
theorem dd_J1_charAt_3b067 : yJ1_charAt_3b067.cls ≠ "java/lang/invoke/MethodHandle" ∧ yJ1_charAt_3b067.cls ≠ "java/lang/invoke/VarHandle" ∧ (parseMethodDescriptor yJ1_charAt_3b067.desc).map (fun d => d.parameters.length) = some 2 := by decide +kernel
theorem dd_J1_toChars_9d188 : yJ1_toChars_9d188.cls ≠ "java/lang/invoke/MethodHandle" ∧ yJ1_toChars_9d188.cls ≠ "java/lang/invoke/VarHandle" ∧ (parseMethodDescriptor yJ1_toChars_9d188.desc).map (fun d => d.parameters.length) = some 1 := by decide +kernel
theorem dd_J1_inflate_03870 : yJ1_inflate_03870.cls ≠ "java/lang/invoke/MethodHandle" ∧ yJ1_inflate_03870.cls ≠ "java/lang/invoke/VarHandle" ∧ (parseMethodDescriptor yJ1_inflate_03870.desc).map (fun d => d.parameters.length) = some 5 := by decide +kernel
abbrev rm_J0_coder : Room := ({ frames := 0, cells := 0, slots := 0, locals := 20 } : Room)
set_option maxHeartbeats 4000000 in
set_option maxRecDepth 100000 in
theorem mt_J0_coder (l : Launch) (E : KEnv) (i : Nat) (M : Mem) (hi : i < 18) : Met l yJ0_coder_7d493 (Cond.code yJ0_coder_7d493 cJ0_coder_7d493 1 (some .byte) :: lw_G) rm_J0_coder (cPc E [.ref (eS E i)] M) (cQ E (some (.int 0)) M) 0 0 (eA E) := by
  refine Met.ofW (cc := cJ0_coder_7d493) (maxL := 1) (ret := (some .byte)) (by decide) rfl ?_
  intro p e s m args below meth c s₁ B hml hv
  obtain ⟨rfl, hE, hM⟩ := hv
  have hx := B.exec
  have hb := B.bytes
  have hr := B.returns
  have hts0 := atoms_spec (ws := Cond.code yJ0_coder_7d493 cJ0_coder_7d493 1 (some .byte) :: lw_G) B.pre
  have hts : ∀ w ∈ lw_G, w.before _ s = true := fun w hw => hts0 w (List.mem_cons_of_mem _ hw)
  have hown : s.vm.findClass RJ0 = some m.cls := findClass_of_methodNamed B.named
  have hlocks := B.notSynchronized
  have hC : CallFix p m c cJ0_coder_7d493 1 s _ lw_G RJ0 := ⟨hx, hb, hml, hown, hts⟩
  have hS : va_S (eA E) s.heap s.heap [] := va_S.rf
  have hl := lv_entry ([.ref (eS E i)]) (n := 1) (Nat.le_of_ble_eq_true rfl)
  rw [lg_entry_eq]
  generalize (lg_sl ([.ref (eS E i)]) ++ List.replicate (1 - (lg_sl ([.ref (eS E i)])).length) Slot.unset).toArray = ls at hl ⊢
  have hl : lv_has ls 1 [(0, .ref (eS E i))] := hl
  show W p l e rm_J0_coder s m _ below meth c s.heap [] 0 0 _ _
  refine va_gets hx hb hE.2.2.2.2.2.1 hS hown (hts _ qw_155) (fun _ h9 => h9) dJ0_coder_7d493_0 ?_
  refine lv_if_eq (tgt := 13) hx hb dJ0_coder_7d493_3 (by decide) (fun c1 => absurd c1 (by decide)) (fun c1 => ?_)
  refine lv_aload_n hx hb dJ0_coder_7d493_6 rfl (lv_at hl 0 rfl) ?_
  refine vk_getf hx hb (hE.2.1 i hi).2.1 hS hown (hts _ qw_967) (fun _ h9 => h9) dJ0_coder_7d493_7 ?_
  refine lv_goto (tgt := 14) hx hb dJ0_coder_7d493_10 (by decide) ?_
  exact eB0 hx hb hr hlocks hM hS dJ0_coder_7d493_14 (Nat.le_refl 0) (Nat.le_refl 0)
abbrev rm_J0_isLatin1 : Room := ({ frames := 0, cells := 0, slots := 0, locals := 20 } : Room)
set_option maxHeartbeats 4000000 in
set_option maxRecDepth 100000 in
theorem mt_J0_isLatin1 (l : Launch) (E : KEnv) (i : Nat) (M : Mem) (hi : i < 18) : Met l yJ0_isLatin1_aae02 (Cond.code yJ0_isLatin1_aae02 cJ0_isLatin1_aae02 1 (some .boolean) :: lw_G) rm_J0_isLatin1 (cPc E [.ref (eS E i)] M) (cQ E (some (.int 1)) M) 0 0 (eA E) := by
  refine Met.ofW (cc := cJ0_isLatin1_aae02) (maxL := 1) (ret := (some .boolean)) (by decide) rfl ?_
  intro p e s m args below meth c s₁ B hml hv
  obtain ⟨rfl, hE, hM⟩ := hv
  have hx := B.exec
  have hb := B.bytes
  have hr := B.returns
  have hts0 := atoms_spec (ws := Cond.code yJ0_isLatin1_aae02 cJ0_isLatin1_aae02 1 (some .boolean) :: lw_G) B.pre
  have hts : ∀ w ∈ lw_G, w.before _ s = true := fun w hw => hts0 w (List.mem_cons_of_mem _ hw)
  have hown : s.vm.findClass RJ0 = some m.cls := findClass_of_methodNamed B.named
  have hlocks := B.notSynchronized
  have hC : CallFix p m c cJ0_isLatin1_aae02 1 s _ lw_G RJ0 := ⟨hx, hb, hml, hown, hts⟩
  have hS : va_S (eA E) s.heap s.heap [] := va_S.rf
  have hl := lv_entry ([.ref (eS E i)]) (n := 1) (Nat.le_of_ble_eq_true rfl)
  rw [lg_entry_eq]
  generalize (lg_sl ([.ref (eS E i)]) ++ List.replicate (1 - (lg_sl ([.ref (eS E i)])).length) Slot.unset).toArray = ls at hl ⊢
  have hl : lv_has ls 1 [(0, .ref (eS E i))] := hl
  show W p l e rm_J0_isLatin1 s m _ below meth c s.heap [] 0 0 _ _
  refine va_gets hx hb hE.2.2.2.2.2.1 hS hown (hts _ qw_155) (fun _ h9 => h9) dJ0_isLatin1_aae02_0 ?_
  refine lv_if_eq (tgt := 17) hx hb dJ0_isLatin1_aae02_3 (by decide) (fun c1 => absurd c1 (by decide)) (fun c1 => ?_)
  refine lv_aload_n hx hb dJ0_isLatin1_aae02_6 rfl (lv_at hl 0 rfl) ?_
  refine vk_getf hx hb (hE.2.1 i hi).2.1 hS hown (hts _ qw_967) (fun _ h9 => h9) dJ0_isLatin1_aae02_7 ?_
  refine lv_if_ne (tgt := 17) hx hb dJ0_isLatin1_aae02_10 (by decide) (fun c1 => absurd rfl c1) (fun c1 => ?_)
  refine lv_iconst (v := 1) hx hb dJ0_isLatin1_aae02_13 (by decide) ?_
  refine lv_goto (tgt := 18) hx hb dJ0_isLatin1_aae02_14 (by decide) ?_
  exact eZ hx hb hr hlocks hM hS dJ0_isLatin1_aae02_18 (Nat.le_refl 0) (Nat.le_refl 0) (by decide)
abbrev rm_J0_length : Room := ({ frames := 1, cells := 0, slots := 0, locals := 60 } : Room)
set_option maxHeartbeats 4000000 in
set_option maxRecDepth 100000 in
theorem mt_J0_length (l : Launch) (E : KEnv) (i : Nat) (M : Mem) (hi : i < 18) : Met l yJ0_length_8abf5 (Cond.code yJ0_length_8abf5 cJ0_length_8abf5 1 (some .int) :: lw_G) rm_J0_length (cPc E [.ref (eS E i)] M) (cQ E (some (.int (nI (sLEN.getD i 0)))) M) 0 0 (eA E) := by
  refine Met.ofW (cc := cJ0_length_8abf5) (maxL := 1) (ret := (some .int)) (by decide) rfl ?_
  intro p e s m args below meth c s₁ B hml hv
  obtain ⟨rfl, hE, hM⟩ := hv
  have hx := B.exec
  have hb := B.bytes
  have hr := B.returns
  have hts0 := atoms_spec (ws := Cond.code yJ0_length_8abf5 cJ0_length_8abf5 1 (some .int) :: lw_G) B.pre
  have hts : ∀ w ∈ lw_G, w.before _ s = true := fun w hw => hts0 w (List.mem_cons_of_mem _ hw)
  have hown : s.vm.findClass RJ0 = some m.cls := findClass_of_methodNamed B.named
  have hlocks := B.notSynchronized
  have hC : CallFix p m c cJ0_length_8abf5 1 s _ lw_G RJ0 := ⟨hx, hb, hml, hown, hts⟩
  have hS : va_S (eA E) s.heap s.heap [] := va_S.rf
  have hl := lv_entry ([.ref (eS E i)]) (n := 1) (Nat.le_of_ble_eq_true rfl)
  rw [lg_entry_eq]
  generalize (lg_sl ([.ref (eS E i)]) ++ List.replicate (1 - (lg_sl ([.ref (eS E i)])).length) Slot.unset).toArray = ls at hl ⊢
  have hl : lv_has ls 1 [(0, .ref (eS E i))] := hl
  show W p l e rm_J0_length s m _ below meth c s.heap [] 0 0 _ _
  refine lv_aload_n hx hb dJ0_length_8abf5_0 rfl (lv_at hl 0 rfl) ?_
  refine vk_getf hx hb (hE.2.1 i hi).2.2.1 hS hown (hts _ qw_966) (fun _ h9 => h9) dJ0_length_8abf5_1 ?_
  refine va_tlen hx hb (hE.2.1 i hi).2.2.2 hS (v := nI (sLEN.getD i 0)) rfl dJ0_length_8abf5_4 ?_
  refine lv_aload_n hx hb dJ0_length_8abf5_5 rfl (lv_at hl 0 rfl) ?_
  refine kJ (i := i) (As := []) (rest := [.int (nI (sLEN.getD i 0))]) hC hE hS hM hi (mt_J0_coder _ E i _ hi) (gwV qw_196 qw_197 qw_198 qw_44 qw_199) ⟨rfl, rfl, (Nat.le_of_ble_eq_true rfl), (Nat.le_of_ble_eq_true rfl)⟩ dd_J0_coder_7d493 rfl rfl hl.1 (Nat.le_of_ble_eq_true rfl) dJ0_length_8abf5_6 ⟨(Nat.le_of_ble_eq_true rfl), (Nat.le_of_ble_eq_true rfl)⟩ (fun H locs hM hS => ?_)
  refine lv_ishr hx hb dJ0_length_8abf5_9 ?_
  have e1 : nI (sLEN.getD i 0) >>> ((0 : Int32) &&& 31) = nI (sLEN.getD i 0) := by
    have := (j_all i hi).1
    rw [show ((0 : Int32) &&& 31) = 0 from by decide]
    rw [pk_shrN (by omega) 0 0 (by decide)]
    simp
  rw [e1]
  exact eI hx hb hr hlocks hM hS dJ0_length_8abf5_10 (Nat.le_refl 0) (Nat.le_refl 0)
abbrev rm_J3_checkn : Room := ({ frames := 0, cells := 0, slots := 0, locals := 20 } : Room)
set_option maxHeartbeats 4000000 in
set_option maxRecDepth 100000 in
theorem mt_J3_checkn (l : Launch) (E : KEnv) (a n : Int32) (M : Mem) (h0 : ¬ a < 0) (h1 : a < n) : Met l yJ3_checkIndex_8e157 (Cond.code yJ3_checkIndex_8e157 cJ3_checkIndex_8e157 3 (some .int) :: lw_G) rm_J3_checkn (cPc E [.int a, .int n, .null] M) (cQ E (some (.int a)) M) 0 0 (eA E) := by
  refine Met.ofW (cc := cJ3_checkIndex_8e157) (maxL := 3) (ret := (some .int)) (by decide) rfl ?_
  intro p e s m args below meth c s₁ B hml hv
  obtain ⟨rfl, hE, hM⟩ := hv
  have hx := B.exec
  have hb := B.bytes
  have hr := B.returns
  have hts0 := atoms_spec (ws := Cond.code yJ3_checkIndex_8e157 cJ3_checkIndex_8e157 3 (some .int) :: lw_G) B.pre
  have hts : ∀ w ∈ lw_G, w.before _ s = true := fun w hw => hts0 w (List.mem_cons_of_mem _ hw)
  have hown : s.vm.findClass RJ3 = some m.cls := findClass_of_methodNamed B.named
  have hlocks := B.notSynchronized
  have hC : CallFix p m c cJ3_checkIndex_8e157 3 s _ lw_G RJ3 := ⟨hx, hb, hml, hown, hts⟩
  have hS : va_S (eA E) s.heap s.heap [] := va_S.rf
  have hl := lv_entry ([.int a, .int n, .null]) (n := 3) (Nat.le_of_ble_eq_true rfl)
  rw [lg_entry_eq]
  generalize (lg_sl ([.int a, .int n, .null]) ++ List.replicate (3 - (lg_sl ([.int a, .int n, .null])).length) Slot.unset).toArray = ls at hl ⊢
  have hl : lv_has ls 3 [(0, .int a), (1, .int n), (2, .null)] := hl
  show W p l e rm_J3_checkn s m _ below meth c s.heap [] 0 0 _ _
  refine lv_iload_n hx hb dJ3_checkIndex_8e157_0 rfl (lv_at hl 0 rfl) ?_
  refine lv_if_lt (tgt := 9) hx hb dJ3_checkIndex_8e157_1 (by decide) (fun c1 => absurd c1 h0) (fun c1 => ?_)
  refine lv_iload_n hx hb dJ3_checkIndex_8e157_4 rfl (lv_at hl 0 rfl) ?_
  refine lv_iload_n hx hb dJ3_checkIndex_8e157_5 rfl (lv_at hl 1 rfl) ?_
  refine lv_icmp_lt (tgt := 16) hx hb dJ3_checkIndex_8e157_6 (by decide) (fun c1 => ?_) (fun c1 => absurd h1 c1)
  refine lv_iload_n hx hb dJ3_checkIndex_8e157_16 rfl (lv_at hl 0 rfl) ?_
  exact eI hx hb hr hlocks hM hS dJ3_checkIndex_8e157_17 (Nat.le_refl 0) (Nat.le_refl 0)
abbrev rm_J3_checkr : Room := ({ frames := 0, cells := 0, slots := 0, locals := 20 } : Room)
set_option maxHeartbeats 4000000 in
set_option maxRecDepth 100000 in
theorem mt_J3_checkr (l : Launch) (E : KEnv) (t : Nat) (a n : Int32) (M : Mem) (h0 : ¬ a < 0) (h1 : a < n) : Met l yJ3_checkIndex_8e157 (Cond.code yJ3_checkIndex_8e157 cJ3_checkIndex_8e157 3 (some .int) :: lw_G) rm_J3_checkr (cPc E [.int a, .int n, .ref t] M) (cQ E (some (.int a)) M) 0 0 (eA E) := by
  refine Met.ofW (cc := cJ3_checkIndex_8e157) (maxL := 3) (ret := (some .int)) (by decide) rfl ?_
  intro p e s m args below meth c s₁ B hml hv
  obtain ⟨rfl, hE, hM⟩ := hv
  have hx := B.exec
  have hb := B.bytes
  have hr := B.returns
  have hts0 := atoms_spec (ws := Cond.code yJ3_checkIndex_8e157 cJ3_checkIndex_8e157 3 (some .int) :: lw_G) B.pre
  have hts : ∀ w ∈ lw_G, w.before _ s = true := fun w hw => hts0 w (List.mem_cons_of_mem _ hw)
  have hown : s.vm.findClass RJ3 = some m.cls := findClass_of_methodNamed B.named
  have hlocks := B.notSynchronized
  have hC : CallFix p m c cJ3_checkIndex_8e157 3 s _ lw_G RJ3 := ⟨hx, hb, hml, hown, hts⟩
  have hS : va_S (eA E) s.heap s.heap [] := va_S.rf
  have hl := lv_entry ([.int a, .int n, .ref t]) (n := 3) (Nat.le_of_ble_eq_true rfl)
  rw [lg_entry_eq]
  generalize (lg_sl ([.int a, .int n, .ref t]) ++ List.replicate (3 - (lg_sl ([.int a, .int n, .ref t])).length) Slot.unset).toArray = ls at hl ⊢
  have hl : lv_has ls 3 [(0, .int a), (1, .int n), (2, .ref t)] := hl
  show W p l e rm_J3_checkr s m _ below meth c s.heap [] 0 0 _ _
  refine lv_iload_n hx hb dJ3_checkIndex_8e157_0 rfl (lv_at hl 0 rfl) ?_
  refine lv_if_lt (tgt := 9) hx hb dJ3_checkIndex_8e157_1 (by decide) (fun c1 => absurd c1 h0) (fun c1 => ?_)
  refine lv_iload_n hx hb dJ3_checkIndex_8e157_4 rfl (lv_at hl 0 rfl) ?_
  refine lv_iload_n hx hb dJ3_checkIndex_8e157_5 rfl (lv_at hl 1 rfl) ?_
  refine lv_icmp_lt (tgt := 16) hx hb dJ3_checkIndex_8e157_6 (by decide) (fun c1 => ?_) (fun c1 => absurd h1 c1)
  refine lv_iload_n hx hb dJ3_checkIndex_8e157_16 rfl (lv_at hl 0 rfl) ?_
  exact eI hx hb hr hlocks hM hS dJ3_checkIndex_8e157_17 (Nat.le_refl 0) (Nat.le_refl 0)
abbrev rm_J0_check : Room := ({ frames := 1, cells := 0, slots := 0, locals := 60 } : Room)
set_option maxHeartbeats 4000000 in
set_option maxRecDepth 100000 in
theorem mt_J0_check (l : Launch) (E : KEnv) (a n : Int32) (M : Mem) (h0 : ¬ a < 0) (h1 : a < n) : Met l yJ0_checkIndex_df160 (Cond.code yJ0_checkIndex_df160 cJ0_checkIndex_df160 2 none :: lw_G) rm_J0_check (cPc E [.int a, .int n] M) (cQ E none M) 0 0 (eA E) := by
  refine Met.ofW (cc := cJ0_checkIndex_df160) (maxL := 2) (ret := none) (by decide) rfl ?_
  intro p e s m args below meth c s₁ B hml hv
  obtain ⟨rfl, hE, hM⟩ := hv
  have hx := B.exec
  have hb := B.bytes
  have hr := B.returns
  have hts0 := atoms_spec (ws := Cond.code yJ0_checkIndex_df160 cJ0_checkIndex_df160 2 none :: lw_G) B.pre
  have hts : ∀ w ∈ lw_G, w.before _ s = true := fun w hw => hts0 w (List.mem_cons_of_mem _ hw)
  have hown : s.vm.findClass RJ0 = some m.cls := findClass_of_methodNamed B.named
  have hlocks := B.notSynchronized
  have hC : CallFix p m c cJ0_checkIndex_df160 2 s _ lw_G RJ0 := ⟨hx, hb, hml, hown, hts⟩
  have hS : va_S (eA E) s.heap s.heap [] := va_S.rf
  have hl := lv_entry ([.int a, .int n]) (n := 2) (Nat.le_of_ble_eq_true rfl)
  rw [lg_entry_eq]
  generalize (lg_sl ([.int a, .int n]) ++ List.replicate (2 - (lg_sl ([.int a, .int n])).length) Slot.unset).toArray = ls at hl ⊢
  have hl : lv_has ls 2 [(0, .int a), (1, .int n)] := hl
  show W p l e rm_J0_check s m _ below meth c s.heap [] 0 0 _ _
  refine lv_iload_n hx hb dJ0_checkIndex_df160_0 rfl (lv_at hl 0 rfl) ?_
  refine lv_iload_n hx hb dJ0_checkIndex_df160_1 rfl (lv_at hl 1 rfl) ?_
  rcases hE.2.2.2.2.2.2.1 with hz | ⟨t, hz⟩
  · refine va_gets hx hb hz hS hown (hts _ qw_178) (fun _ h9 => h9) dJ0_checkIndex_df160_2 ?_
    refine kS1 (As := [.int a, .int n, .null]) (rest := []) hC hE hS hM (mt_J3_checkn _ E a n _ h0 h1) (gwS qw_270 qw_271 qw_47 qw_272) ⟨rfl, rfl, (Nat.le_of_ble_eq_true rfl), (Nat.le_of_ble_eq_true rfl)⟩ dd_J3_checkIndex_8e157 rfl rfl hl.1 (Nat.le_of_ble_eq_true rfl) dJ0_checkIndex_df160_5 ⟨(Nat.le_of_ble_eq_true rfl), (Nat.le_of_ble_eq_true rfl)⟩ (fun H locs hM hS => ?_)
    refine lv_pop hx hb dJ0_checkIndex_df160_8 rfl ?_
    exact eV_ hx hb hr hlocks hM hS dJ0_checkIndex_df160_9 (Nat.le_refl 0) (Nat.le_refl 0)
  · refine va_gets hx hb hz hS hown (hts _ qw_178) (fun _ h9 => h9) dJ0_checkIndex_df160_2 ?_
    refine kS1 (As := [.int a, .int n, .ref t]) (rest := []) hC hE hS hM (mt_J3_checkr _ E t a n _ h0 h1) (gwS qw_270 qw_271 qw_47 qw_272) ⟨rfl, rfl, (Nat.le_of_ble_eq_true rfl), (Nat.le_of_ble_eq_true rfl)⟩ dd_J3_checkIndex_8e157 rfl rfl hl.1 (Nat.le_of_ble_eq_true rfl) dJ0_checkIndex_df160_5 ⟨(Nat.le_of_ble_eq_true rfl), (Nat.le_of_ble_eq_true rfl)⟩ (fun H locs hM hS => ?_)
    refine lv_pop hx hb dJ0_checkIndex_df160_8 rfl ?_
    exact eV_ hx hb hr hlocks hM hS dJ0_checkIndex_df160_9 (Nat.le_refl 0) (Nat.le_refl 0)

abbrev rm_J1_charAt : Room := ({ frames := 2, cells := 0, slots := 0, locals := 90 } : Room)
set_option maxHeartbeats 4000000 in
set_option maxRecDepth 100000 in
theorem mt_J1_charAt (l : Launch) (E : KEnv) (i : Nat) (k : Int32) (M : Mem) (hi : i < 18) (hk : ¬ (k < 0 ∨ sLEN.getD i 0 ≤ k.toNatClampNeg)) : Met l yJ1_charAt_3b067 (Cond.code yJ1_charAt_3b067 cJ1_charAt_3b067 2 (some .char) :: lw_G) rm_J1_charAt (cPc E [.ref (eV E i), .int k] M) (cQ E (some (.int (jByt i k.toNatClampNeg))) M) 0 0 (eA E) := by
  refine Met.ofW (cc := cJ1_charAt_3b067) (maxL := 2) (ret := (some .char)) (by decide) rfl ?_
  intro p e s m args below meth c s₁ B hml hv
  obtain ⟨rfl, hE, hM⟩ := hv
  have hx := B.exec
  have hb := B.bytes
  have hr := B.returns
  have hts0 := atoms_spec (ws := Cond.code yJ1_charAt_3b067 cJ1_charAt_3b067 2 (some .char) :: lw_G) B.pre
  have hts : ∀ w ∈ lw_G, w.before _ s = true := fun w hw => hts0 w (List.mem_cons_of_mem _ hw)
  have hown : s.vm.findClass RJ1 = some m.cls := findClass_of_methodNamed B.named
  have hlocks := B.notSynchronized
  have hC : CallFix p m c cJ1_charAt_3b067 2 s _ lw_G RJ1 := ⟨hx, hb, hml, hown, hts⟩
  have hS : va_S (eA E) s.heap s.heap [] := va_S.rf
  have hl := lv_entry ([.ref (eV E i), .int k]) (n := 2) (Nat.le_of_ble_eq_true rfl)
  rw [lg_entry_eq]
  generalize (lg_sl ([.ref (eV E i), .int k]) ++ List.replicate (2 - (lg_sl ([.ref (eV E i), .int k])).length) Slot.unset).toArray = ls at hl ⊢
  have hl : lv_has ls 2 [(0, .ref (eV E i)), (1, .int k)] := hl
  show W p l e rm_J1_charAt s m _ below meth c s.heap [] 0 0 _ _
  have hk0 : ¬ k < 0 := fun q => hk (Or.inl q)
  have hk1 : k.toNatClampNeg < sLEN.getD i 0 := Nat.not_le.mp fun q => hk (Or.inr q)
  have hkn : k < nI (sLEN.getD i 0) := by
    obtain ⟨j, hj, rfl⟩ := nI_of hk0
    rw [nI_clamp hj] at hk1
    exact nI_lt hk1 (by have := (j_all i hi).1; omega)
  refine lv_iload_n hx hb dJ1_charAt_3b067_0 rfl (lv_at hl 1 rfl) ?_
  refine lv_aload_n hx hb dJ1_charAt_3b067_1 rfl (lv_at hl 0 rfl) ?_
  refine va_tlen hx hb (hE.2.1 i hi).2.2.2 hS (v := nI (sLEN.getD i 0)) rfl dJ1_charAt_3b067_2 ?_
  refine kS0 (As := [.int k, .int (nI (sLEN.getD i 0))]) (rest := []) hC hE hS hM (mt_J0_check _ E k (nI (sLEN.getD i 0)) _ hk0 hkn) (gwS qw_267 qw_268 qw_44 qw_269) ⟨rfl, rfl, (Nat.le_of_ble_eq_true rfl), (Nat.le_of_ble_eq_true rfl)⟩ dd_J0_checkIndex_df160 rfl rfl hl.1 (Nat.le_of_ble_eq_true rfl) dJ1_charAt_3b067_3 ⟨(Nat.le_of_ble_eq_true rfl), (Nat.le_of_ble_eq_true rfl)⟩ (fun H locs hM hS => ?_)
  refine lv_aload_n hx hb dJ1_charAt_3b067_6 rfl (lv_at hl 0 rfl) ?_
  refine lv_iload_n hx hb dJ1_charAt_3b067_7 rfl (lv_at hl 1 rfl) ?_
  refine va_tb hx hb (hE.2.1 i hi).2.2.2 hS (v := .int (jByt i k.toNatClampNeg)) hk rfl dJ1_charAt_3b067_8 ?_
  refine lv_sipush (v := 255) hx hb dJ1_charAt_3b067_9 (by decide) ?_
  refine lv_iand hx hb dJ1_charAt_3b067_12 ?_
  refine lv_i2c (v := jByt i k.toNatClampNeg) hx hb dJ1_charAt_3b067_13 (by rw [((j_all i hi).2 _ hk1).1]; rfl) ?_
  exact eCh hx hb hr hlocks hM hS dJ1_charAt_3b067_14 (Nat.le_refl 0) (Nat.le_refl 0) ((j_all i hi).2 _ hk1).2.1
abbrev rm_J0_charAt : Room := ({ frames := 3, cells := 0, slots := 0, locals := 120 } : Room)
set_option maxHeartbeats 4000000 in
set_option maxRecDepth 100000 in
theorem mt_J0_charAt (l : Launch) (E : KEnv) (i : Nat) (k : Int32) (M : Mem) (hi : i < 18) (hk : ¬ (k < 0 ∨ sLEN.getD i 0 ≤ k.toNatClampNeg)) : Met l yJ0_charAt_5068e (Cond.code yJ0_charAt_5068e cJ0_charAt_5068e 2 (some .char) :: lw_G) rm_J0_charAt (cPc E [.ref (eS E i), .int k] M) (cQ E (some (.int (jByt i k.toNatClampNeg))) M) 0 0 (eA E) := by
  refine Met.ofW (cc := cJ0_charAt_5068e) (maxL := 2) (ret := (some .char)) (by decide) rfl ?_
  intro p e s m args below meth c s₁ B hml hv
  obtain ⟨rfl, hE, hM⟩ := hv
  have hx := B.exec
  have hb := B.bytes
  have hr := B.returns
  have hts0 := atoms_spec (ws := Cond.code yJ0_charAt_5068e cJ0_charAt_5068e 2 (some .char) :: lw_G) B.pre
  have hts : ∀ w ∈ lw_G, w.before _ s = true := fun w hw => hts0 w (List.mem_cons_of_mem _ hw)
  have hown : s.vm.findClass RJ0 = some m.cls := findClass_of_methodNamed B.named
  have hlocks := B.notSynchronized
  have hC : CallFix p m c cJ0_charAt_5068e 2 s _ lw_G RJ0 := ⟨hx, hb, hml, hown, hts⟩
  have hS : va_S (eA E) s.heap s.heap [] := va_S.rf
  have hl := lv_entry ([.ref (eS E i), .int k]) (n := 2) (Nat.le_of_ble_eq_true rfl)
  rw [lg_entry_eq]
  generalize (lg_sl ([.ref (eS E i), .int k]) ++ List.replicate (2 - (lg_sl ([.ref (eS E i), .int k])).length) Slot.unset).toArray = ls at hl ⊢
  have hl : lv_has ls 2 [(0, .ref (eS E i)), (1, .int k)] := hl
  show W p l e rm_J0_charAt s m _ below meth c s.heap [] 0 0 _ _
  have hk1 : k.toNatClampNeg < sLEN.getD i 0 := Nat.not_le.mp fun q => hk (Or.inr q)
  refine lv_aload_n hx hb dJ0_charAt_5068e_0 rfl (lv_at hl 0 rfl) ?_
  refine kJ (i := i) (As := []) (rest := []) hC hE hS hM hi (mt_J0_isLatin1 _ E i _ hi) (gwV qw_151 qw_152 qw_153 qw_44 qw_154) ⟨rfl, rfl, (Nat.le_of_ble_eq_true rfl), (Nat.le_of_ble_eq_true rfl)⟩ dd_J0_isLatin1_aae02 rfl rfl hl.1 (Nat.le_of_ble_eq_true rfl) dJ0_charAt_5068e_1 ⟨(Nat.le_of_ble_eq_true rfl), (Nat.le_of_ble_eq_true rfl)⟩ (fun H locs hM hS => ?_)
  refine lv_if_eq (tgt := 16) hx hb dJ0_charAt_5068e_4 (by decide) (fun c1 => absurd c1 (by decide)) (fun c1 => ?_)
  refine lv_aload_n hx hb dJ0_charAt_5068e_7 rfl (lv_at hl 0 rfl) ?_
  refine vk_getf hx hb (hE.2.1 i hi).2.2.1 hS hown (hts _ qw_966) (fun _ h9 => h9) dJ0_charAt_5068e_8 ?_
  refine lv_iload_n hx hb dJ0_charAt_5068e_11 rfl (lv_at hl 1 rfl) ?_
  refine kS1 (As := [.ref (eV E i), .int k]) (rest := []) hC hE hS hM (mt_J1_charAt _ E i k _ hi hk) (gwS qw_264 qw_265 qw_45 qw_266) ⟨rfl, rfl, (Nat.le_of_ble_eq_true rfl), (Nat.le_of_ble_eq_true rfl)⟩ dd_J1_charAt_3b067 rfl rfl hl.1 (Nat.le_of_ble_eq_true rfl) dJ0_charAt_5068e_12 ⟨(Nat.le_of_ble_eq_true rfl), (Nat.le_of_ble_eq_true rfl)⟩ (fun H locs hM hS => ?_)
  exact eCh hx hb hr hlocks hM hS dJ0_charAt_5068e_15 (Nat.le_refl 0) (Nat.le_refl 0) ((j_all i hi).2 _ hk1).2.1
/-- the first k letters lie in the row at a -/
def jFill (a k : Nat) (M : Mem) : Mem := (mK M, mN M, mI M, mR M, va_up (mA M) a (fun j => if j < k then jByt 0 j else mA M a j), mB M, mL M, mZ M)
theorem jFill_0 (a : Nat) (M : Mem) : jFill a 0 M = M := by
  unfold jFill
  have : va_up (mA M) a (fun j => if j < 0 then jByt 0 j else mA M a j) = mA M := by
    funext b
    by_cases h : b = a
    · rw [h, va_up_self]; funext j; simp
    · rw [va_up_ne _ _ h]
  rw [this]
theorem jFill_s (a k : Nat) (M : Mem) (hK : mK M a = 8) (hN : mN M a = 129) (hk : k < 129) : sA 8 a (nI k) (jByt 0 k) (jFill a k M) = some (jFill a (k + 1) M) := by
  unfold sA
  rw [if_pos ⟨hK, by rw [nI_clamp (by omega)]; show ¬ (nI k < 0 ∨ mN M a ≤ k); rw [hN]; exact fun q => q.elim (nI_pos (by omega)) (fun q => by omega)⟩]
  have hn : nar 8 (jByt 0 k) = jByt 0 k := by
    have := ((j_all 0 (by decide)).2 k (by rw [j_len0]; exact hk)).2.2
    simpa [nar] using this
  rw [hn]
  have : up2 (mA (jFill a k M)) a (nI k).toNatClampNeg (jByt 0 k) = mA (jFill a (k + 1) M) := by
    rw [nI_clamp (by omega)]
    funext b j
    show up2 (va_up (mA M) a _) a k (jByt 0 k) b j = va_up (mA M) a _ b j
    by_cases h : b = a
    · subst h
      rw [va_up_self]
      by_cases hj : j = k
      · subst hj; rw [up2_eq]; simp
      · rw [up2_ne2 hj, va_up_self]
        by_cases h1 : j < k
        · simp [h1, Nat.lt_succ_of_lt h1]
        · simp [h1, show ¬ j < k + 1 by omega]
    · rw [up2_ne1 h, va_up_ne _ _ h, va_up_ne _ _ h]
  rw [this]
  rfl
abbrev rm_J1_inflate : Room := ({ frames := 0, cells := 0, slots := 0, locals := 20 } : Room)
set_option maxHeartbeats 4000000 in
set_option maxRecDepth 100000 in
theorem mt_J1_inflate (l : Launch) (E : KEnv) (a : Nat) (M : Mem) (hK : mK M a = 8) (hN : mN M a = 129) : Met l yJ1_inflate_03870 (Cond.code yJ1_inflate_03870 cJ1_inflate_03870 6 none :: lw_G) rm_J1_inflate (cPc E [.ref (eV E 0), .int 0, .ref a, .int 0, .int 129] M) (cQ E none (jFill a 129 M)) 0 0 (eA E) := by
  refine Met.ofW (cc := cJ1_inflate_03870) (maxL := 6) (ret := none) (by decide) rfl ?_
  intro p e s m args below meth c s₁ B hml hv
  obtain ⟨rfl, hE, hM⟩ := hv
  have hx := B.exec
  have hb := B.bytes
  have hr := B.returns
  have hts0 := atoms_spec (ws := Cond.code yJ1_inflate_03870 cJ1_inflate_03870 6 none :: lw_G) B.pre
  have hts : ∀ w ∈ lw_G, w.before _ s = true := fun w hw => hts0 w (List.mem_cons_of_mem _ hw)
  have hown : s.vm.findClass RJ1 = some m.cls := findClass_of_methodNamed B.named
  have hlocks := B.notSynchronized
  have hC : CallFix p m c cJ1_inflate_03870 6 s _ lw_G RJ1 := ⟨hx, hb, hml, hown, hts⟩
  have hS : va_S (eA E) s.heap s.heap [] := va_S.rf
  have hl := lv_entry ([.ref (eV E 0), .int 0, .ref a, .int 0, .int 129]) (n := 6) (Nat.le_of_ble_eq_true rfl)
  rw [lg_entry_eq]
  generalize (lg_sl ([.ref (eV E 0), .int 0, .ref a, .int 0, .int 129]) ++ List.replicate (6 - (lg_sl ([.ref (eV E 0), .int 0, .ref a, .int 0, .int 129])).length) Slot.unset).toArray = ls at hl ⊢
  have hl : lv_has ls 6 [(0, .ref (eV E 0)), (1, .int 0), (2, .ref a), (3, .int 0), (4, .int 129)] := hl
  show W p l e rm_J1_inflate s m _ below meth c s.heap [] 0 0 _ _
  suffices key : ∀ (n k : Nat), k + n = 129 → ∀ (H : Heap) (locs : List Loc) (ls : Array Slot), MOK E (jFill a k M) H → va_S (eA E) s.heap H locs → lv_has ls 6 [(0, .ref (eV E 0)), (1, .int (nI k)), (2, .ref a), (3, .int (nI k)), (4, .int 129), (5, .int (nI k))] → W p l e rm_J1_inflate s m _ below meth c H locs 0 0 (MQ below (cQ E none (jFill a 129 M)) _ s 0 0 (eA E)) (F0 m 3 ls []) by
    refine lv_iconst (v := 0) hx hb dJ1_inflate_03870_0 (by decide) ?_
    refine lv_istore (lv' := [(5, .int 0), (0, .ref (eV E 0)), (1, .int 0), (2, .ref a), (3, .int 0), (4, .int 129)]) hx hb dJ1_inflate_03870_1 hl (by decide) rfl (fun ls hl => ?_)
    exact key 129 0 rfl _ _ _ (by rw [jFill_0]; exact hM) hS (lv_sub hl [1, 2, 3, 4, 5, 0] rfl)
  intro n
  induction n with
  | zero =>
    intro k hkn H locs ls hM hS hl
    have hk : k = 129 := by omega
    subst hk
    refine lv_iload hx hb dJ1_inflate_03870_3 (lv_at hl 5 rfl) ?_
    refine lv_iload hx hb dJ1_inflate_03870_5 (lv_at hl 4 rfl) ?_
    refine lv_icmp_ge (tgt := 33) hx hb dJ1_inflate_03870_7 (by decide) (fun c1 => ?_) (fun c1 => absurd (by decide) c1)
    exact eV_ hx hb hr hlocks hM hS dJ1_inflate_03870_33 (Nat.le_refl 0) (Nat.le_refl 0)
  | succ n ih =>
    intro k hkn H locs ls hM hS hl
    have hk : k < 129 := by omega
    have hin : vp_in (nI k) (sLEN.getD 0 0) := by rw [j_len0]; exact vp_in_nI hk (by decide)
    have hka : k < sLEN.getD 0 0 := by rw [j_len0]; exact hk
    refine lv_iload hx hb dJ1_inflate_03870_3 (lv_at hl 5 rfl) ?_
    refine lv_iload hx hb dJ1_inflate_03870_5 (lv_at hl 4 rfl) ?_
    refine lv_icmp_ge (tgt := 33) hx hb dJ1_inflate_03870_7 (by decide) (fun c1 => absurd c1 (nI_ge (b := 129) hk (by decide))) (fun c1 => ?_)
    refine lv_aload_n hx hb dJ1_inflate_03870_10 rfl (lv_at hl 2 rfl) ?_
    refine lv_iload_n hx hb dJ1_inflate_03870_11 rfl (lv_at hl 3 rfl) ?_
    refine lv_iinc (v := nI (k + 1)) (lv' := [(3, .int (nI (k + 1))), (0, .ref (eV E 0)), (1, .int (nI k)), (2, .ref a), (4, .int 129), (5, .int (nI k))]) hx hb dJ1_inflate_03870_12 hl (k := 3) rfl (nI_1 k) (by decide) rfl (fun ls hl => ?_)
    refine lv_aload_n hx hb dJ1_inflate_03870_15 rfl (lv_at hl 1 rfl) ?_
    refine lv_iload_n hx hb dJ1_inflate_03870_16 rfl (lv_at hl 2 rfl) ?_
    refine lv_iinc (v := nI (k + 1)) (lv' := [(1, .int (nI (k + 1))), (3, .int (nI (k + 1))), (0, .ref (eV E 0)), (2, .ref a), (4, .int 129), (5, .int (nI k))]) hx hb dJ1_inflate_03870_17 hl (k := 2) rfl (nI_1 k) (by decide) rfl (fun ls hl => ?_)
    refine va_tb hx hb (hE.2.1 0 (by decide)).2.2.2 hS (v := .int (jByt 0 k)) hin (by rw [nI_clamp (by omega)]; rfl) dJ1_inflate_03870_20 ?_
    refine lv_sipush (v := 255) hx hb dJ1_inflate_03870_21 (by decide) ?_
    refine lv_iand hx hb dJ1_inflate_03870_24 ?_
    refine lv_i2c (v := jByt 0 k) hx hb dJ1_inflate_03870_25 (by rw [((j_all 0 (by decide)).2 _ hka).1]; rfl) ?_
    refine r_cast hx hb hE hM hS (jFill_s a k M hK hN hk) dJ1_inflate_03870_26 (fun H locs hM hS => ?_)
    refine lv_iinc (v := nI (k + 1)) (lv' := [(5, .int (nI (k + 1))), (1, .int (nI (k + 1))), (3, .int (nI (k + 1))), (0, .ref (eV E 0)), (2, .ref a), (4, .int 129)]) hx hb dJ1_inflate_03870_27 hl (k := 5) rfl (nI_1 k) (by decide) rfl (fun ls hl => ?_)
    refine lv_goto (tgt := 3) hx hb dJ1_inflate_03870_30 (by decide) ?_
    exact ih (k + 1) (by omega) _ _ _ hM hS (lv_sub hl [3, 1, 4, 2, 5, 0] rfl)
theorem jTc_eq (M : Mem) : jFill (mZ M) 129 (newA 8 129 M) = jTcM M := by
  unfold jFill jTcM newA
  have : va_up (va_up (mA M) (mZ M) (fun _ => 0)) (mZ M) (fun j => if j < 129 then jByt 0 j else va_up (mA M) (mZ M) (fun _ => (0 : Int32)) (mZ M) j) = va_up (mA M) (mZ M) (fun k => if k < 129 then jByt 0 k else 0) := by
    funext b
    by_cases h : b = mZ M
    · rw [h, va_up_self, va_up_self]
      funext j
      rw [va_up_self]
    · rw [va_up_ne _ _ h, va_up_ne _ _ h, va_up_ne _ _ h]
  exact Prod.ext rfl (Prod.ext rfl (Prod.ext rfl (Prod.ext rfl (Prod.ext this rfl))))
abbrev rm_J1_toChars : Room := ({ frames := 1, cells := 1, slots := 129, locals := 60 } : Room)
set_option maxHeartbeats 4000000 in
set_option maxRecDepth 100000 in
theorem mt_J1_toChars (l : Launch) (E : KEnv)  (M : Mem) : Met l yJ1_toChars_9d188 (Cond.code yJ1_toChars_9d188 cJ1_toChars_9d188 2 (some (.array .char)) :: lw_G) rm_J1_toChars (cPc E [.ref (eV E 0)] M) (cQ E (some (.ref (mZ M))) (jTcM M)) 1 129 (eA E) := by
  refine Met.ofW (cc := cJ1_toChars_9d188) (maxL := 2) (ret := (some (.array .char))) (by decide) rfl ?_
  intro p e s m args below meth c s₁ B hml hv
  obtain ⟨rfl, hE, hM⟩ := hv
  have hx := B.exec
  have hb := B.bytes
  have hr := B.returns
  have hts0 := atoms_spec (ws := Cond.code yJ1_toChars_9d188 cJ1_toChars_9d188 2 (some (.array .char)) :: lw_G) B.pre
  have hts : ∀ w ∈ lw_G, w.before _ s = true := fun w hw => hts0 w (List.mem_cons_of_mem _ hw)
  have hown : s.vm.findClass RJ1 = some m.cls := findClass_of_methodNamed B.named
  have hlocks := B.notSynchronized
  have hC : CallFix p m c cJ1_toChars_9d188 2 s _ lw_G RJ1 := ⟨hx, hb, hml, hown, hts⟩
  have hS : va_S (eA E) s.heap s.heap [] := va_S.rf
  have hl := lv_entry ([.ref (eV E 0)]) (n := 2) (Nat.le_of_ble_eq_true rfl)
  rw [lg_entry_eq]
  generalize (lg_sl ([.ref (eV E 0)]) ++ List.replicate (2 - (lg_sl ([.ref (eV E 0)])).length) Slot.unset).toArray = ls at hl ⊢
  have hl : lv_has ls 2 [(0, .ref (eV E 0))] := hl
  show W p l e rm_J1_toChars s m _ below meth c s.heap [] 0 0 _ _
  have hlen : Int32.ofNat (sLEN.getD 0 0) = 129 := by rw [j_len0]; rfl
  refine lv_aload_n hx hb dJ1_toChars_9d188_0 rfl (lv_at hl 0 rfl) ?_
  refine va_tlen hx hb (hE.2.1 0 (by decide)).2.2.2 hS (v := 129) hlen dJ1_toChars_9d188_1 ?_
  refine rna_char (N' := 129) hx hb hts qw_86 hE hM hS (by decide) (by decide) (Nat.le_of_ble_eq_true rfl) (Nat.le_of_ble_eq_true rfl) (Nat.le_of_ble_eq_true rfl) rfl rfl dJ1_toChars_9d188_2 (fun H hM hS => ?_)
  refine lv_astore_n (lv' := [(1, .ref (mZ M)), (0, .ref (eV E 0))]) hx hb dJ1_toChars_9d188_4 rfl hl (by decide) rfl (fun ls hl => ?_)
  refine lv_aload_n hx hb dJ1_toChars_9d188_5 rfl (lv_at hl 1 rfl) ?_
  refine lv_iconst (v := 0) hx hb dJ1_toChars_9d188_6 (by decide) ?_
  refine lv_aload_n hx hb dJ1_toChars_9d188_7 rfl (lv_at hl 0 rfl) ?_
  refine lv_iconst (v := 0) hx hb dJ1_toChars_9d188_8 (by decide) ?_
  refine lv_aload_n hx hb dJ1_toChars_9d188_9 rfl (lv_at hl 1 rfl) ?_
  refine va_tlen hx hb (hE.2.1 0 (by decide)).2.2.2 hS (v := 129) hlen dJ1_toChars_9d188_10 ?_
  refine kS0 (As := [.ref (eV E 0), .int 0, .ref (mZ M), .int 0, .int 129]) (rest := []) hC hE hS hM (mt_J1_inflate _ E (mZ M) (newA 8 129 M) (va_up_self _ _ _) (va_up_self _ _ _)) (gwS qw_160 qw_161 qw_45 qw_162) ⟨rfl, rfl, (Nat.le_of_ble_eq_true rfl), (Nat.le_of_ble_eq_true rfl)⟩ dd_J1_inflate_03870 rfl rfl hl.1 (Nat.le_of_ble_eq_true rfl) dJ1_toChars_9d188_11 ⟨(Nat.le_of_ble_eq_true rfl), (Nat.le_of_ble_eq_true rfl)⟩ (fun H locs hM hS => ?_)
  refine lv_aload_n hx hb dJ1_toChars_9d188_14 rfl (lv_at hl 0 rfl) ?_
  rw [jTc_eq] at hM
  exact eR hx hb hr (Or.inr ⟨_, rfl⟩) hlocks hM hS dJ1_toChars_9d188_15 (Nat.le_of_ble_eq_true rfl) (Nat.le_of_ble_eq_true rfl)
abbrev rm_J0_tca : Room := ({ frames := 2, cells := 1, slots := 129, locals := 90 } : Room)
set_option maxHeartbeats 4000000 in
set_option maxRecDepth 100000 in
theorem mt_J0_tca (l : Launch) (E : KEnv)  (M : Mem) : Met l yJ0_toCharArray_70df3 (Cond.code yJ0_toCharArray_70df3 cJ0_toCharArray_70df3 1 (some (.array .char)) :: lw_G) rm_J0_tca (cPc E [.ref (eS E 0)] M) (cQ E (some (.ref (mZ M))) (jTcM M)) 1 129 (eA E) := by
  refine Met.ofW (cc := cJ0_toCharArray_70df3) (maxL := 1) (ret := (some (.array .char))) (by decide) rfl ?_
  intro p e s m args below meth c s₁ B hml hv
  obtain ⟨rfl, hE, hM⟩ := hv
  have hx := B.exec
  have hb := B.bytes
  have hr := B.returns
  have hts0 := atoms_spec (ws := Cond.code yJ0_toCharArray_70df3 cJ0_toCharArray_70df3 1 (some (.array .char)) :: lw_G) B.pre
  have hts : ∀ w ∈ lw_G, w.before _ s = true := fun w hw => hts0 w (List.mem_cons_of_mem _ hw)
  have hown : s.vm.findClass RJ0 = some m.cls := findClass_of_methodNamed B.named
  have hlocks := B.notSynchronized
  have hC : CallFix p m c cJ0_toCharArray_70df3 1 s _ lw_G RJ0 := ⟨hx, hb, hml, hown, hts⟩
  have hS : va_S (eA E) s.heap s.heap [] := va_S.rf
  have hl := lv_entry ([.ref (eS E 0)]) (n := 1) (Nat.le_of_ble_eq_true rfl)
  rw [lg_entry_eq]
  generalize (lg_sl ([.ref (eS E 0)]) ++ List.replicate (1 - (lg_sl ([.ref (eS E 0)])).length) Slot.unset).toArray = ls at hl ⊢
  have hl : lv_has ls 1 [(0, .ref (eS E 0))] := hl
  show W p l e rm_J0_tca s m _ below meth c s.heap [] 0 0 _ _
  have hi : (0 : Nat) < 18 := by decide
  refine lv_aload_n hx hb dJ0_toCharArray_70df3_0 rfl (lv_at hl 0 rfl) ?_
  refine kJ (i := 0) (As := []) (rest := []) hC hE hS hM hi (mt_J0_isLatin1 _ E 0 _ hi) (gwV qw_151 qw_152 qw_153 qw_44 qw_154) ⟨rfl, rfl, (Nat.le_of_ble_eq_true rfl), (Nat.le_of_ble_eq_true rfl)⟩ dd_J0_isLatin1_aae02 rfl rfl hl.1 (Nat.le_of_ble_eq_true rfl) dJ0_toCharArray_70df3_1 ⟨(Nat.le_of_ble_eq_true rfl), (Nat.le_of_ble_eq_true rfl)⟩ (fun H locs hM hS => ?_)
  refine lv_if_eq (tgt := 17) hx hb dJ0_toCharArray_70df3_4 (by decide) (fun c1 => absurd c1 (by decide)) (fun c1 => ?_)
  refine lv_aload_n hx hb dJ0_toCharArray_70df3_7 rfl (lv_at hl 0 rfl) ?_
  refine vk_getf hx hb (hE.2.1 0 hi).2.2.1 hS hown (hts _ qw_966) (fun _ h9 => h9) dJ0_toCharArray_70df3_8 ?_
  refine kS1 (As := [.ref (eV E 0)]) (rest := []) hC hE hS hM (mt_J1_toChars _ E _) (gwS qw_157 qw_158 qw_45 qw_159) ⟨rfl, rfl, (Nat.le_of_ble_eq_true rfl), (Nat.le_of_ble_eq_true rfl)⟩ dd_J1_toChars_9d188 rfl rfl hl.1 (Nat.le_of_ble_eq_true rfl) dJ0_toCharArray_70df3_11 ⟨(Nat.le_of_ble_eq_true rfl), (Nat.le_of_ble_eq_true rfl)⟩ (fun H locs hM hS => ?_)
  refine lv_goto (tgt := 24) hx hb dJ0_toCharArray_70df3_14 (by decide) ?_
  exact eR hx hb hr (Or.inr ⟨_, rfl⟩) hlocks hM hS dJ0_toCharArray_70df3_24 (Nat.le_of_ble_eq_true rfl) (Nat.le_of_ble_eq_true rfl)
section JW
variable {p : Program} {l : Launch} {e : Env} {R : Room} {s : State} {m : MethodId} {args : Array Value} {below : List Frame} {meth : Method} {c : Code} {H : Heap} {locs : List Loc} {cells slots : Nat} {Q : State → Prop}
variable {cc : ByteArray} {pc : Nat} {ls : Array Slot} {rest st0 : List Value} {E : KEnv} {M M' : Mem} {own : String} {nL i index : Nat}
theorem rJ_length {v : Int32} (hC : CallFix p m c cc nL s args lw_G own) (hE : EnvOK E s) (hS : va_S (eA E) s.heap H locs) (hM : MOK E M H) (hg : jLen i = some v) (hw : Cond.methodLink own index yJ0_length_8abf5 ∈ lw_G) (hf : 2 ≤ R.frames) (hlo : 80 ≤ R.locals) (hcc : (0 : Nat) = 0)
    (hst : st0 = .ref (eS E i) :: rest) (hsz : ls.size = nL) (h8 : (rest.map fun v => v.category).sum ≤ 8) (hdg : decode cc pc = .ok (.invokevirtual index, 3)) (hcs : cells ≤ R.cells ∧ slots ≤ R.slots)
    (kk : ∀ (H1 : Heap) (locs1 : List Loc), MOK E M H1 → va_S (eA E) s.heap H1 locs1 → W p l e R s m args below meth c H1 locs1 cells slots Q (F0 m (pc + 3) ls (.int v :: rest))) : W p l e R s m args below meth c H locs cells slots Q (F0 m pc ls st0) := by
  obtain ⟨hi, rfl⟩ := ifs hg
  exact kJ (As := []) (rest := rest) hC hE hS hM hi (mt_J0_length l E i M hi) (gwV hw qw_193 qw_194 qw_44 qw_195) ⟨rfl, rfl, hf, hlo⟩ dd_J0_length_8abf5 rfl hst hsz h8 hdg hcs kk
theorem rJ_charAt {v k : Int32} (hC : CallFix p m c cc nL s args lw_G own) (hE : EnvOK E s) (hS : va_S (eA E) s.heap H locs) (hM : MOK E M H) (hg : jChr i k = some v) (hw : Cond.methodLink own index yJ0_charAt_5068e ∈ lw_G) (hf : 4 ≤ R.frames) (hlo : 141 ≤ R.locals) (hcc : (0 : Nat) = 0)
    (hst : st0 = .int k :: .ref (eS E i) :: rest) (hsz : ls.size = nL) (h8 : (rest.map fun v => v.category).sum ≤ 8) (hdg : decode cc pc = .ok (.invokevirtual index, 3)) (hcs : cells ≤ R.cells ∧ slots ≤ R.slots)
    (kk : ∀ (H1 : Heap) (locs1 : List Loc), MOK E M H1 → va_S (eA E) s.heap H1 locs1 → W p l e R s m args below meth c H1 locs1 cells slots Q (F0 m (pc + 3) ls (.int v :: rest))) : W p l e R s m args below meth c H locs cells slots Q (F0 m pc ls st0) := by
  obtain ⟨⟨hi, hk⟩, rfl⟩ := ifs hg
  exact kJ (As := [.int k]) (rest := rest) hC hE hS hM hi (mt_J0_charAt l E i k M hi hk) (gwV hw qw_261 qw_262 qw_44 qw_263) ⟨rfl, rfl, hf, hlo⟩ dd_J0_charAt_5068e rfl hst hsz h8 hdg hcs kk
theorem rJ_tca {q : Nat} (hC : CallFix p m c cc nL s args lw_G own) (hE : EnvOK E s) (hS : va_S (eA E) s.heap H locs) (hM : MOK E M H) (hg : jTca i M = some (q, M')) (hw : Cond.methodLink own index yJ0_toCharArray_70df3 ∈ lw_G) (hf : 3 ≤ R.frames) (hlo : 110 ≤ R.locals) (hcc : (0 : Nat) = 0)
    (hst : st0 = .ref (eS E i) :: rest) (hsz : ls.size = nL) (h8 : (rest.map fun v => v.category).sum ≤ 8) (hcs : cells + 1 ≤ R.cells ∧ slots + 129 ≤ R.slots) (hdg : decode cc pc = .ok (.invokevirtual index, 3))
    (kk : ∀ (H1 : Heap) (locs1 : List Loc), MOK E M' H1 → va_S (eA E) s.heap H1 locs1 → W p l e R s m args below meth c H1 locs1 (cells + 1) (slots + 129) Q (F0 m (pc + 3) ls (.ref q :: rest))) : W p l e R s m args below meth c H locs cells slots Q (F0 m pc ls st0) := by
  obtain ⟨hi, h2⟩ := ifs hg
  cases h2
  subst hi
  exact kJ (As := []) (rest := rest) hC hE hS hM (by decide) (mt_J0_tca l E M) (gwV hw qw_148 qw_149 qw_44 qw_150) ⟨rfl, rfl, hf, hlo⟩ dd_J0_toCharArray_70df3 rfl hst hsz h8 hdg hcs kk
end JW
