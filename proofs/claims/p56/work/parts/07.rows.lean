/-! CALLS, ENDS, THROWS over the functional memory -/
/-- the kind of a class's objects -/
def kdO (ci : Nat) : Nat := match ci with
  | 6 => 12
  | n => n + 1
theorem mm_obj {cy : Nat → ClassId} {M : Mem} {a ci : Nat} (h : mK M a = kdO ci) (hc : ci < 7) : (∃ fs, mm_e cy M a = .inr (ci, fs)) ∧ mK M a ≠ 0 := by
  match ci, hc with
  | 0, _ => exact ⟨⟨_, mm_e1 h⟩, by rw [h]; decide⟩
  | 1, _ => exact ⟨⟨_, mm_e2 h⟩, by rw [h]; decide⟩
  | 2, _ => exact ⟨⟨_, mm_e3 h⟩, by rw [h]; decide⟩
  | 3, _ => exact ⟨⟨_, mm_e4 h⟩, by rw [h]; decide⟩
  | 4, _ => exact ⟨⟨_, mm_e5 h⟩, by rw [h]; decide⟩
  | 5, _ => exact ⟨⟨_, mm_e6 h⟩, by rw [h]; decide⟩
  | 6, _ => exact ⟨⟨_, mm_e12 h⟩, by rw [h]; decide⟩
theorem MOK.recv {E : KEnv} {s : State} {M : Mem} {H : Heap} {a ci : Nat} {q : vw_C} (hE : EnvOK E s) (hM : MOK E M H) (hk : mK M a = kdO ci) (hc : vwCl[ci]? = some q) : ∃ cell : Cell, H[a]? = some cell ∧ cell.vm.isStatics = false ∧ s.vm.findClass q.1 = some cell.cls := by
  have h6 : ci < 7 := by
    have := (List.getElem?_eq_some_iff.mp hc).1
    exact this
  obtain ⟨⟨fs, hf⟩, h0⟩ := mm_obj (cy := eC E) hk h6
  exact va_recv hE.1 (hM.1.P rfl h0 hf) hc (q0 := 0) rfl
theorem cPc.pre {E : KEnv} {s : State} {H : Heap} {locs : List Loc} {av : List Value} {M : Mem} (hE : EnvOK E s) (hS : va_S (eA E) s.heap H locs) (hM : MOK E M H) : ∀ U : State, U.heap = H → s.WarmedH U.vm → cPc E av M av.toArray U := fun U hU hW => ⟨rfl, hE.pass (locs := locs) (by rw [hU]; exact hS) hW, by rw [hU]; exact hM⟩
section KR
variable {p : Program} {l : Launch} {e : Env} {R : Room} {s : State} {m : MethodId} {args : Array Value} {below : List Frame} {meth : Method} {c : Code} {H : Heap} {locs : List Loc} {cells slots : Nat} {Q : State → Prop}
variable {cc : ByteArray} {pc : Nat} {ls : Array Slot} {rest : List Value} {E : KEnv} {M M' : Mem} {own C : String} {nL : Nat}
variable {y : MethodName} {bytes : ByteArray} {maxL mc ms n index : Nat} {ret : Option FieldType} {rm : Room} {b : Nat} {As st0 : List Value} {v : Option Value} {x : Value}
theorem kV {ci : Nat} {q : vw_C} (hC : CallFix p m c cc nL s args lw_G own) (hE : EnvOK E s) (hS : va_S (eA E) s.heap H locs) (hM : MOK E M H)
    (hMet : Met l y (Cond.code y bytes maxL ret :: lw_G) rm (cPc E (.ref b :: As) M) (cQ E v M') mc ms (eA E))
    (hw : GoodIn lw_G (wsV own index q.1 y (Cond.code y bytes maxL ret :: lw_G))) (hr : rm.cells = mc ∧ rm.slots = ms ∧ rm.frames + 1 ≤ R.frames ∧ 8 + (maxL + 11) + rm.locals ≤ R.locals)
    (hd : y.cls = q.1 ∧ y.cls ≠ "java/lang/invoke/MethodHandle" ∧ y.cls ≠ "java/lang/invoke/VarHandle" ∧ (parseMethodDescriptor y.desc).map (fun d => d.parameters.length) = some n) (hn : As.length = n)
    (hk : mK M b = kdO ci) (hc : vwCl[ci]? = some q) (hst : st0 = As.reverse ++ .ref b :: rest) (hsz : ls.size = nL) (h8 : (rest.map fun v => v.category).sum ≤ 8) (hdg : decode cc pc = .ok (.invokevirtual index, 3)) (hcs : cells + mc ≤ R.cells ∧ slots + ms ≤ R.slots)
    (kk : ∀ (H1 : Heap) (locs1 : List Loc), MOK E M' H1 → va_S (eA E) s.heap H1 locs1 → W p l e R s m args below meth c H1 locs1 (cells + mc) (slots + ms) Q (F0 m (pc + 3) ls (v.toList ++ rest))) : W p l e R s m args below meth c H locs cells slots Q (F0 m pc ls st0) :=
  kk_run (va_runV (As := As) (rest := rest) hC hMet (cwV n hC.2.2.2.2 hw rfl hr.1 hr.2.1 hd ⟨hr.2.2.1, hr.2.2.2⟩) ⟨cPc.blind, MOK.recv hE hM hk hc, cPc.pre hE hS hM⟩ rfl hn hsz hst (lv_room h8) hdg hcs) hS kk
theorem kS (hC : CallFix p m c cc nL s args lw_G own) (hE : EnvOK E s) (hS : va_S (eA E) s.heap H locs) (hM : MOK E M H)
    (hMet : Met l y (Cond.code y bytes maxL ret :: lw_G) rm (cPc E As M) (cQ E v M') mc ms (eA E))
    (hw : GoodIn lw_G (va_wsS own index y (Cond.code y bytes maxL ret :: lw_G))) (hr : rm.cells = mc ∧ rm.slots = ms ∧ rm.frames + 1 ≤ R.frames ∧ 8 + (maxL + 11) + rm.locals ≤ R.locals)
    (hd : y.cls ≠ "java/lang/invoke/MethodHandle" ∧ y.cls ≠ "java/lang/invoke/VarHandle" ∧ (parseMethodDescriptor y.desc).map (fun d => d.parameters.length) = some n) (hn : As.length = n)
    (hst : st0 = As.reverse ++ rest) (hsz : ls.size = nL) (h8 : (rest.map fun v => v.category).sum ≤ 8) (hdg : decode cc pc = .ok (.invokestatic index, 3)) (hcs : cells + mc ≤ R.cells ∧ slots + ms ≤ R.slots)
    (kk : ∀ (H1 : Heap) (locs1 : List Loc), MOK E M' H1 → va_S (eA E) s.heap H1 locs1 → W p l e R s m args below meth c H1 locs1 (cells + mc) (slots + ms) Q (F0 m (pc + 3) ls (v.toList ++ rest))) : W p l e R s m args below meth c H locs cells slots Q (F0 m pc ls st0) :=
  kk_run (va_runS (As := As) (rest := rest) hC hMet (va_cwS n hC.2.2.2.2 hw rfl hr.1 hr.2.1 hd ⟨hr.2.2.1, hr.2.2.2⟩) ⟨cPc.blind, cPc.pre hE hS hM⟩ rfl hn hsz hst (lv_room h8) hdg hcs) hS kk
/-- a constructor of another class -/
theorem kI (hC : CallFix p m c cc nL s args lw_G own) (hE : EnvOK E s) (hS : va_S (eA E) s.heap H locs) (hM : MOK E M H)
    (hMet : Met l y (Cond.code y bytes maxL none :: lw_G) rm (cPc E (.ref b :: As) M) (cQ E none M') mc ms (eA E))
    (hw : Cond.code y bytes maxL none ∈ lw_G) (hwl : Cond.methodLink own index y ∈ lw_G) (hwi : Cond.instanceMethod y ∈ lw_G) (hwn : Cond.initialized y.cls ∈ lw_G) (hr : rm.cells = mc ∧ rm.slots = ms ∧ rm.frames + 1 ≤ R.frames ∧ 8 + (maxL + 11) + rm.locals ≤ R.locals)
    (hd : y.cls ≠ "java/lang/invoke/MethodHandle" ∧ y.cls ≠ "java/lang/invoke/VarHandle" ∧ (parseMethodDescriptor y.desc).map (fun d => d.parameters.length) = some n) (hn : As.length = n) (hy : y.name = "<init>")
    (hst : st0 = As.reverse ++ .ref b :: rest) (hsz : ls.size = nL) (h8 : (rest.map fun v => v.category).sum ≤ 8) (hdg : decode cc pc = .ok (.invokespecial index, 3)) (hcs : cells + mc ≤ R.cells ∧ slots + ms ≤ R.slots)
    (kk : ∀ (H1 : Heap) (locs1 : List Loc), MOK E M' H1 → va_S (eA E) s.heap H1 locs1 → W p l e R s m args below meth c H1 locs1 (cells + mc) (slots + ms) Q (F0 m (pc + 3) ls rest)) : W p l e R s m args below meth c H locs cells slots Q (F0 m pc ls st0) :=
  kk_run (va_runI (As := As) (rest := rest) hC hMet (cwI n hC.2.2.2.2 (gwG hw) rfl hr.1 hr.2.1 (hC.2.2.2.2 _ hwn) (hC.2.2.2.2 _ hwl) (hC.2.2.2.2 _ hwi) hy hd ⟨hr.2.2.1, hr.2.2.2⟩) ⟨cPc.blind, cPc.pre hE hS hM⟩ rfl hn hsz hst (lv_room h8) hdg hcs) hS kk
/-- a private constructor of a nest mate -/
theorem kIN {host : String} (hC : CallFix p m c cc nL s args lw_G own) (hE : EnvOK E s) (hS : va_S (eA E) s.heap H locs) (hM : MOK E M H)
    (hMet : Met l y (Cond.code y bytes maxL none :: lw_G) rm (cPc E (.ref b :: As) M) (cQ E none M') mc ms (eA E))
    (hw : Cond.code y bytes maxL none ∈ lw_G) (hwl : (own, index, y, host) ∈ lw_nest) (hwi : Cond.instanceMethod y ∈ lw_G) (hwn : Cond.initialized y.cls ∈ lw_G) (hr : rm.cells = mc ∧ rm.slots = ms ∧ rm.frames + 1 ≤ R.frames ∧ 8 + (maxL + 11) + rm.locals ≤ R.locals)
    (hd : y.cls ≠ "java/lang/invoke/MethodHandle" ∧ y.cls ≠ "java/lang/invoke/VarHandle" ∧ (parseMethodDescriptor y.desc).map (fun d => d.parameters.length) = some n) (hn : As.length = n) (hy : y.name = "<init>")
    (hst : st0 = As.reverse ++ .ref b :: rest) (hsz : ls.size = nL) (h8 : (rest.map fun v => v.category).sum ≤ 8) (hdg : decode cc pc = .ok (.invokespecial index, 3)) (hcs : cells + mc ≤ R.cells ∧ slots + ms ≤ R.slots)
    (kk : ∀ (H1 : Heap) (locs1 : List Loc), MOK E M' H1 → va_S (eA E) s.heap H1 locs1 → W p l e R s m args below meth c H1 locs1 (cells + mc) (slots + ms) Q (F0 m (pc + 3) ls rest)) : W p l e R s m args below meth c H locs cells slots Q (F0 m pc ls st0) :=
  kk_run (va_runIN (As := As) (rest := rest) hC hMet ⟨va_cnB n hC.2.2.2.2 (gwG hw) rfl hr.1 hr.2.1 (hE.2.2.2.2.2.2.2.2.2.1 _ hwl) (hC.2.2.2.2 _ hwn) hd ⟨hr.2.2.1, hr.2.2.2⟩, hy, hC.2.2.2.2 _ hwi⟩ ⟨cPc.blind, cPc.pre hE hS hM⟩ rfl hn hsz hst (lv_room h8) hdg hcs) hS kk
theorem kx_V {ci : Nat} {q : vw_C} {r : Option Value ⊕ Nat} (hC : CallFix p m c cc nL s args lw_G own) (hE : EnvOK E s) (hS : va_S (eA E) s.heap H locs) (hM : MOK E M H)
    (hMet : vx_Met l y (Cond.code y bytes maxL ret :: lw_G) rm (cPc E (.ref b :: As) M) (cQx E r M') (cXx E r M') mc ms (eA E))
    (hw : GoodIn lw_G (wsV own index q.1 y (Cond.code y bytes maxL ret :: lw_G))) (hr : rm.cells = mc ∧ rm.slots = ms ∧ rm.frames + 1 ≤ R.frames ∧ 8 + (maxL + 11) + rm.locals ≤ R.locals)
    (hd : y.cls = q.1 ∧ y.cls ≠ "java/lang/invoke/MethodHandle" ∧ y.cls ≠ "java/lang/invoke/VarHandle" ∧ (parseMethodDescriptor y.desc).map (fun d => d.parameters.length) = some n) (hn : As.length = n)
    (hk : mK M b = kdO ci) (hc : vwCl[ci]? = some q) (hst : st0 = As.reverse ++ .ref b :: rest) (hsz : ls.size = nL) (h8 : (rest.map fun v => v.category).sum ≤ 8) (hdg : decode cc pc = .ok (.invokevirtual index, 3)) (hcs : cells + mc ≤ R.cells ∧ slots + ms ≤ R.slots) :
    vx_Run p l e R s m args below meth c H locs cells slots mc ms (F0 m pc ls st0) rest (cQx E r M' (Value.ref b :: As).toArray) (cXx E r M') (eA E) :=
  vx_runV (As := As) (rest := rest) hC hMet (cwV n hC.2.2.2.2 hw rfl hr.1 hr.2.1 hd ⟨hr.2.2.1, hr.2.2.2⟩) ⟨cPc.blind, MOK.recv hE hM hk hc, cPc.pre hE hS hM⟩ rfl hn hsz hst (lv_room h8) hdg hcs
/-- .. that returned -/
theorem kx_ok {a : Array Value} (hr : vx_Run p l e R s m args below meth c H locs cells slots mc ms (F0 m pc ls st0) rest (cQx E (.inl v) M' a) (cXx E (.inl v) M') (eA E)) (hS : va_S (eA E) s.heap H locs)
    (kk : ∀ (H1 : Heap) (locs1 : List Loc), MOK E M' H1 → va_S (eA E) s.heap H1 locs1 → W p l e R s m args below meth c H1 locs1 (cells + mc) (slots + ms) Q (F0 m (pc + 3) ls (v.toList ++ rest))) : W p l e R s m args below meth c H locs cells slots Q (F0 m pc ls st0) :=
  kx_run hr hS (fun ex ce q9 H1 locs1 h => by cases h) (fun w H1 locs1 h h1 h2 => by cases h; exact kk H1 locs1 h1 h2)
/-- .. that threw: it goes on to the caller -/
theorem kx_out {a : Array Value} {ex : Nat} {mc' ms' : Nat} (hr : vx_Run p l e R s m args below meth c H locs cells slots mc ms (F0 m pc ls st0) rest (cQx E (.inr ex) M' a) (cXx E (.inr ex) M') (eA E)) (hS : va_S (eA E) s.heap H locs)
    (hout : ∀ x ∈ c.exceptionTable.toList, False) (hlocks : meth.locks = false) (h1 : cells + mc ≤ mc') (h2 : slots + ms ≤ ms') : W p l e R s m args below meth c H locs cells slots (vx_MQ below (cQx E (.inr ex) M') (cXx E (.inr ex) M') args s mc' ms' (eA E)) (F0 m pc ls st0) :=
  kx_run hr hS (fun ex' ce q9 H1 locs1 h hM1 hS1 hc hv hcl => by
    cases h
    exact vx_out (fun x hx => absurd (hout x hx) id) hlocks hc hv hcl (fun t ht _ => ⟨⟨ex, rfl, rfl⟩, by rw [ht]; exact hM1, hS1.F ht⟩) hS1.2.2 h1 h2) (fun w H1 locs1 h => by cases h)
-- ends
theorem eI {x : Int32} (hx : p.tables.exec = Jvm.exec) (hb : c.code = cc) (hr : meth.sig.returnType = some .int) (hlocks : meth.locks = false) (hM : MOK E M H) (hS : va_S (eA E) s.heap H locs) (hdg : decode cc pc = .ok (.ireturn, 1)) (h1 : cells ≤ mc) (h2 : slots ≤ ms) :
    W p l e R s m args below meth c H locs cells slots (MQ below (cQ E (some (.int x)) M) args s mc ms (eA E)) (F0 m pc ls [.int x]) :=
  W.widen h1 h2 (W.iret hx hb hr (fun t ht hW => ⟨rfl, by rw [ht]; exact hM, hS.F ht⟩) hS.2.2 hdg hlocks)
theorem nb01 {x : Int32} (h : x = 0 ∨ x = 1) : narrow .boolean (.int x) = .int x := by
  rcases h with h | h <;> rw [h] <;> rfl
theorem eZ {x : Int32} (hx : p.tables.exec = Jvm.exec) (hb : c.code = cc) (hr : meth.sig.returnType = some .boolean) (hlocks : meth.locks = false) (hM : MOK E M H) (hS : va_S (eA E) s.heap H locs) (hdg : decode cc pc = .ok (.ireturn, 1)) (h1 : cells ≤ mc) (h2 : slots ≤ ms) (h01 : x = 0 ∨ x = 1) :
    W p l e R s m args below meth c H locs cells slots (MQ below (cQ E (some (.int x)) M) args s mc ms (eA E)) (F0 m pc ls [.int x]) :=
  W.widen h1 h2 (W.zret hx hb hr (nb01 h01) (fun t ht hW => ⟨rfl, by rw [ht]; exact hM, hS.F ht⟩) hS.2.2 hdg hlocks)
theorem eV_ (hx : p.tables.exec = Jvm.exec) (hb : c.code = cc) (hr : meth.sig.returnType = none) (hlocks : meth.locks = false) (hM : MOK E M H) (hS : va_S (eA E) s.heap H locs) (hdg : decode cc pc = .ok (.return_, 1)) (h1 : cells ≤ mc) (h2 : slots ≤ ms) :
    W p l e R s m args below meth c H locs cells slots (MQ below (cQ E none M) args s mc ms (eA E)) (F0 m pc ls []) :=
  W.widen h1 h2 (W.vret hx hb hr (fun t ht hW => ⟨rfl, by rw [ht]; exact hM, hS.F ht⟩) hS.2.2 hdg hlocks)
theorem eR {x : Nat} {rt : FieldType} (hx : p.tables.exec = Jvm.exec) (hb : c.code = cc) (hr : meth.sig.returnType = some rt) (hrt : (∃ n, rt = .object n) ∨ ∃ t, rt = .array t) (hlocks : meth.locks = false) (hM : MOK E M H) (hS : va_S (eA E) s.heap H locs) (hdg : decode cc pc = .ok (.areturn, 1)) (h1 : cells ≤ mc) (h2 : slots ≤ ms) :
    W p l e R s m args below meth c H locs cells slots (MQ below (cQ E (some (.ref x)) M) args s mc ms (eA E)) (F0 m pc ls [.ref x]) :=
  W.widen h1 h2 (W.aret hx hb hr hrt (Or.inr ⟨x, rfl⟩) (fun t ht hW => ⟨rfl, by rw [ht]; exact hM, hS.F ht⟩) hS.2.2 hdg hlocks)
theorem eF {x : UInt32} (hx : p.tables.exec = Jvm.exec) (hb : c.code = cc) (hr : meth.sig.returnType = some .float) (hlocks : meth.locks = false) (hM : MOK E M H) (hS : va_S (eA E) s.heap H locs) (hdg : decode cc pc = .ok (.freturn, 1)) (h1 : cells ≤ mc) (h2 : slots ≤ ms) :
    W p l e R s m args below meth c H locs cells slots (MQ below (cQ E (some (.float x)) M) args s mc ms (eA E)) (F0 m pc ls [.float x]) :=
  W.widen h1 h2 (W.fret hx hb hr (fun t ht hW => ⟨rfl, by rw [ht]; exact hM, hS.F ht⟩) hS.2.2 hdg hlocks)
theorem eDb {x : UInt64} (hx : p.tables.exec = Jvm.exec) (hb : c.code = cc) (hr : meth.sig.returnType = some .double) (hlocks : meth.locks = false) (hM : MOK E M H) (hS : va_S (eA E) s.heap H locs) (hdg : decode cc pc = .ok (.dreturn, 1)) (h1 : cells ≤ mc) (h2 : slots ≤ ms) :
    W p l e R s m args below meth c H locs cells slots (MQ below (cQ E (some (.double x)) M) args s mc ms (eA E)) (F0 m pc ls [.double x]) :=
  W.widen h1 h2 (W.dret hx hb hr (fun t ht hW => ⟨rfl, by rw [ht]; exact hM, hS.F ht⟩) hS.2.2 hdg hlocks)
/-- a method that may throw, returning -/
theorem xRet {g : JFrame} (k : W p l e R s m args below meth c H locs cells slots (MQ below (cQ E v M) args s mc ms (eA E)) g) : W p l e R s m args below meth c H locs cells slots (vx_MQ below (cQx E (.inl v) M) (cXx E (.inl v) M) args s mc ms (eA E)) g := by
  intro T hT X
  obtain ⟨t, a1, o, b1, b2, ⟨b3, b5, b6⟩, b4⟩ := k T hT X
  exact ⟨t, a1, o, b1, b2, Or.inl ⟨⟨⟨v, rfl, b3⟩, b5, b6⟩, b4⟩⟩
theorem exN_fit : ∀ e, e < 3 → Bundle.fit (exN e) = true := by decide +kernel
theorem ex_names : ∀ n ∈ ["java/lang/RuntimeException", "java/lang/Exception"], Bundle.fit n = true := by decide +kernel
/-- the words of a throw in the class -/
theorem ex_at {ex ic : Nat} (hts : ∀ w ∈ lw_G, w.before args s = true) (hE : EnvOK E s) (h1 : ∀ w ∈ (vx_atS RX4 ic (exN ex) ["java/lang/RuntimeException", "java/lang/Exception"]).filter goodWord, w ∈ lw_G)
    (h2 : ∀ w ∈ (vx_atS RX4 ic (exN ex) ["java/lang/RuntimeException", "java/lang/Exception"]).filter (fun w => !goodWord w), w ∈ Cond.castable (exN ex) (exN ex) :: lw_decl.map Cond.declares) (h3 : (exN ex, exN ex) ∈ lw_cast) : ∀ w ∈ vx_atS RX4 ic (exN ex) ["java/lang/RuntimeException", "java/lang/Exception"], w.before args s = true :=
  vx_hat (fun w hw => hts w (h1 w hw)) h2 (vx_c (va_Nw.use rfl (hE.2.2.2.2.2.2.2.1 _ h3)) (fun w hw => by
    obtain ⟨x, hx, rfl⟩ := List.mem_map.mp hw
    exact va_Nw.use rfl (hE.2.2.2.2.2.2.2.2.1 x hx)))
theorem ex_g0 : ∀ w ∈ (vx_atS RX4 95 (exN 0) ["java/lang/RuntimeException", "java/lang/Exception"]).filter goodWord, w ∈ lw_G := by decide +kernel
theorem ex_g1 : ∀ w ∈ (vx_atS RX4 102 (exN 1) ["java/lang/RuntimeException", "java/lang/Exception"]).filter goodWord, w ∈ lw_G := by decide +kernel
theorem ex_g2 : ∀ w ∈ (vx_atS RX4 84 (exN 2) ["java/lang/RuntimeException", "java/lang/Exception"]).filter goodWord, w ∈ lw_G := by decide +kernel
theorem ex_b0 : ∀ w ∈ (vx_atS RX4 95 (exN 0) ["java/lang/RuntimeException", "java/lang/Exception"]).filter (fun w => !goodWord w), w ∈ Cond.castable (exN 0) (exN 0) :: lw_decl.map Cond.declares := by decide +kernel
theorem ex_b1 : ∀ w ∈ (vx_atS RX4 102 (exN 1) ["java/lang/RuntimeException", "java/lang/Exception"]).filter (fun w => !goodWord w), w ∈ Cond.castable (exN 1) (exN 1) :: lw_decl.map Cond.declares := by decide +kernel
theorem ex_b2 : ∀ w ∈ (vx_atS RX4 84 (exN 2) ["java/lang/RuntimeException", "java/lang/Exception"]).filter (fun w => !goodWord w), w ∈ Cond.castable (exN 2) (exN 2) :: lw_decl.map Cond.declares := by decide +kernel
theorem ex_ot {ex ik ic : Nat} (h : ((Cond.classLink RX4 ik (exN ex) :: Cond.initialized (exN ex) :: vx_atS RX4 ic (exN ex) ["java/lang/RuntimeException", "java/lang/Exception"]).all vx_ot) = true) : ∀ w ∈ Cond.classLink RX4 ik (exN ex) :: Cond.initialized (exN ex) :: vx_atS RX4 ic (exN ex) ["java/lang/RuntimeException", "java/lang/Exception"], vx_ot w = true := List.all_eq_true.mp h
/-- 'throw new E("text")' -/
theorem xThr {ex ik is ic i : Nat} {text : String} (hl : l.stackTraces = false) (hx : p.tables.exec = Jvm.exec) (hb : c.code = cc) (hown : s.vm.findClass RX4 = some m.cls) (hts : ∀ w ∈ lw_G, w.before args s = true) (hE : EnvOK E s) (hM : MOK E M H) (hS : va_S (eA E) s.heap H locs) (hex : ex < 3)
    (hk : Cond.classLink RX4 ik (exN ex) ∈ lw_G) (hini : Cond.initialized (exN ex) ∈ lw_G) (hstr : sST[i]? = some (RX4, is, text)) (hat : ∀ w ∈ vx_atS RX4 ic (exN ex) ["java/lang/RuntimeException", "java/lang/Exception"], w.before args s = true)
    (hot : ((Cond.classLink RX4 ik (exN ex) :: Cond.initialized (exN ex) :: vx_atS RX4 ic (exN ex) ["java/lang/RuntimeException", "java/lang/Exception"]).all vx_ot) = true) (hsize : ls.size = c.maxLocals)
    (d0 : decode cc pc = .ok (.new ik, 3)) (d3 : decode cc (pc + 3) = .ok (.dup, 1)) (d4 : decode cc (pc + 4) = .ok (.ldc is, 2)) (d6 : decode cc (pc + 6) = .ok (.invokespecial ic, 3)) (d9 : decode cc (pc + 9) = .ok (.athrow, 1))
    (hout : ∀ x ∈ c.exceptionTable.toList, False) (hRf : 5 < R.frames) (hRl : (rest.map fun v => v.category).sum + 82 ≤ R.locals) (hRc : cells + 1 ≤ R.cells) (hRs : slots + 6 ≤ R.slots) (hlocks : meth.locks = false) (hc : cells + 1 ≤ mc) (hs : slots + 6 ≤ ms) :
    W p l e R s m args below meth c H locs cells slots (vx_MQ below (cQx E (.inr ex) M) (cXx E (.inr ex) M) args s mc ms (eA E)) (F0 m pc ls rest) := by
  refine vx_throwS hx hb hl hown (exN_fit ex hex) ex_names (hts _ hk) (hts _ hini) (hE.2.2.1 i (RX4, is, text) hstr) hat (ex_ot hot) hE.2.2.2.1 hE.2.2.2.2.1 hS hsize d0 d3 d4 d6 d9 (fun x hx => absurd (hout x hx) id) hRf hRl hRc hRs hlocks ?_ hS.2.2 hc hs
  intro t _ h1 h2
  have h1' : H.size ≤ t.heap.size := by rw [h1]; exact Nat.le_succ _
  have hg := hM.1.grow h1' h2
  rw [h1, hM.1.1] at hg
  refine ⟨⟨ex, rfl, rfl⟩, ⟨hg, Nat.le_succ_of_le hM.2⟩, Nat.le_trans hS.1 h1', fun q q1 q2 => ?_⟩
  · rw [h2 q (Nat.lt_of_lt_of_le q1 hS.1)]
    exact hS.2.1 q q1 q2
/-- 'throw new E("text")' -/
theorem xThrW {ex ik is ic i : Nat} {text : String} (hl : l.stackTraces = false) (hx : p.tables.exec = Jvm.exec) (hb : c.code = cc) (hown : s.vm.findClass RX4 = some m.cls) (hts : ∀ w ∈ lw_G, w.before args s = true) (hE : EnvOK E s) (hM : MOK E M H) (hS : va_S (eA E) s.heap H locs) (hex : ex < 3)
    (hk : Cond.classLink RX4 ik (exN ex) ∈ lw_G) (hini : Cond.initialized (exN ex) ∈ lw_G) (hstr : sST[i]? = some (RX4, is, text)) (hat : ∀ w ∈ vx_atS RX4 ic (exN ex) ["java/lang/RuntimeException", "java/lang/Exception"], w.before args s = true)
    (hot : ((Cond.classLink RX4 ik (exN ex) :: Cond.initialized (exN ex) :: vx_atS RX4 ic (exN ex) ["java/lang/RuntimeException", "java/lang/Exception"]).all vx_ot) = true) (hsize : ls.size = c.maxLocals)
    (d0 : decode cc pc = .ok (.new ik, 3)) (d3 : decode cc (pc + 3) = .ok (.dup, 1)) (d4 : decode cc (pc + 4) = .ok (.ldc_w is, 3)) (d6 : decode cc (pc + 7) = .ok (.invokespecial ic, 3)) (d9 : decode cc (pc + 10) = .ok (.athrow, 1))
    (hout : ∀ x ∈ c.exceptionTable.toList, False) (hRf : 5 < R.frames) (hRl : (rest.map fun v => v.category).sum + 82 ≤ R.locals) (hRc : cells + 1 ≤ R.cells) (hRs : slots + 6 ≤ R.slots) (hlocks : meth.locks = false) (hc : cells + 1 ≤ mc) (hs : slots + 6 ≤ ms) :
    W p l e R s m args below meth c H locs cells slots (vx_MQ below (cQx E (.inr ex) M) (cXx E (.inr ex) M) args s mc ms (eA E)) (F0 m pc ls rest) := by
  refine vx_throwSW hx hb hl hown (exN_fit ex hex) ex_names (hts _ hk) (hts _ hini) (hE.2.2.1 i (RX4, is, text) hstr) hat (ex_ot hot) hE.2.2.2.1 hE.2.2.2.2.1 hS hsize d0 d3 d4 d6 d9 (fun x hx => absurd (hout x hx) id) hRf hRl hRc hRs hlocks ?_ hS.2.2 hc hs
  intro t _ h1 h2
  have h1' : H.size ≤ t.heap.size := by rw [h1]; exact Nat.le_succ _
  have hg := hM.1.grow h1' h2
  rw [h1, hM.1.1] at hg
  refine ⟨⟨ex, rfl, rfl⟩, ⟨hg, Nat.le_succ_of_le hM.2⟩, Nat.le_trans hS.1 h1', fun q q1 q2 => ?_⟩
  · rw [h2 q (Nat.lt_of_lt_of_le q1 hS.1)]
    exact hS.2.1 q q1 q2
end KR
