/-! THE LAW: methods with handlers, and what its cases use -/
/-- an end behind which the next address may have moved (an exception's object was made) -/
def cQz (E : KEnv) (v : Option Value) (M' : Mem) : Array Value → State → Outcome → State → Prop := fun _ st o t => o = .returned v ∧ (∃ z, MOK E (setZ M' z) t.heap) ∧ va_F (eA E) st t
/-- every cell of the memory lies ahead of the next address -/
def wfz (M : Mem) : Prop := ∀ a, mK M a ≠ 0 → a < mZ M
theorem wfz_of {E : KEnv} {M : Mem} {H : Heap} (h : MOK E M H) : wfz M := fun a ha => h.1.lt rfl ha
theorem Met_ofWH {l : Launch} {y : MethodName} {ws ws' : List Cond} {rm : Room} {Pc : Array Value → State → Prop} {Qc : Array Value → State → Outcome → State → Prop} {mc ms : Nat} {free : Addr → Prop} {cc : ByteArray} {maxL : Nat} {ret : Option FieldType} {hh : List (Nat × Nat × Nat × Nat)}
    (hy : plainName y.cls = true) (hw : ws = Cond.codeWith y cc maxL ret hh :: ws')
    (body : ∀ p e s m args below meth c s₁, BodyLoose p l y (headSpec ws rm) cc maxL ret e s m args below meth c s₁ → c.maxLocals = maxL → Pc args s →
      W p l e (headSpec ws rm).room s m args below meth c s.heap [] 0 0 (MQ below Qc args s mc ms free) (entryFrame m args maxL)) : Met l y ws rm Pc Qc mc ms free := by
  refine MetFree.of_bodyS (code := cc) (maxLocals := maxL) (ret := ret) hy ?_ ?_
  · intro args s m h hn
    obtain ⟨m9, meth, c, hn9, h1, h2, h3, h4, -, h5, h6, -⟩ := Cond.codeWith_spec (atoms_spec (ws := ws) h _ (by rw [hw]; exact List.mem_cons_self))
    cases hn.symm.trans hn9
    exact ⟨meth, c, h1, h2, h3, h4, h5, h6⟩
  · intro p e s m args below meth c s₁ B hml hP _
    have hh0 : s₁.heap = s.heap := by rw [B.state]; rfl
    obtain ⟨t, a1, o, b1, b2, b3⟩ := body p e s m args below meth c s₁ B hml hP s₁ hh0 (Stand.of_body B)
    exact ⟨t, o, a1, b1, b2, ⟨b3.1, b3.2⟩⟩
theorem gwSW {own : String} {index : Nat} {y : MethodName} {bytes : ByteArray} {maxL : Nat} {ret : Option FieldType} {hh : List (Nat × Nat × Nat × Nat)} (h1 : Cond.methodLink own index y ∈ lw_G) (h2 : Cond.static y ∈ lw_G) (h4 : Cond.initialized y.cls ∈ lw_G) (h5 : Cond.codeWith y bytes maxL ret hh ∈ lw_G) : GoodIn lw_G (va_wsS own index y (Cond.codeWith y bytes maxL ret hh :: lw_G)) := by
  intro w hw
  unfold va_wsS at hw
  rcases List.mem_append.mp hw with e | e
  · have : w ∈ lw_G := by
      simp only [List.mem_cons, List.not_mem_nil, or_false] at e
      rcases e with e | e | e <;> rw [e] <;> assumption
    exact ⟨this, good_of_word (lw_Ggood _ this)⟩
  · rcases List.mem_cons.mp e with e | e
    · rw [e]; exact ⟨h5, good_of_word (lw_Ggood _ h5)⟩
    · exact ⟨e, good_of_word (lw_Ggood _ e)⟩
section LR
variable {p : Program} {l : Launch} {e : Env} {R : Room} {s : State} {m : MethodId} {args : Array Value} {below : List Frame} {meth : Method} {c : Code} {H : Heap} {locs : List Loc} {cells slots : Nat} {Q : State → Prop}
variable {cc : ByteArray} {pc : Nat} {ls : Array Slot} {rest : List Value} {E : KEnv} {M M' : Mem} {own C : String} {nL : Nat}
variable {y : MethodName} {bytes : ByteArray} {maxL mc ms n index : Nat} {ret : Option FieldType} {rm : Room} {b : Nat} {As st0 : List Value} {x : Value}
theorem eIz {x : Int32} {z : Nat} (hx : p.tables.exec = Jvm.exec) (hb : c.code = cc) (hr : meth.sig.returnType = some .int) (hlocks : meth.locks = false) (hM : MOK E (setZ M z) H) (hS : va_S (eA E) s.heap H locs) (hdg : decode cc pc = .ok (.ireturn, 1)) (h1 : cells ≤ mc) (h2 : slots ≤ ms) :
    W p l e R s m args below meth c H locs cells slots (MQ below (cQz E (some (.int x)) M) args s mc ms (eA E)) (F0 m pc ls [.int x]) :=
  W.widen h1 h2 (W.iret hx hb hr (fun t ht hW => ⟨rfl, ⟨z, by rw [ht]; exact hM⟩, hS.F ht⟩) hS.2.2 hdg hlocks)
/-- .. that threw, caught here by a row of the table -/
theorem kx_hand {a : Array Value} {ex hpc : Nat} (hr : vx_Run p l e R s m args below meth c H locs cells slots mc ms (F0 m pc ls st0) rest (cQx E (.inr ex) M' a) (cXx E (.inr ex) M') (eA E)) (hS : va_S (eA E) s.heap H locs) (hown : s.vm.findClass own = some m.cls)
    (pre : List ExceptionTableEntry) (x : ExceptionTableEntry) (suf : List ExceptionTableEntry) (hsplit : c.exceptionTable.toList = pre ++ x :: suf)
    (hpass : ∀ z ∈ pre, covers z pc = false ∨ (z.catchType ≠ 0 ∧ ∃ nm : String, (Cond.classLink own z.catchType nm).before args s = true ∧ va_Nc (exN ex) nm s)) (hcov : covers x pc = true) (h0 : x.catchType ≠ 0) (hlink : (Cond.classLink own x.catchType (exN ex)).before args s = true) (hcast : (Cond.castable (exN ex) (exN ex)).before args s = true) (hh : x.handlerPc = hpc)
    (kk : ∀ (H1 : Heap) (locs1 : List Loc) (z q9 : Nat), MOK E (setZ M' z) H1 → va_S (eA E) s.heap H1 locs1 → W p l e R s m args below meth c H1 locs1 (cells + mc) (slots + ms) Q (F0 m hpc ls [.ref q9])) : W p l e R s m args below meth c H locs cells slots Q (F0 m pc ls st0) :=
  kx_run hr hS (fun ex' ce q9 H1 locs1 z h hM1 hS1 hc hv hcl => by
    cases h
    exact vx_catch hown pre x suf hsplit hpass hcov h0 hlink hcast hc hv hcl (by rw [hh]; exact kk H1 locs1 z q9 hM1 hS1)) (fun w H1 locs1 h => by cases h)
theorem kz_run {a : Array Value} (hr : va_Run p l e R s m args below meth c H locs cells slots mc ms (F0 m pc ls st0) rest (cQz E (some x) M' a) (eA E)) (hS : va_S (eA E) s.heap H locs)
    (kk : ∀ (z : Nat) (H1 : Heap) (locs1 : List Loc), MOK E (setZ M' z) H1 → va_S (eA E) s.heap H1 locs1 → W p l e R s m args below meth c H1 locs1 (cells + mc) (slots + ms) Q (F0 m (pc + 3) ls (x :: rest))) : W p l e R s m args below meth c H locs cells slots Q (F0 m pc ls st0) := by
  intro T hT X
  obtain ⟨v0, st₀, t, T', L, h0, X', hL, e1, e2, ⟨hv, ⟨z, hb⟩, hF⟩, st⟩ := hr T hT X
  cases hv
  obtain ⟨k1, k2, k3⟩ := vx_keep (A1 := eA E) h0 e1 hS (fun q _ h => h) (fun q h => h) hL hF
  obtain ⟨t2, a1, b1⟩ := kk z T'.heap (locs ++ L) (by rw [e1]; exact hb) k3 T' rfl X'
  exact ⟨t2, st t2 a1, b1⟩
theorem kSW {hh : List (Nat × Nat × Nat × Nat)} (hC : CallFix p m c cc nL s args lw_G own) (hE : EnvOK E s) (hS : va_S (eA E) s.heap H locs) (hM : MOK E M H)
    (hMet : Met l y (Cond.codeWith y bytes maxL ret hh :: lw_G) rm (cPc E As M) (cQz E (some x) M') mc ms (eA E))
    (hw : GoodIn lw_G (va_wsS own index y (Cond.codeWith y bytes maxL ret hh :: lw_G))) (hr : rm.cells = mc ∧ rm.slots = ms ∧ rm.frames + 1 ≤ R.frames ∧ 8 + (maxL + 11) + rm.locals ≤ R.locals)
    (hd : y.cls ≠ "java/lang/invoke/MethodHandle" ∧ y.cls ≠ "java/lang/invoke/VarHandle" ∧ (parseMethodDescriptor y.desc).map (fun d => d.parameters.length) = some n) (hn : As.length = n)
    (hst : st0 = As.reverse ++ rest) (hsz : ls.size = nL) (h8 : (rest.map fun v => v.category).sum ≤ 8) (hdg : decode cc pc = .ok (.invokestatic index, 3)) (hcs : cells + mc ≤ R.cells ∧ slots + ms ≤ R.slots)
    (kk : ∀ (z : Nat) (H1 : Heap) (locs1 : List Loc), MOK E (setZ M' z) H1 → va_S (eA E) s.heap H1 locs1 → W p l e R s m args below meth c H1 locs1 (cells + mc) (slots + ms) Q (F0 m (pc + 3) ls (x :: rest))) : W p l e R s m args below meth c H locs cells slots Q (F0 m pc ls st0) :=
  kz_run (vx_runSW (As := As) (rest := rest) hC hMet (vx_cwSW n hC.2.2.2.2 hw rfl hr.1 hr.2.1 hd ⟨hr.2.2.1, hr.2.2.2⟩) ⟨cPc.blind, cPc.pre hE hS hM⟩ rfl hn hsz hst (lv_room h8) hdg hcs) hS kk
/-- a number of the script -/
theorem rsl {b L : Nat} {xs : Nat → Int32} {i v : Int32} (hx : p.tables.exec = Jvm.exec) (hb : c.code = cc) (hX : va_X b L xs s s.heap) (hbl : b < s.heap.size) (hbA : ¬ eA E b) (hS : va_S (eA E) s.heap H locs) (hin : vp_in i L) (hv : xs i.toNatClampNeg = v) (hdg : decode cc pc = .ok (.iaload, 1))
    (kk : W p l e R s m args below meth c H locs cells slots Q (F0 m (pc + 1) ls (.int v :: rest))) : W p l e R s m args below meth c H locs cells slots Q (F0 m pc ls (.int i :: .ref b :: rest)) := by
  subst hv
  exact va_sld hx hb hX hbl hbA hS hin hdg kk
end LR
abbrev RL_law : String := "OfflineNotesLaw"
def hnd1 (E1 : Nat) (ex : Nat) (M : Mem) : Option (Int32 × Mem) := if ex = E1 then some (1, M) else none
def hnd2 (E1 E2 : Nat) (ex : Nat) (M : Mem) : Option (Int32 × Mem) := if ex = E1 then some (1, M) else if ex = E2 then some (2, M) else none
