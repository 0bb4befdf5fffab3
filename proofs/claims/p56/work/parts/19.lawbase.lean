/-! THE LAW: methods with handlers, and what its cases use -/
/-- every cell of the memory lies ahead of the next address -/
def wfz (M : Mem) : Prop := ∀ a, mK M a ≠ 0 → a < mZ M
theorem wfz_of {E : KEnv} {M : Mem} {H : Heap} (h : MOK E M H) : wfz M := fun a ha => h.1.lt rfl ha
theorem Met_ofWH {l : Launch} {y : MethodName} {ws ws' : List Cond} {rm : Room} {Pc : Array Value → State → Prop} {Qc : Array Value → State → Outcome → State → Prop} {mc ms : Nat} {free : Addr → Prop} {cc : ByteArray} {maxL : Nat} {ret : Option FieldType} {hh : List (Nat × Nat × Nat × Nat)}
    (hy : plainName y.cls = true) (hw : ws = Cond.codeWith y cc maxL ret hh :: ws')
    (body : ∀ p e s m args below meth c s₁, BodyLoose p l y (headSpec ws rm) cc maxL ret e s m args below meth c s₁ → c.maxLocals = maxL → Pc args s →
      W p l e (headSpec ws rm).room s m args below meth c s.heap [] 0 0 (MQ below Qc args s mc ms free) (entryFrame m args maxL)) : Met l y ws rm Pc Qc mc ms free := by
  refine MetFree.of_bodyS (code := cc) (maxLocals := maxL) (ret := ret) hy ?_ ?_
  · intro args s m h hn
    obtain ⟨m9, meth, c, hn9, h1, h2, h3, h4, -, h5, h6, -⟩ := Cond.codeWith_spec (atoms_spec (ws := ws) h _ (by rw [hw]; exact List.mem_cons_self))
    cases hn.symm.trans hn9
    exact ⟨meth, c, h1, h2, h3, h4, h5, h6⟩
  · intro p e s m args below meth c s₁ B hml hP _
    have hh0 : s₁.heap = s.heap := by rw [B.state]; rfl
    obtain ⟨t, a1, o, b1, b2, b3⟩ := body p e s m args below meth c s₁ B hml hP s₁ hh0 (Stand.of_body B)
    exact ⟨t, o, a1, b1, b2, ⟨b3.1, b3.2⟩⟩
theorem gwSW {own : String} {index : Nat} {y : MethodName} {bytes : ByteArray} {maxL : Nat} {ret : Option FieldType} {hh : List (Nat × Nat × Nat × Nat)} (h1 : Cond.methodLink own index y ∈ lw_G) (h2 : Cond.static y ∈ lw_G) (h4 : Cond.initialized y.cls ∈ lw_G) (h5 : Cond.codeWith y bytes maxL ret hh ∈ lw_G) : GoodIn lw_G (va_wsS own index y (Cond.codeWith y bytes maxL ret hh :: lw_G)) := by
  intro w hw
  unfold va_wsS at hw
  rcases List.mem_append.mp hw with e | e
  · have : w ∈ lw_G := by
      simp only [List.mem_cons, List.not_mem_nil, or_false] at e
      rcases e with e | e | e <;> rw [e] <;> assumption
    exact ⟨this, good_of_word (lw_Ggood _ this)⟩
  · rcases List.mem_cons.mp e with e | e
    · rw [e]; exact ⟨h5, good_of_word (lw_Ggood _ h5)⟩
    · exact ⟨e, good_of_word (lw_Ggood _ e)⟩
section LR
variable {p : Program} {l : Launch} {e : Env} {R : Room} {s : State} {m : MethodId} {args : Array Value} {below : List Frame} {meth : Method} {c : Code} {H : Heap} {locs : List Loc} {cells slots : Nat} {Q : State → Prop}
variable {cc : ByteArray} {pc : Nat} {ls : Array Slot} {rest : List Value} {E : KEnv} {M M' : Mem} {own C : String} {nL : Nat}
variable {y : MethodName} {bytes : ByteArray} {maxL mc ms n index : Nat} {ret : Option FieldType} {rm : Room} {b : Nat} {As st0 : List Value} {x : Value}
/-- .. that threw, caught here by a row of the table -/
theorem kx_hand {a : Array Value} {ex hpc : Nat} (hr : vx_Run p l e R s m args below meth c H locs cells slots mc ms (F0 m pc ls st0) rest (cQx E (.inr ex) M' a) (cXx E (.inr ex) M') (eA E)) (hS : va_S (eA E) s.heap H locs) (hown : s.vm.findClass own = some m.cls)
    (pre : List ExceptionTableEntry) (x : ExceptionTableEntry) (suf : List ExceptionTableEntry) (hsplit : c.exceptionTable.toList = pre ++ x :: suf)
    (hpass : ∀ z ∈ pre, covers z pc = false ∨ (z.catchType ≠ 0 ∧ ∃ nm : String, (Cond.classLink own z.catchType nm).before args s = true ∧ va_Nc (exN ex) nm s)) (hcov : covers x pc = true) (h0 : x.catchType ≠ 0) (hlink : (Cond.classLink own x.catchType (exN ex)).before args s = true) (hcast : (Cond.castable (exN ex) (exN ex)).before args s = true) (hh : x.handlerPc = hpc)
    (kk : ∀ (H1 : Heap) (locs1 : List Loc) (q9 : Nat), MOK E (setZ M' (mZ M' + 1)) H1 → va_S (eA E) s.heap H1 locs1 → W p l e R s m args below meth c H1 locs1 (cells + mc) (slots + ms) Q (F0 m hpc ls [.ref q9])) : W p l e R s m args below meth c H locs cells slots Q (F0 m pc ls st0) :=
  kx_run hr hS (fun ex' ce q9 H1 locs1 h hM1 hS1 hc hv hcl => by
    cases h
    exact vx_catch hown pre x suf hsplit hpass hcov h0 hlink hcast hc hv hcl (by rw [hh]; exact kk H1 locs1 q9 hM1 hS1)) (fun w H1 locs1 h => by cases h)
theorem kSW {hh : List (Nat × Nat × Nat × Nat)} (hC : CallFix p m c cc nL s args lw_G own) (hE : EnvOK E s) (hS : va_S (eA E) s.heap H locs) (hM : MOK E M H)
    (hMet : Met l y (Cond.codeWith y bytes maxL ret hh :: lw_G) rm (cPc E As M) (cQ E (some x) M') mc ms (eA E))
    (hw : GoodIn lw_G (va_wsS own index y (Cond.codeWith y bytes maxL ret hh :: lw_G))) (hr : rm.cells = mc ∧ rm.slots = ms ∧ rm.frames + 1 ≤ R.frames ∧ 8 + (maxL + 11) + rm.locals ≤ R.locals)
    (hd : y.cls ≠ "java/lang/invoke/MethodHandle" ∧ y.cls ≠ "java/lang/invoke/VarHandle" ∧ (parseMethodDescriptor y.desc).map (fun d => d.parameters.length) = some n) (hn : As.length = n)
    (hst : st0 = As.reverse ++ rest) (hsz : ls.size = nL) (h8 : (rest.map fun v => v.category).sum ≤ 8) (hdg : decode cc pc = .ok (.invokestatic index, 3)) (hcs : cells + mc ≤ R.cells ∧ slots + ms ≤ R.slots)
    (kk : ∀ (H1 : Heap) (locs1 : List Loc), MOK E M' H1 → va_S (eA E) s.heap H1 locs1 → W p l e R s m args below meth c H1 locs1 (cells + mc) (slots + ms) Q (F0 m (pc + 3) ls (x :: rest))) : W p l e R s m args below meth c H locs cells slots Q (F0 m pc ls st0) :=
  kk_run (vx_runSW (As := As) (rest := rest) hC hMet (vx_cwSW n hC.2.2.2.2 hw rfl hr.1 hr.2.1 hd ⟨hr.2.2.1, hr.2.2.2⟩) ⟨cPc.blind, cPc.pre hE hS hM⟩ rfl hn hsz hst (lv_room h8) hdg hcs) hS kk
end LR
/-! the words of the methods with tables -/
theorem qz_L_load : (Cond.codeWith yL_load cL_load 4 (some .int) [(6, 11, 12, 34), (6, 11, 16, 36)]) ∈ lw_G := lw_Gof 553 (by decide +kernel) (by decide +kernel)
theorem qz_L_undone : (Cond.codeWith yL_undone cL_undone 2 (some .int) [(0, 4, 5, 41)]) ∈ lw_G := lw_Gof 597 (by decide +kernel) (by decide +kernel)
theorem qz_L_counted : (Cond.codeWith yL_counted cL_counted 5 (some .int) [(0, 7, 8, 34), (0, 7, 13, 36)]) ∈ lw_G := lw_Gof 610 (by decide +kernel) (by decide +kernel)
theorem qz_L_added : (Cond.codeWith yL_added cL_added 4 (some .int) [(0, 6, 7, 34)]) ∈ lw_G := lw_Gof 647 (by decide +kernel) (by decide +kernel)
theorem qz_L_removed : (Cond.codeWith yL_removed cL_removed 4 (some .int) [(0, 6, 7, 34), (0, 6, 11, 41)]) ∈ lw_G := lw_Gof 664 (by decide +kernel) (by decide +kernel)
theorem qz_L_written : (Cond.codeWith yL_written cL_written 5 (some .int) [(0, 7, 8, 34), (0, 7, 13, 36)]) ∈ lw_G := lw_Gof 674 (by decide +kernel) (by decide +kernel)
theorem qz_L_merged : (Cond.codeWith yL_merged cL_merged 4 (some .int) [(0, 14, 15, 34)]) ∈ lw_G := lw_Gof 692 (by decide +kernel) (by decide +kernel)
theorem qz_L_sent : (Cond.codeWith yL_sent cL_sent 3 (some .int) [(0, 5, 6, 34), (0, 5, 10, 41)]) ∈ lw_G := lw_Gof 709 (by decide +kernel) (by decide +kernel)
theorem qz_L_delivered : (Cond.codeWith yL_delivered cL_delivered 4 (some .int) [(0, 14, 15, 34)]) ∈ lw_G := lw_Gof 718 (by decide +kernel) (by decide +kernel)
theorem qz_L_dropped : (Cond.codeWith yL_dropped cL_dropped 3 (some .int) [(0, 5, 6, 34)]) ∈ lw_G := lw_Gof 730 (by decide +kernel) (by decide +kernel)
theorem qz_L_tagAt : (Cond.codeWith yL_tagAt cL_tagAt 4 (some .int) [(0, 6, 7, 34)]) ∈ lw_G := lw_Gof 1070 (by decide +kernel) (by decide +kernel)
theorem qz_L_discounted : (Cond.codeWith yL_discounted cL_discounted 5 (some .int) [(0, 7, 8, 34), (0, 7, 13, 36)]) ∈ lw_G := lw_Gof 1180 (by decide +kernel) (by decide +kernel)
