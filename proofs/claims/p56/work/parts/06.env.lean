/-! WHAT HOLDS OF THE RUN: the launch's tables and constants; contracts; calls and ends over the functional memory -/
abbrev KEnv : Type := va_G × (Nat → ClassId) × (Nat → Nat) × (Nat → Nat) × Nat
abbrev eD (E : KEnv) : va_G := E.1
abbrev eC (E : KEnv) : Nat → ClassId := E.2.1
abbrev eS (E : KEnv) : Nat → Nat := E.2.2.1
abbrev eV (E : KEnv) : Nat → Nat := E.2.2.2.1
abbrev eB (E : KEnv) : Nat := E.2.2.2.2
def eA (E : KEnv) : Nat → Prop := fun q => eB E ≤ q
/-- the memory holds, and the next address lies behind the beginning -/
def MOK (E : KEnv) (M : Mem) (H : Heap) : Prop := Mok (eD E) (eC E) (eB E) M H ∧ eB E ≤ mZ M
/-- words that are no list's own: each with its own way through a call -/
abbrev lw_cast : List (String × String) := [("java/lang/IllegalStateException", "java/lang/IllegalStateException"), ("java/lang/IndexOutOfBoundsException", "java/lang/IndexOutOfBoundsException"), ("java/lang/IllegalArgumentException", "java/lang/IllegalArgumentException"), ("[B", "java/lang/Cloneable")]
abbrev lw_decl : List MethodName := [⟨"java/lang/RuntimeException", "<init>", "(Ljava/lang/String;)V"⟩, ⟨"java/lang/Exception", "<init>", "(Ljava/lang/String;)V"⟩, ⟨"java/lang/Throwable", "<init>", "(Ljava/lang/String;)V"⟩]
abbrev lw_nest : List (String × Nat × MethodName × String) := [(RX3, 37, yX2_init, RX4), (RX4, 38, yX0_init, RX4), (RX4, 49, yX2_init, RX4)]
abbrev lw_over : List String := ["OfflineNotes$State", "OfflineNotes$World"]
abbrev lw_nc : List (String × String) := [("java/lang/IllegalArgumentException", "java/lang/IndexOutOfBoundsException"), ("java/lang/IllegalStateException", "java/lang/IndexOutOfBoundsException")]
/-- the text constants: those whose letters are read come first -/
abbrev sST : List (String × Nat × String) := [(RX4, 59, "replicas 3 2 1; inc 0 0 5; dec 1 0 2; add 0 a; add 1 b; send 0; merge 1 0; remove 1 a; add 0 a; write 0 0 7; write 2 0 9; add 2 c"), (RX1, 51, "replicas"), (RX1, 74, "inc"), (RX1, 81, "dec"), (RX1, 83, "add"), (RX1, 88, "remove"), (RX1, 93, "write"), (RX1, 98, "merge"), (RX1, 103, "send"), (RX1, 108, "deliver"), (RL, 80, "replicas "), (RL, 96, ";merge "), (RL, 101, " 0"), (RL, 107, ";inc "), (RL, 109, " "), (RL, 111, ";merge 0 "), (RL, 113, ";write "), (RL, 115, ";add "), (RX4, 82, "the input buffer is full"), (RX4, 93, "the length is out of range"), (RX4, 100, "the text has an error"), (RX4, 298, "no such replica"), (RX4, 300, "no such counter"), (RX4, 175, "no such tag"), (RX4, 302, "no such register"), (RX4, 304, "no such message"), (RX4, 235, "the amount is out of range"), (RX4, 249, "the tag is not present"), (RX4, 254, "the value is out of range"), (RX4, 266, "there are too many messages"), (RX4, 306, "no such slot"), (RX4, 277, "nothing is saved in the slot"), (RX4, 284, "there is no change to undo")]
def sBYT : List (List Int32) := (sST.take 18).map (fun q => q.2.2.toList.map (fun ch => Int32.ofNat ch.toNat))
def sLEN : List Nat := sBYT.map List.length
/-- the text constants whose letters are read: object, coder, letters -/
def jSt (E : KEnv) (U : State) (H : Heap) : Prop := ∀ i : Nat, i < 18 → va_O "java/lang/String" (eS E i) (eA E) U H ∧ va_OF "java/lang/String" "coder" "B" (.int 0) (eS E i) (eA E) U H ∧ va_OF "java/lang/String" "value" "[B" (.ref (eV E i)) (eS E i) (eA E) U H ∧ va_T .byte (eV E i) (sLEN.getD i 0) (fun j => .int ((sBYT.getD i []).getD j 0)) (eA E) U H
theorem jSt.moved {E : KEnv} {s U : State} {H : Heap} (hvm : s.vm.Alike U.vm) (h : jSt E s H) : jSt E U H := fun i hi => ⟨va_O.moved hvm (h i hi).1, va_OF.moved hvm (h i hi).2.1, va_OF.moved hvm (h i hi).2.2.1, va_T.moved hvm (h i hi).2.2.2⟩
theorem jSt.kept {E : KEnv} {s : State} {H H' : Heap} (h : jSt E s H) (hq : ∀ a : Nat, a < H.size → ¬ eA E a → H'[a]? = H[a]?) : jSt E s H' := fun i hi => ⟨va_O.kept (h i hi).1 hq, va_OF.kept (h i hi).2.1 hq, va_OF.kept (h i hi).2.2.1 hq, va_T.kept (h i hi).2.2.2 hq⟩
theorem jSt.recv {E : KEnv} {s : State} {H : Heap} {locs : List Loc} {i : Nat} (h : jSt E s s.heap) (hi : i < 18) (hS : va_S (eA E) s.heap H locs) : ∃ cell : Cell, H[eS E i]? = some cell ∧ cell.vm.isStatics = false ∧ s.vm.findClass "java/lang/String" = some cell.cls := va_Orecv (h i hi).1 hS
/-- the two tables of digits -/
def dgN (i : Nat) : String := if i = 0 then "DigitOnes" else "DigitTens"
def dgV (i j : Nat) : Int32 := if i = 0 then nI (48 + j % 10) else nI (48 + j / 10)
def jDg (E : KEnv) (U : State) (H : Heap) : Prop := ∀ i : Nat, i < 2 → va_Z "java/lang/Integer" (dgN i) "[B" (.ref (eV E (100 + i))) (eA E) U H ∧ va_T .byte (eV E (100 + i)) 100 (fun j => .int (dgV i j)) (eA E) U H
theorem jDg.moved {E : KEnv} {s U : State} {H : Heap} (hvm : s.vm.Alike U.vm) (h : jDg E s H) : jDg E U H := fun i hi => ⟨va_Z.moved hvm (h i hi).1, va_T.moved hvm (h i hi).2⟩
theorem jDg.kept {E : KEnv} {s : State} {H H' : Heap} (h : jDg E s H) (hq : ∀ a : Nat, a < H.size → ¬ eA E a → H'[a]? = H[a]?) : jDg E s H' := fun i hi => ⟨va_Z.kept (h i hi).1 hq, va_T.kept (h i hi).2 hq⟩
def EnvOK (E : KEnv) (U : State) : Prop :=
  va_K (eD E) vwCl (vtys (eC E)) U ∧ jSt E U U.heap ∧ (∀ (i : Nat) (q : String × Nat × String), sST[i]? = some q → vk_R q.1 q.2.1 q.2.2 (eS E i) U) ∧
  vx_Zq Bundle.tN "UNASSIGNED_STACK" Bundle.steD (eA E) U U.heap ∧ vx_Zq Bundle.tN "SUPPRESSED_SENTINEL" Bundle.listD (eA E) U U.heap ∧
  va_Z "java/lang/String" "COMPACT_STRINGS" "Z" (.int 1) (eA E) U U.heap ∧ va_Zq "jdk/internal/util/Preconditions" "SIOOBE_FORMATTER" "Ljava/util/function/BiFunction;" (eA E) U U.heap ∧
  (∀ q ∈ lw_cast, va_Nw (.castable q.1 q.2) U) ∧ (∀ x ∈ lw_decl, va_Nw (.declares x) U) ∧ (∀ q ∈ lw_nest, va_Nw (.methodLinkNest q.1 q.2.1 q.2.2.1 q.2.2.2) U) ∧ (∀ C ∈ lw_over, va_AO C U) ∧ (∀ q ∈ lw_nc, va_Nc q.1 q.2 U) ∧ jDg E U U.heap
theorem EnvOK.pass {E : KEnv} {s U : State} {locs : List Loc} (h : EnvOK E s) (hS : va_S (eA E) s.heap U.heap locs) (hW : s.WarmedH U.vm) : EnvOK E U := by
  obtain ⟨h1, h2, h3, h4, h5, h6, h7, h8, h9, h10, h11, h12, h13⟩ := h
  have hk := hS.2.1
  exact ⟨h1.moved hW.alike, (jSt.moved hW.alike h2).kept hk, fun i q hq => (h3 i q hq).warm hW, (h4.moved hW.alike).kept hk, (h5.moved hW.alike).kept hk, (va_Z.moved hW.alike h6).kept hk, (va_Zq.moved hW.alike h7).kept hk,
    fun q hq => (h8 q hq).warmC hW, fun q hq => (h9 q hq).warmD hW, fun q hq => (h10 q hq).warmM hW, fun q hq => (h11 q hq).moved hW.alike, fun q hq => (h12 q hq).moved hW.alike, (jDg.moved hW.alike h13).kept hk⟩
theorem EnvOK.blind {E : KEnv} {U : State} (g : JFrame) (mk : MethodId) (a : Array Value) (h : EnvOK E U) : EnvOK E (U.calling g mk a) := by
  obtain ⟨h1, h2, h3, h4, h5, h6, h7, h8, h9, h10, h11, h12, h13⟩ := h
  have hv : U.vm.Alike (U.calling g mk a).vm := Vm.Alike.refl U.vm
  exact ⟨h1.moved hv, jSt.moved hv h2, fun i q hq => vk_R.same rfl (h3 i q hq), h4.moved hv, h5.moved hv, va_Z.moved hv h6, va_Zq.moved hv h7,
    fun q hq => va_Nw.same rfl rfl (h8 q hq), fun q hq => va_Nw.same rfl rfl (h9 q hq), fun q hq => va_Nw.same rfl rfl (h10 q hq), fun q hq => (h11 q hq).moved hv, fun q hq => (h12 q hq).moved hv, jDg.moved hv h13⟩
/-- a contract's start: the arguments, the run, the memory -/
def cPc (E : KEnv) (av : List Value) (M : Mem) : Array Value → State → Prop := va_Pc av (fun U => EnvOK E U ∧ MOK E M U.heap)
/-- its end: the answer, the memory -/
def cQ (E : KEnv) (v : Option Value) (M' : Mem) : Array Value → State → Outcome → State → Prop := fun _ st o t => o = .returned v ∧ MOK E M' t.heap ∧ va_F (eA E) st t
def exN (e : Nat) : String := if e = 0 then "java/lang/IndexOutOfBoundsException" else if e = 1 then "java/lang/IllegalArgumentException" else "java/lang/IllegalStateException"
def cQx (E : KEnv) (r : Option Value ⊕ Nat) (M' : Mem) : Array Value → State → Outcome → State → Prop := fun _ st o t => (∃ v, r = .inl v ∧ o = .returned v) ∧ MOK E M' t.heap ∧ va_F (eA E) st t
def cXx (E : KEnv) (r : Option Value ⊕ Nat) (M' : Mem) : String → State → State → Prop := fun X st t => (∃ e, r = .inr e ∧ X = exN e) ∧ MOK E (setZ M' (mZ M' + 1)) t.heap ∧ va_F (eA E) st t
theorem cPc.blind {E : KEnv} {av : List Value} {M : Mem} : FrameBlind (cPc E av M) := fun a U g mk h => ⟨h.1, h.2.1.blind g mk a, h.2.2⟩
/-- words of a callee among the one list of all -/
theorem gwG {y : MethodName} {bytes : ByteArray} {maxL : Nat} {ret : Option FieldType} (h : Cond.code y bytes maxL ret ∈ lw_G) : GoodIn lw_G (Cond.code y bytes maxL ret :: lw_G) := fun w hw => by
  rcases List.mem_cons.mp hw with e | e
  · rw [e]; exact ⟨h, good_of_word (lw_Ggood _ h)⟩
  · exact ⟨e, good_of_word (lw_Ggood _ e)⟩
theorem gwV {own C : String} {index : Nat} {y : MethodName} {bytes : ByteArray} {maxL : Nat} {ret : Option FieldType} (h1 : Cond.methodLink own index y ∈ lw_G) (h2 : Cond.instanceMethod y ∈ lw_G) (h3 : Cond.selects C y y ∈ lw_G) (h4 : Cond.initialized C ∈ lw_G) (h5 : Cond.code y bytes maxL ret ∈ lw_G) : GoodIn lw_G (wsV own index C y (Cond.code y bytes maxL ret :: lw_G)) := by
  intro w hw
  unfold wsV at hw
  rcases List.mem_append.mp hw with e | e
  · have : w ∈ lw_G := by
      simp only [List.mem_cons, List.not_mem_nil, or_false] at e
      rcases e with e | e | e | e <;> rw [e] <;> assumption
    exact ⟨this, good_of_word (lw_Ggood _ this)⟩
  · exact gwG h5 w e
theorem gwS {own : String} {index : Nat} {y : MethodName} {bytes : ByteArray} {maxL : Nat} {ret : Option FieldType} (h1 : Cond.methodLink own index y ∈ lw_G) (h2 : Cond.static y ∈ lw_G) (h4 : Cond.initialized y.cls ∈ lw_G) (h5 : Cond.code y bytes maxL ret ∈ lw_G) : GoodIn lw_G (va_wsS own index y (Cond.code y bytes maxL ret :: lw_G)) := by
  intro w hw
  unfold va_wsS at hw
  rcases List.mem_append.mp hw with e | e
  · have : w ∈ lw_G := by
      simp only [List.mem_cons, List.not_mem_nil, or_false] at e
      rcases e with e | e | e <;> rw [e] <;> assumption
    exact ⟨this, good_of_word (lw_Ggood _ this)⟩
  · exact gwG h5 w e
section KR
variable {p : Program} {l : Launch} {e : Env} {R : Room} {s : State} {m : MethodId} {args : Array Value} {below : List Frame} {meth : Method} {c : Code} {H : Heap} {locs : List Loc} {cells slots : Nat} {Q : State → Prop}
variable {cc : ByteArray} {pc : Nat} {ls : Array Slot} {rest : List Value} {E : KEnv} {M M' : Mem} {own C : String} {nL : Nat}
variable {y : MethodName} {bytes : ByteArray} {maxL mc ms n index : Nat} {ret : Option FieldType} {rm : Room} {b : Nat} {As st0 : List Value} {v : Option Value} {x : Value}
theorem kk_run {e : Env} {a : Array Value} (hr : va_Run p l e R s m args below meth c H locs cells slots mc ms (F0 m pc ls st0) rest (cQ E v M' a) (eA E)) (hS : va_S (eA E) s.heap H locs)
    (kk : ∀ (H1 : Heap) (locs1 : List Loc), MOK E M' H1 → va_S (eA E) s.heap H1 locs1 → W p l e R s m args below meth c H1 locs1 (cells + mc) (slots + ms) Q (F0 m (pc + 3) ls (v.toList ++ rest))) : W p l e R s m args below meth c H locs cells slots Q (F0 m pc ls st0) := by
  intro T hT X
  obtain ⟨v0, st₀, t, T', L, h0, X', hL, e1, e2, ⟨hv, hb, hF⟩, st⟩ := hr T hT X
  cases hv
  obtain ⟨k1, k2, k3⟩ := vx_keep (A1 := eA E) h0 e1 hS (fun q _ h => h) (fun q h => h) hL hF
  obtain ⟨t2, a1, b1⟩ := kk T'.heap (locs ++ L) (by rw [e1]; exact hb) k3 T' rfl X'
  exact ⟨t2, st t2 a1, b1⟩
theorem kx_run {e : Env} {a : Array Value} {r : Option Value ⊕ Nat} (hr : vx_Run p l e R s m args below meth c H locs cells slots mc ms (F0 m pc ls st0) rest (cQx E r M' a) (cXx E r M') (eA E)) (hS : va_S (eA E) s.heap H locs)
    (kx : ∀ (ex : Nat) (ce : Cell) (q9 : Addr) (H1 : Heap) (locs1 : List Loc), r = .inr ex → MOK E (setZ M' (mZ M' + 1)) H1 → va_S (eA E) s.heap H1 locs1 → H1[q9]? = some ce → ce.vm = .none → s.vm.findClass (exN ex) = some ce.cls → vx_W p l e R s m args below meth c H1 locs1 (cells + mc) (slots + ms) Q (F0 m pc ls rest) q9)
    (kk : ∀ (w : Option Value) (H1 : Heap) (locs1 : List Loc), r = .inl w → MOK E M' H1 → va_S (eA E) s.heap H1 locs1 → W p l e R s m args below meth c H1 locs1 (cells + mc) (slots + ms) Q (F0 m (pc + 3) ls (w.toList ++ rest))) : W p l e R s m args below meth c H locs cells slots Q (F0 m pc ls st0) := by
  intro T hT X
  rcases hr T hT X with ⟨v0, st₀, t, T', L, h0, X', hL, e1, e2, ⟨⟨w, hw, hv⟩, hb, hF⟩, st⟩ | ⟨q, st₀, t, T', L, X0, ce, h0, X', hL, e1, e2, ⟨⟨ex, hex, hX0⟩, hb, hF⟩, hce, hcv, hcl, st⟩
  · cases hv
    obtain ⟨k1, k2, k3⟩ := vx_keep (A1 := eA E) h0 e1 hS (fun q _ h => h) (fun q h => h) hL hF
    obtain ⟨t2, a1, b1⟩ := kk v0 T'.heap (locs ++ L) hw (by rw [e1]; exact hb) k3 T' rfl X'
    exact ⟨t2, st t2 a1, b1⟩
  · obtain ⟨k1, k2, k3⟩ := vx_keep (A1 := eA E) h0 e1 hS (fun q _ h => h) (fun q h => h) hL hF
    subst hX0
    obtain ⟨t2, a1, b1⟩ := kx ex ce q T'.heap (locs ++ L) hex (by rw [e1]; exact hb) k3 (by rw [e1]; exact hce) hcv hcl T' rfl X'
    exact ⟨t2, st.trans a1, b1⟩
end KR
