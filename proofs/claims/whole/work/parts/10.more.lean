/-! WHAT THE GENERATED WALKS USE -/
def FU : Nat := 1000000
abbrev cK {α : Type} (k b : Nat) (M : Mem) (o : Option α) : Option α := if mK M b = k then o else none
def bnew {γ : Type} (k : Nat) (M : Mem) (g : Nat → Mem → Option γ) : Option γ := g (mZ M) (newO k M)
def bnewa {γ : Type} (k n : Nat) (M : Mem) (g : Nat → Mem → Option γ) : Option γ := g (mZ M) (newA k n M)
theorem obnew {γ : Type} {k : Nat} {M : Mem} {g : Nat → Mem → Option γ} {y : γ} (h : bnew k M g = some y) : ∃ q M1, q = mZ M ∧ M1 = newO k M ∧ g q M1 = some y := ⟨_, _, rfl, rfl, h⟩
theorem obnewa {γ : Type} {k n : Nat} {M : Mem} {g : Nat → Mem → Option γ} {y : γ} (h : bnewa k n M g = some y) : ∃ q M1, q = mZ M ∧ M1 = newA k n M ∧ g q M1 = some y := ⟨_, _, rfl, rfl, h⟩
theorem om {α β : Type} {f : α → β} {o : Option α} {y : β} (h : o.map f = some y) : ∃ a, o = some a ∧ f a = y := by
  cases o with
  | none => cases h
  | some a => exact ⟨a, rfl, Option.some.inj h⟩
def vI (r : Int32 ⊕ Nat) : Option Value ⊕ Nat := match r with
  | .inl x => .inl (some (.int x))
  | .inr e => .inr e
def vU (r : Unit ⊕ Nat) : Option Value ⊕ Nat := match r with
  | .inl _ => .inl none
  | .inr e => .inr e
def vN (r : Nat ⊕ Nat) : Option Value ⊕ Nat := match r with
  | .inl x => .inl (some (.ref x))
  | .inr e => .inr e
def nd (x : UInt64) : Option UInt64 := if x &&& 0x7fffffffffffffff ≤ 0x7ff0000000000000 then some x else none
def nf (x : UInt32) : Option UInt32 := if x &&& 0x7fffffff ≤ 0x7f800000 then some x else none
section KR
variable {p : Program} {l : Launch} {e : Env} {R : Room} {s : State} {m : MethodId} {args : Array Value} {below : List Frame} {meth : Method} {c : Code} {H : Heap} {locs : List Loc} {cells slots : Nat} {Q : State → Prop}
variable {cc : ByteArray} {pc : Nat} {ls : Array Slot} {rest : List Value} {E : KEnv} {M M' : Mem} {own C : String} {nL : Nat}
variable {y : MethodName} {bytes : ByteArray} {maxL mc ms n index : Nat} {ret : Option FieldType} {rm : Room} {b : Nat} {As st0 : List Value} {v : Option Value} {x : Value}

theorem kV0 {ci : Nat} {q : vw_C} (hC : CallFix p m c cc nL s args lw_G own) (hE : EnvOK E s) (hS : va_S (eA E) s.heap H locs) (hM : MOK E M H)
    (hMet : Met l y (Cond.code y bytes maxL ret :: lw_G) rm (cPc E (.ref b :: As) M) (cQ E none M') mc ms (eA E))
    (hw : GoodIn lw_G (wsV own index q.1 y (Cond.code y bytes maxL ret :: lw_G))) (hr : rm.cells = mc ∧ rm.slots = ms ∧ rm.frames + 1 ≤ R.frames ∧ 8 + (maxL + 11) + rm.locals ≤ R.locals)
    (hd : y.cls = q.1 ∧ y.cls ≠ "java/lang/invoke/MethodHandle" ∧ y.cls ≠ "java/lang/invoke/VarHandle" ∧ (parseMethodDescriptor y.desc).map (fun d => d.parameters.length) = some n) (hn : As.length = n)
    (hk : mK M b = ci + 1) (hc : vwCl[ci]? = some q) (hst : st0 = As.reverse ++ .ref b :: rest) (hsz : ls.size = nL) (h8 : (rest.map fun v => v.category).sum ≤ 8) (hdg : decode cc pc = .ok (.invokevirtual index, 3)) (hcs : cells + mc ≤ R.cells ∧ slots + ms ≤ R.slots)
    (kk : ∀ (H1 : Heap) (locs1 : List Loc), MOK E M' H1 → va_S (eA E) s.heap H1 locs1 → W p l e R s m args below meth c H1 locs1 (cells + mc) (slots + ms) Q (F0 m (pc + 3) ls (rest))) : W p l e R s m args below meth c H locs cells slots Q (F0 m pc ls st0) :=
  kV hC hE hS hM hMet hw hr hd hn hk hc hst hsz h8 hdg hcs kk
theorem kV1 {ci : Nat} {q : vw_C} (hC : CallFix p m c cc nL s args lw_G own) (hE : EnvOK E s) (hS : va_S (eA E) s.heap H locs) (hM : MOK E M H)
    (hMet : Met l y (Cond.code y bytes maxL ret :: lw_G) rm (cPc E (.ref b :: As) M) (cQ E (some x) M') mc ms (eA E))
    (hw : GoodIn lw_G (wsV own index q.1 y (Cond.code y bytes maxL ret :: lw_G))) (hr : rm.cells = mc ∧ rm.slots = ms ∧ rm.frames + 1 ≤ R.frames ∧ 8 + (maxL + 11) + rm.locals ≤ R.locals)
    (hd : y.cls = q.1 ∧ y.cls ≠ "java/lang/invoke/MethodHandle" ∧ y.cls ≠ "java/lang/invoke/VarHandle" ∧ (parseMethodDescriptor y.desc).map (fun d => d.parameters.length) = some n) (hn : As.length = n)
    (hk : mK M b = ci + 1) (hc : vwCl[ci]? = some q) (hst : st0 = As.reverse ++ .ref b :: rest) (hsz : ls.size = nL) (h8 : (rest.map fun v => v.category).sum ≤ 8) (hdg : decode cc pc = .ok (.invokevirtual index, 3)) (hcs : cells + mc ≤ R.cells ∧ slots + ms ≤ R.slots)
    (kk : ∀ (H1 : Heap) (locs1 : List Loc), MOK E M' H1 → va_S (eA E) s.heap H1 locs1 → W p l e R s m args below meth c H1 locs1 (cells + mc) (slots + ms) Q (F0 m (pc + 3) ls (x :: rest))) : W p l e R s m args below meth c H locs cells slots Q (F0 m pc ls st0) :=
  kV hC hE hS hM hMet hw hr hd hn hk hc hst hsz h8 hdg hcs kk
theorem kS0 (hC : CallFix p m c cc nL s args lw_G own) (hE : EnvOK E s) (hS : va_S (eA E) s.heap H locs) (hM : MOK E M H)
    (hMet : Met l y (Cond.code y bytes maxL ret :: lw_G) rm (cPc E As M) (cQ E none M') mc ms (eA E))
    (hw : GoodIn lw_G (va_wsS own index y (Cond.code y bytes maxL ret :: lw_G))) (hr : rm.cells = mc ∧ rm.slots = ms ∧ rm.frames + 1 ≤ R.frames ∧ 8 + (maxL + 11) + rm.locals ≤ R.locals)
    (hd : y.cls ≠ "java/lang/invoke/MethodHandle" ∧ y.cls ≠ "java/lang/invoke/VarHandle" ∧ (parseMethodDescriptor y.desc).map (fun d => d.parameters.length) = some n) (hn : As.length = n)
    (hst : st0 = As.reverse ++ rest) (hsz : ls.size = nL) (h8 : (rest.map fun v => v.category).sum ≤ 8) (hdg : decode cc pc = .ok (.invokestatic index, 3)) (hcs : cells + mc ≤ R.cells ∧ slots + ms ≤ R.slots)
    (kk : ∀ (H1 : Heap) (locs1 : List Loc), MOK E M' H1 → va_S (eA E) s.heap H1 locs1 → W p l e R s m args below meth c H1 locs1 (cells + mc) (slots + ms) Q (F0 m (pc + 3) ls (rest))) : W p l e R s m args below meth c H locs cells slots Q (F0 m pc ls st0) :=
  kS hC hE hS hM hMet hw hr hd hn hst hsz h8 hdg hcs kk
theorem kS1 (hC : CallFix p m c cc nL s args lw_G own) (hE : EnvOK E s) (hS : va_S (eA E) s.heap H locs) (hM : MOK E M H)
    (hMet : Met l y (Cond.code y bytes maxL ret :: lw_G) rm (cPc E As M) (cQ E (some x) M') mc ms (eA E))
    (hw : GoodIn lw_G (va_wsS own index y (Cond.code y bytes maxL ret :: lw_G))) (hr : rm.cells = mc ∧ rm.slots = ms ∧ rm.frames + 1 ≤ R.frames ∧ 8 + (maxL + 11) + rm.locals ≤ R.locals)
    (hd : y.cls ≠ "java/lang/invoke/MethodHandle" ∧ y.cls ≠ "java/lang/invoke/VarHandle" ∧ (parseMethodDescriptor y.desc).map (fun d => d.parameters.length) = some n) (hn : As.length = n)
    (hst : st0 = As.reverse ++ rest) (hsz : ls.size = nL) (h8 : (rest.map fun v => v.category).sum ≤ 8) (hdg : decode cc pc = .ok (.invokestatic index, 3)) (hcs : cells + mc ≤ R.cells ∧ slots + ms ≤ R.slots)
    (kk : ∀ (H1 : Heap) (locs1 : List Loc), MOK E M' H1 → va_S (eA E) s.heap H1 locs1 → W p l e R s m args below meth c H1 locs1 (cells + mc) (slots + ms) Q (F0 m (pc + 3) ls (x :: rest))) : W p l e R s m args below meth c H locs cells slots Q (F0 m pc ls st0) :=
  kS hC hE hS hM hMet hw hr hd hn hst hsz h8 hdg hcs kk
theorem kx_ok0 {a : Array Value} (hr : vx_Run p l e R s m args below meth c H locs cells slots mc ms (F0 m pc ls st0) rest (cQx E (.inl none) M' a) (cXx E (.inl none) M') (eA E)) (hS : va_S (eA E) s.heap H locs)
    (kk : ∀ (H1 : Heap) (locs1 : List Loc), MOK E M' H1 → va_S (eA E) s.heap H1 locs1 → W p l e R s m args below meth c H1 locs1 (cells + mc) (slots + ms) Q (F0 m (pc + 3) ls (rest))) : W p l e R s m args below meth c H locs cells slots Q (F0 m pc ls st0) :=
  kx_ok hr hS kk
theorem kx_ok1 {a : Array Value} (hr : vx_Run p l e R s m args below meth c H locs cells slots mc ms (F0 m pc ls st0) rest (cQx E (.inl (some x)) M' a) (cXx E (.inl (some x)) M') (eA E)) (hS : va_S (eA E) s.heap H locs)
    (kk : ∀ (H1 : Heap) (locs1 : List Loc), MOK E M' H1 → va_S (eA E) s.heap H1 locs1 → W p l e R s m args below meth c H1 locs1 (cells + mc) (slots + ms) Q (F0 m (pc + 3) ls (x :: rest))) : W p l e R s m args below meth c H locs cells slots Q (F0 m pc ls st0) :=
  kx_ok hr hS kk
end KR
section NR
variable {p : Program} {l : Launch} {e : Env} {R : Room} {s : State} {m : MethodId} {args : Array Value} {below : List Frame} {meth : Method} {c : Code} {H : Heap} {locs : List Loc} {cells slots : Nat} {Q : State → Prop}
variable {cc : ByteArray} {pc : Nat} {ls : Array Slot} {rest : List Value} {E : KEnv} {M M1 : Mem} {own : String} {index q : Nat}
theorem rn_0 (hx : p.tables.exec = Jvm.exec) (hb : c.code = cc) (hts : ∀ w ∈ lw_G, w.before args s = true) (hown : s.vm.findClass own = some m.cls) (hE : EnvOK E s) (hM : MOK E M H) (hS : va_S (eA E) s.heap H locs) (hcl : Cond.classLink own index RX0 ∈ lw_G) (hinst : Cond.instantiable RX0 3 ∈ lw_G) (hini : Cond.initialized RX0 ∈ lw_G) (eq : q = mZ M) (eM : M1 = newO 1 M) (hcells : cells + 1 ≤ R.cells) (hslots : slots + 3 ≤ R.slots) (hdg : decode cc pc = .ok (.new index, 3))
    (kk : ∀ (H1 : Heap), MOK E M1 H1 → va_S (eA E) s.heap H1 locs → W p l e R s m args below meth c H1 locs (cells + 1) (slots + 3) Q (F0 m (pc + 3) ls (.ref q :: rest))) : W p l e R s m args below meth c H locs cells slots Q (F0 m pc ls rest) := by
  subst eq; subst eM
  refine r_new (ci := 0) tyX0 (fs := [.null, .int 0, .int 0]) hx hb hts inG0 tyX0_ok hown hE hM hS hcl hinst hini rfl (by decide) hcells hslots ?_ hdg kk
  rw [mm_e1 (by simp [newO, mK, va_up])]
  simp [newO, mI, mR, va_rf]
theorem rn_1 (hx : p.tables.exec = Jvm.exec) (hb : c.code = cc) (hts : ∀ w ∈ lw_G, w.before args s = true) (hown : s.vm.findClass own = some m.cls) (hE : EnvOK E s) (hM : MOK E M H) (hS : va_S (eA E) s.heap H locs) (hcl : Cond.classLink own index RX1 ∈ lw_G) (hinst : Cond.instantiable RX1 8 ∈ lw_G) (hini : Cond.initialized RX1 ∈ lw_G) (eq : q = mZ M) (eM : M1 = newO 2 M) (hcells : cells + 1 ≤ R.cells) (hslots : slots + 8 ≤ R.slots) (hdg : decode cc pc = .ok (.new index, 3))
    (kk : ∀ (H1 : Heap), MOK E M1 H1 → va_S (eA E) s.heap H1 locs → W p l e R s m args below meth c H1 locs (cells + 1) (slots + 8) Q (F0 m (pc + 3) ls (.ref q :: rest))) : W p l e R s m args below meth c H locs cells slots Q (F0 m pc ls rest) := by
  subst eq; subst eM
  refine r_new (ci := 1) tyX1 (fs := [.null, .int 0, .null, .int 0, .int 0, .int 0, .int 0, .int 0]) hx hb hts inG1 tyX1_ok hown hE hM hS hcl hinst hini rfl (by decide) hcells hslots ?_ hdg kk
  rw [mm_e2 (by simp [newO, mK, va_up])]
  simp [newO, mI, mR, va_rf]
theorem rn_2 (hx : p.tables.exec = Jvm.exec) (hb : c.code = cc) (hts : ∀ w ∈ lw_G, w.before args s = true) (hown : s.vm.findClass own = some m.cls) (hE : EnvOK E s) (hM : MOK E M H) (hS : va_S (eA E) s.heap H locs) (hcl : Cond.classLink own index RX2 ∈ lw_G) (hinst : Cond.instantiable RX2 1 ∈ lw_G) (hini : Cond.initialized RX2 ∈ lw_G) (eq : q = mZ M) (eM : M1 = newO 3 M) (hcells : cells + 1 ≤ R.cells) (hslots : slots + 1 ≤ R.slots) (hdg : decode cc pc = .ok (.new index, 3))
    (kk : ∀ (H1 : Heap), MOK E M1 H1 → va_S (eA E) s.heap H1 locs → W p l e R s m args below meth c H1 locs (cells + 1) (slots + 1) Q (F0 m (pc + 3) ls (.ref q :: rest))) : W p l e R s m args below meth c H locs cells slots Q (F0 m pc ls rest) := by
  subst eq; subst eM
  refine r_new (ci := 2) tyX2 (fs := [.null]) hx hb hts inG2 tyX2_ok hown hE hM hS hcl hinst hini rfl (by decide) hcells hslots ?_ hdg kk
  rw [mm_e3 (by simp [newO, mK, va_up])]
  simp [newO, mI, mR, va_rf]
theorem rn_3 (hx : p.tables.exec = Jvm.exec) (hb : c.code = cc) (hts : ∀ w ∈ lw_G, w.before args s = true) (hown : s.vm.findClass own = some m.cls) (hE : EnvOK E s) (hM : MOK E M H) (hS : va_S (eA E) s.heap H locs) (hcl : Cond.classLink own index RX3 ∈ lw_G) (hinst : Cond.instantiable RX3 7 ∈ lw_G) (hini : Cond.initialized RX3 ∈ lw_G) (eq : q = mZ M) (eM : M1 = newO 4 M) (hcells : cells + 1 ≤ R.cells) (hslots : slots + 7 ≤ R.slots) (hdg : decode cc pc = .ok (.new index, 3))
    (kk : ∀ (H1 : Heap), MOK E M1 H1 → va_S (eA E) s.heap H1 locs → W p l e R s m args below meth c H1 locs (cells + 1) (slots + 7) Q (F0 m (pc + 3) ls (.ref q :: rest))) : W p l e R s m args below meth c H locs cells slots Q (F0 m pc ls rest) := by
  subst eq; subst eM
  refine r_new (ci := 3) tyX3 (fs := [.int 0, .int 0, .int 0, .int 0, .null, .null, .null]) hx hb hts inG3 tyX3_ok hown hE hM hS hcl hinst hini rfl (by decide) hcells hslots ?_ hdg kk
  rw [mm_e4 (by simp [newO, mK, va_up])]
  simp [newO, mI, mR, va_rf]
theorem rn_4 (hx : p.tables.exec = Jvm.exec) (hb : c.code = cc) (hts : ∀ w ∈ lw_G, w.before args s = true) (hown : s.vm.findClass own = some m.cls) (hE : EnvOK E s) (hM : MOK E M H) (hS : va_S (eA E) s.heap H locs) (hcl : Cond.classLink own index RX4 ∈ lw_G) (hinst : Cond.instantiable RX4 12 ∈ lw_G) (hini : Cond.initialized RX4 ∈ lw_G) (eq : q = mZ M) (eM : M1 = newO 5 M) (hcells : cells + 1 ≤ R.cells) (hslots : slots + 12 ≤ R.slots) (hdg : decode cc pc = .ok (.new index, 3))
    (kk : ∀ (H1 : Heap), MOK E M1 H1 → va_S (eA E) s.heap H1 locs → W p l e R s m args below meth c H1 locs (cells + 1) (slots + 12) Q (F0 m (pc + 3) ls (.ref q :: rest))) : W p l e R s m args below meth c H locs cells slots Q (F0 m pc ls rest) := by
  subst eq; subst eM
  refine r_new (ci := 4) tyX4 (fs := [.null, .int 0, .int 0, .int 0, .null, .int 0, .null, .null, .null, .null, .null, .null]) hx hb hts inG4 tyX4_ok hown hE hM hS hcl hinst hini rfl (by decide) hcells hslots ?_ hdg kk
  rw [mm_e5 (by simp [newO, mK, va_up])]
  simp [newO, mI, mR, va_rf]
theorem rn_5 (hx : p.tables.exec = Jvm.exec) (hb : c.code = cc) (hts : ∀ w ∈ lw_G, w.before args s = true) (hown : s.vm.findClass own = some m.cls) (hE : EnvOK E s) (hM : MOK E M H) (hS : va_S (eA E) s.heap H locs) (hcl : Cond.classLink own index RX5 ∈ lw_G) (hinst : Cond.instantiable RX5 21 ∈ lw_G) (hini : Cond.initialized RX5 ∈ lw_G) (eq : q = mZ M) (eM : M1 = newO 6 M) (hcells : cells + 1 ≤ R.cells) (hslots : slots + 21 ≤ R.slots) (hdg : decode cc pc = .ok (.new index, 3))
    (kk : ∀ (H1 : Heap), MOK E M1 H1 → va_S (eA E) s.heap H1 locs → W p l e R s m args below meth c H1 locs (cells + 1) (slots + 21) Q (F0 m (pc + 3) ls (.ref q :: rest))) : W p l e R s m args below meth c H locs cells slots Q (F0 m pc ls rest) := by
  subst eq; subst eM
  refine r_new (ci := 5) tyX5 (fs := [.null, .int 0, .null, .null, .null, .int 0, .null, .int 0, .null, .int 0, .null, .int 0, .int 0, .int 0, .int 0, .int 0, .int 0, .int 0, .int 0, .int 0, .int 0]) hx hb hts inG5 tyX5_ok hown hE hM hS hcl hinst hini rfl (by decide) hcells hslots ?_ hdg kk
  rw [mm_e6 (by simp [newO, mK, va_up])]
  simp [newO, mI, mR, va_rf]
theorem rna_byte {n : Int32} {N' : Nat} (hx : p.tables.exec = Jvm.exec) (hb : c.code = cc) (hts : ∀ w ∈ lw_G, w.before args s = true) (harr : Cond.arrayClass .byte ∈ lw_G) (hE : EnvOK E s) (hM : MOK E M H) (hS : va_S (eA E) s.heap H locs) (hn : ¬ n < 0) (hN : n.toNatClampNeg = N') (hbytes : N' * 8 ≤ 536870912) (hcells : cells + 1 ≤ R.cells) (hslots : slots + N' ≤ R.slots) (eq : q = mZ M) (eM : M1 = newA 7 N' M) (hdg : decode cc pc = .ok (.newarray .byte, 2))
    (kk : ∀ (H1 : Heap), MOK E M1 H1 → va_S (eA E) s.heap H1 locs → W p l e R s m args below meth c H1 locs (cells + 1) (slots + N') Q (F0 m (pc + 2) ls (.ref q :: rest))) : W p l e R s m args below meth c H locs cells slots Q (F0 m pc ls (.int n :: rest)) := by
  subst eq; subst eM
  refine r_newa (atype := .byte) (k := 7) (t := 0) (x := (fun _ => (N', .inl (fun _ => 0)))) hx hb hts harr hE hM hS rfl (by intro c h; cases h) hn hN (Nat.le_trans (Nat.mul_le_mul_left _ (by decide : componentBytes .byte ≤ 8)) hbytes) hcells hslots (fun _ => rfl) ?_ hdg kk
  rw [mm_e7 (by simp [newA, mK, va_up])]
  simp [newA, mN, mA, mL, va_up]
theorem rna_char {n : Int32} {N' : Nat} (hx : p.tables.exec = Jvm.exec) (hb : c.code = cc) (hts : ∀ w ∈ lw_G, w.before args s = true) (harr : Cond.arrayClass .char ∈ lw_G) (hE : EnvOK E s) (hM : MOK E M H) (hS : va_S (eA E) s.heap H locs) (hn : ¬ n < 0) (hN : n.toNatClampNeg = N') (hbytes : N' * 8 ≤ 536870912) (hcells : cells + 1 ≤ R.cells) (hslots : slots + N' ≤ R.slots) (eq : q = mZ M) (eM : M1 = newA 8 N' M) (hdg : decode cc pc = .ok (.newarray .char, 2))
    (kk : ∀ (H1 : Heap), MOK E M1 H1 → va_S (eA E) s.heap H1 locs → W p l e R s m args below meth c H1 locs (cells + 1) (slots + N') Q (F0 m (pc + 2) ls (.ref q :: rest))) : W p l e R s m args below meth c H locs cells slots Q (F0 m pc ls (.int n :: rest)) := by
  subst eq; subst eM
  refine r_newa (atype := .char) (k := 8) (t := 1) (x := (fun _ => (N', .inl (fun _ => 0)))) hx hb hts harr hE hM hS rfl (by intro c h; cases h) hn hN (Nat.le_trans (Nat.mul_le_mul_left _ (by decide : componentBytes .char ≤ 8)) hbytes) hcells hslots (fun _ => rfl) ?_ hdg kk
  rw [mm_e8 (by simp [newA, mK, va_up])]
  simp [newA, mN, mA, mL, va_up]
theorem rna_int {n : Int32} {N' : Nat} (hx : p.tables.exec = Jvm.exec) (hb : c.code = cc) (hts : ∀ w ∈ lw_G, w.before args s = true) (harr : Cond.arrayClass .int ∈ lw_G) (hE : EnvOK E s) (hM : MOK E M H) (hS : va_S (eA E) s.heap H locs) (hn : ¬ n < 0) (hN : n.toNatClampNeg = N') (hbytes : N' * 8 ≤ 536870912) (hcells : cells + 1 ≤ R.cells) (hslots : slots + N' ≤ R.slots) (eq : q = mZ M) (eM : M1 = newA 9 N' M) (hdg : decode cc pc = .ok (.newarray .int, 2))
    (kk : ∀ (H1 : Heap), MOK E M1 H1 → va_S (eA E) s.heap H1 locs → W p l e R s m args below meth c H1 locs (cells + 1) (slots + N') Q (F0 m (pc + 2) ls (.ref q :: rest))) : W p l e R s m args below meth c H locs cells slots Q (F0 m pc ls (.int n :: rest)) := by
  subst eq; subst eM
  refine r_newa (atype := .int) (k := 9) (t := 2) (x := (fun _ => (N', .inl (fun _ => 0)))) hx hb hts harr hE hM hS rfl (by intro c h; cases h) hn hN (Nat.le_trans (Nat.mul_le_mul_left _ (by decide : componentBytes .int ≤ 8)) hbytes) hcells hslots (fun _ => rfl) ?_ hdg kk
  rw [mm_e9 (by simp [newA, mK, va_up])]
  simp [newA, mN, mA, mL, va_up]
theorem rna_long {n : Int32} {N' : Nat} (hx : p.tables.exec = Jvm.exec) (hb : c.code = cc) (hts : ∀ w ∈ lw_G, w.before args s = true) (harr : Cond.arrayClass .long ∈ lw_G) (hE : EnvOK E s) (hM : MOK E M H) (hS : va_S (eA E) s.heap H locs) (hn : ¬ n < 0) (hN : n.toNatClampNeg = N') (hbytes : N' * 8 ≤ 536870912) (hcells : cells + 1 ≤ R.cells) (hslots : slots + N' ≤ R.slots) (eq : q = mZ M) (eM : M1 = newA 12 N' M) (hdg : decode cc pc = .ok (.newarray .long, 2))
    (kk : ∀ (H1 : Heap), MOK E M1 H1 → va_S (eA E) s.heap H1 locs → W p l e R s m args below meth c H1 locs (cells + 1) (slots + N') Q (F0 m (pc + 2) ls (.ref q :: rest))) : W p l e R s m args below meth c H locs cells slots Q (F0 m pc ls (.int n :: rest)) := by
  subst eq; subst eM
  refine r_newa (atype := .long) (k := 12) (t := 5) (x := (fun _ => (N', .inr (.inl (fun _ => 0))))) hx hb hts harr hE hM hS rfl (by intro c h; cases h) hn hN (Nat.le_trans (Nat.mul_le_mul_left _ (by decide : componentBytes .long ≤ 8)) hbytes) hcells hslots (fun _ => rfl) ?_ hdg kk
  rw [mm_e12 (by simp [newA, mK, va_up])]
  simp [newA, mN, mA, mL, va_up]
theorem rna_S {n : Int32} {N' : Nat} (hx : p.tables.exec = Jvm.exec) (hb : c.code = cc) (hts : ∀ w ∈ lw_G, w.before args s = true) (hown : s.vm.findClass own = some m.cls) (hcl : Cond.classLink own index "OfflineNotes$State" ∈ lw_G) (hE : EnvOK E s) (hM : MOK E M H) (hS : va_S (eA E) s.heap H locs) (hn : ¬ n < 0) (hN : n.toNatClampNeg = N') (hbytes : N' * 4 ≤ 536870912) (hcells : cells + 1 ≤ R.cells) (hslots : slots + N' ≤ R.slots) (eq : q = mZ M) (eM : M1 = newA 10 N' M) (hdg : decode cc pc = .ok (.anewarray index, 3))
    (kk : ∀ (H1 : Heap), MOK E M1 H1 → va_S (eA E) s.heap H1 locs → W p l e R s m args below meth c H1 locs (cells + 1) (slots + N') Q (F0 m (pc + 3) ls (.ref q :: rest))) : W p l e R s m args below meth c H locs cells slots Q (F0 m pc ls (.int n :: rest)) := by
  subst eq; subst eM
  refine r_newq (k := 10) (t := 3) hx hb hts hown hcl (by decide) hE hM hS rfl hn hN hbytes hcells hslots ?_ hdg kk
  rw [mm_e10 (by simp [newA, mK, va_up])]
  simp [newA, mN, mB, va_up]
theorem rna_W {n : Int32} {N' : Nat} (hx : p.tables.exec = Jvm.exec) (hb : c.code = cc) (hts : ∀ w ∈ lw_G, w.before args s = true) (hown : s.vm.findClass own = some m.cls) (hcl : Cond.classLink own index "OfflineNotes$World" ∈ lw_G) (hE : EnvOK E s) (hM : MOK E M H) (hS : va_S (eA E) s.heap H locs) (hn : ¬ n < 0) (hN : n.toNatClampNeg = N') (hbytes : N' * 4 ≤ 536870912) (hcells : cells + 1 ≤ R.cells) (hslots : slots + N' ≤ R.slots) (eq : q = mZ M) (eM : M1 = newA 11 N' M) (hdg : decode cc pc = .ok (.anewarray index, 3))
    (kk : ∀ (H1 : Heap), MOK E M1 H1 → va_S (eA E) s.heap H1 locs → W p l e R s m args below meth c H1 locs (cells + 1) (slots + N') Q (F0 m (pc + 3) ls (.ref q :: rest))) : W p l e R s m args below meth c H locs cells slots Q (F0 m pc ls (.int n :: rest)) := by
  subst eq; subst eM
  refine r_newq (k := 11) (t := 4) hx hb hts hown hcl (by decide) hE hM hS rfl hn hN hbytes hcells hslots ?_ hdg kk
  rw [mm_e11 (by simp [newA, mK, va_up])]
  simp [newA, mN, mB, va_up]
theorem oInit {a idx : Nat} (hx : p.tables.exec = Jvm.exec) (hb : c.code = cc) (hown : s.vm.findClass own = some m.cls) (hlink : (Cond.methodLink own idx Lib.objectInit).before args s = true) (hinst : (Cond.instanceMethod Lib.objectInit).before args s = true) (hcode : (Cond.code Lib.objectInit ⟨#[0xb1]⟩ 1 none).before args s = true) (hsize : ls.size = c.maxLocals) (hd : decode cc pc = .ok (.invokespecial idx, 3)) (hframes : 1 ≤ R.frames) (hlocals : (rest.map fun v => v.category).sum + 12 ≤ R.locals)
    (kk : W p l e R s m args below meth c H locs cells slots Q (F0 m (pc + 3) ls rest)) : W p l e R s m args below meth c H locs cells slots Q (F0 m pc ls (.ref a :: rest)) :=
  W.objInit hx hb hown hlink hinst hcode (g := F0 m pc ls (.ref a :: rest)) rfl hsize rfl hd hframes (by show 2 * 0 + _ + 12 ≤ _; omega) kk
end NR
