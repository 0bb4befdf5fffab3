/-! WHAT THE GENERATED WALKS USE -/
def FU : Nat := 1000000
abbrev cK {α : Type} (k b : Nat) (M : Mem) (o : Option α) : Option α := if mK M b = k then o else none
def bnew {γ : Type} (k : Nat) (M : Mem) (g : Nat → Mem → Option γ) : Option γ := g (mZ M) (newO k M)
def bnewb {γ : Type} (n : Int32) (M : Mem) (g : Nat → Mem → Option γ) : Option γ := if ¬ n < 0 ∧ n.toNatClampNeg ≤ 512 then g (mZ M) (newA 7 n.toNatClampNeg M) else none
def bnewa {γ : Type} (k n : Nat) (M : Mem) (g : Nat → Mem → Option γ) : Option γ := g (mZ M) (newA k n M)
theorem obnew {γ : Type} {k : Nat} {M : Mem} {g : Nat → Mem → Option γ} {y : γ} (h : bnew k M g = some y) : ∃ q M1, q = mZ M ∧ M1 = newO k M ∧ g q M1 = some y := ⟨_, _, rfl, rfl, h⟩
theorem obnewa {γ : Type} {k n : Nat} {M : Mem} {g : Nat → Mem → Option γ} {y : γ} (h : bnewa k n M g = some y) : ∃ q M1, q = mZ M ∧ M1 = newA k n M ∧ g q M1 = some y := ⟨_, _, rfl, rfl, h⟩
theorem obnewb {γ : Type} {n : Int32} {M : Mem} {g : Nat → Mem → Option γ} {y : γ} (h : bnewb n M g = some y) : ∃ q M1, (¬ n < 0 ∧ n.toNatClampNeg ≤ 512) ∧ q = mZ M ∧ M1 = newA 7 n.toNatClampNeg M ∧ g q M1 = some y := by
  obtain ⟨h1, h2⟩ := ifg h
  exact ⟨_, _, h1, rfl, rfl, h2⟩
theorem om {α β : Type} {f : α → β} {o : Option α} {y : β} (h : o.map f = some y) : ∃ a, o = some a ∧ f a = y := by
  cases o with
  | none => cases h
  | some a => exact ⟨a, rfl, Option.some.inj h⟩
def vI (r : Int32 ⊕ Nat) : Option Value ⊕ Nat := match r with
  | .inl x => .inl (some (.int x))
  | .inr e => .inr e
def vU (r : Unit ⊕ Nat) : Option Value ⊕ Nat := match r with
  | .inl _ => .inl none
  | .inr e => .inr e
def vN (r : Nat ⊕ Nat) : Option Value ⊕ Nat := match r with
  | .inl x => .inl (some (.ref x))
  | .inr e => .inr e
def nd (x : UInt64) : Option UInt64 := if x &&& 0x7fffffffffffffff ≤ 0x7ff0000000000000 then some x else none
def nf (x : UInt32) : Option UInt32 := if x &&& 0x7fffffff ≤ 0x7f800000 then some x else none
section KR
variable {p : Program} {l : Launch} {e : Env} {R : Room} {s : State} {m : MethodId} {args : Array Value} {below : List Frame} {meth : Method} {c : Code} {H : Heap} {locs : List Loc} {cells slots : Nat} {Q : State → Prop}
variable {cc : ByteArray} {pc : Nat} {ls : Array Slot} {rest : List Value} {E : KEnv} {M M' : Mem} {own C : String} {nL : Nat}
variable {y : MethodName} {bytes : ByteArray} {maxL mc ms n index : Nat} {ret : Option FieldType} {rm : Room} {b : Nat} {As st0 : List Value} {v : Option Value} {x : Value}

theorem kV0 {ci : Nat} {q : vw_C} (hC : CallFix p m c cc nL s args lw_G own) (hE : EnvOK E s) (hS : va_S (eA E) s.heap H locs) (hM : MOK E M H)
    (hMet : Met l y (Cond.code y bytes maxL ret :: lw_G) rm (cPc E (.ref b :: As) M) (cQ E none M') mc ms (eA E))
    (hw : GoodIn lw_G (wsV own index q.1 y (Cond.code y bytes maxL ret :: lw_G))) (hr : rm.cells = mc ∧ rm.slots = ms ∧ rm.frames + 1 ≤ R.frames ∧ 8 + (maxL + 11) + rm.locals ≤ R.locals)
    (hd : y.cls = q.1 ∧ y.cls ≠ "java/lang/invoke/MethodHandle" ∧ y.cls ≠ "java/lang/invoke/VarHandle" ∧ (parseMethodDescriptor y.desc).map (fun d => d.parameters.length) = some n) (hn : As.length = n)
    (hk : mK M b = kdO ci) (hc : vwCl[ci]? = some q) (hst : st0 = As.reverse ++ .ref b :: rest) (hsz : ls.size = nL) (h8 : (rest.map fun v => v.category).sum ≤ 8) (hdg : decode cc pc = .ok (.invokevirtual index, 3)) (hcs : cells + mc ≤ R.cells ∧ slots + ms ≤ R.slots)
    (kk : ∀ (H1 : Heap) (locs1 : List Loc), MOK E M' H1 → va_S (eA E) s.heap H1 locs1 → W p l e R s m args below meth c H1 locs1 (cells + mc) (slots + ms) Q (F0 m (pc + 3) ls (rest))) : W p l e R s m args below meth c H locs cells slots Q (F0 m pc ls st0) :=
  kV hC hE hS hM hMet hw hr hd hn hk hc hst hsz h8 hdg hcs kk
theorem kV1 {ci : Nat} {q : vw_C} (hC : CallFix p m c cc nL s args lw_G own) (hE : EnvOK E s) (hS : va_S (eA E) s.heap H locs) (hM : MOK E M H)
    (hMet : Met l y (Cond.code y bytes maxL ret :: lw_G) rm (cPc E (.ref b :: As) M) (cQ E (some x) M') mc ms (eA E))
    (hw : GoodIn lw_G (wsV own index q.1 y (Cond.code y bytes maxL ret :: lw_G))) (hr : rm.cells = mc ∧ rm.slots = ms ∧ rm.frames + 1 ≤ R.frames ∧ 8 + (maxL + 11) + rm.locals ≤ R.locals)
    (hd : y.cls = q.1 ∧ y.cls ≠ "java/lang/invoke/MethodHandle" ∧ y.cls ≠ "java/lang/invoke/VarHandle" ∧ (parseMethodDescriptor y.desc).map (fun d => d.parameters.length) = some n) (hn : As.length = n)
    (hk : mK M b = kdO ci) (hc : vwCl[ci]? = some q) (hst : st0 = As.reverse ++ .ref b :: rest) (hsz : ls.size = nL) (h8 : (rest.map fun v => v.category).sum ≤ 8) (hdg : decode cc pc = .ok (.invokevirtual index, 3)) (hcs : cells + mc ≤ R.cells ∧ slots + ms ≤ R.slots)
    (kk : ∀ (H1 : Heap) (locs1 : List Loc), MOK E M' H1 → va_S (eA E) s.heap H1 locs1 → W p l e R s m args below meth c H1 locs1 (cells + mc) (slots + ms) Q (F0 m (pc + 3) ls (x :: rest))) : W p l e R s m args below meth c H locs cells slots Q (F0 m pc ls st0) :=
  kV hC hE hS hM hMet hw hr hd hn hk hc hst hsz h8 hdg hcs kk
theorem kS0 (hC : CallFix p m c cc nL s args lw_G own) (hE : EnvOK E s) (hS : va_S (eA E) s.heap H locs) (hM : MOK E M H)
    (hMet : Met l y (Cond.code y bytes maxL ret :: lw_G) rm (cPc E As M) (cQ E none M') mc ms (eA E))
    (hw : GoodIn lw_G (va_wsS own index y (Cond.code y bytes maxL ret :: lw_G))) (hr : rm.cells = mc ∧ rm.slots = ms ∧ rm.frames + 1 ≤ R.frames ∧ 8 + (maxL + 11) + rm.locals ≤ R.locals)
    (hd : y.cls ≠ "java/lang/invoke/MethodHandle" ∧ y.cls ≠ "java/lang/invoke/VarHandle" ∧ (parseMethodDescriptor y.desc).map (fun d => d.parameters.length) = some n) (hn : As.length = n)
    (hst : st0 = As.reverse ++ rest) (hsz : ls.size = nL) (h8 : (rest.map fun v => v.category).sum ≤ 8) (hdg : decode cc pc = .ok (.invokestatic index, 3)) (hcs : cells + mc ≤ R.cells ∧ slots + ms ≤ R.slots)
    (kk : ∀ (H1 : Heap) (locs1 : List Loc), MOK E M' H1 → va_S (eA E) s.heap H1 locs1 → W p l e R s m args below meth c H1 locs1 (cells + mc) (slots + ms) Q (F0 m (pc + 3) ls (rest))) : W p l e R s m args below meth c H locs cells slots Q (F0 m pc ls st0) :=
  kS hC hE hS hM hMet hw hr hd hn hst hsz h8 hdg hcs kk
theorem kS1 (hC : CallFix p m c cc nL s args lw_G own) (hE : EnvOK E s) (hS : va_S (eA E) s.heap H locs) (hM : MOK E M H)
    (hMet : Met l y (Cond.code y bytes maxL ret :: lw_G) rm (cPc E As M) (cQ E (some x) M') mc ms (eA E))
    (hw : GoodIn lw_G (va_wsS own index y (Cond.code y bytes maxL ret :: lw_G))) (hr : rm.cells = mc ∧ rm.slots = ms ∧ rm.frames + 1 ≤ R.frames ∧ 8 + (maxL + 11) + rm.locals ≤ R.locals)
    (hd : y.cls ≠ "java/lang/invoke/MethodHandle" ∧ y.cls ≠ "java/lang/invoke/VarHandle" ∧ (parseMethodDescriptor y.desc).map (fun d => d.parameters.length) = some n) (hn : As.length = n)
    (hst : st0 = As.reverse ++ rest) (hsz : ls.size = nL) (h8 : (rest.map fun v => v.category).sum ≤ 8) (hdg : decode cc pc = .ok (.invokestatic index, 3)) (hcs : cells + mc ≤ R.cells ∧ slots + ms ≤ R.slots)
    (kk : ∀ (H1 : Heap) (locs1 : List Loc), MOK E M' H1 → va_S (eA E) s.heap H1 locs1 → W p l e R s m args below meth c H1 locs1 (cells + mc) (slots + ms) Q (F0 m (pc + 3) ls (x :: rest))) : W p l e R s m args below meth c H locs cells slots Q (F0 m pc ls st0) :=
  kS hC hE hS hM hMet hw hr hd hn hst hsz h8 hdg hcs kk
theorem kx_ok0 {a : Array Value} (hr : vx_Run p l e R s m args below meth c H locs cells slots mc ms (F0 m pc ls st0) rest (cQx E (.inl none) M' a) (cXx E (.inl none) M') (eA E)) (hS : va_S (eA E) s.heap H locs)
    (kk : ∀ (H1 : Heap) (locs1 : List Loc), MOK E M' H1 → va_S (eA E) s.heap H1 locs1 → W p l e R s m args below meth c H1 locs1 (cells + mc) (slots + ms) Q (F0 m (pc + 3) ls (rest))) : W p l e R s m args below meth c H locs cells slots Q (F0 m pc ls st0) :=
  kx_ok hr hS kk
theorem kx_ok1 {a : Array Value} (hr : vx_Run p l e R s m args below meth c H locs cells slots mc ms (F0 m pc ls st0) rest (cQx E (.inl (some x)) M' a) (cXx E (.inl (some x)) M') (eA E)) (hS : va_S (eA E) s.heap H locs)
    (kk : ∀ (H1 : Heap) (locs1 : List Loc), MOK E M' H1 → va_S (eA E) s.heap H1 locs1 → W p l e R s m args below meth c H1 locs1 (cells + mc) (slots + ms) Q (F0 m (pc + 3) ls (x :: rest))) : W p l e R s m args below meth c H locs cells slots Q (F0 m pc ls st0) :=
  kx_ok hr hS kk
end KR
section NR
variable {p : Program} {l : Launch} {e : Env} {R : Room} {s : State} {m : MethodId} {args : Array Value} {below : List Frame} {meth : Method} {c : Code} {H : Heap} {locs : List Loc} {cells slots : Nat} {Q : State → Prop}
variable {cc : ByteArray} {pc : Nat} {ls : Array Slot} {rest : List Value} {E : KEnv} {M M1 : Mem} {own : String} {index q : Nat}
theorem rn_0 (hx : p.tables.exec = Jvm.exec) (hb : c.code = cc) (hts : ∀ w ∈ lw_G, w.before args s = true) (hown : s.vm.findClass own = some m.cls) (hE : EnvOK E s) (hM : MOK E M H) (hS : va_S (eA E) s.heap H locs) (hcl : Cond.classLink own index RX0 ∈ lw_G) (hinst : Cond.instantiable RX0 3 ∈ lw_G) (hini : Cond.initialized RX0 ∈ lw_G) (eq : q = mZ M) (eM : M1 = newO 1 M) (hcells : cells + 1 ≤ R.cells) (hslots : slots + 3 ≤ R.slots) (hdg : decode cc pc = .ok (.new index, 3))
    (kk : ∀ (H1 : Heap), MOK E M1 H1 → va_S (eA E) s.heap H1 locs → W p l e R s m args below meth c H1 locs (cells + 1) (slots + 3) Q (F0 m (pc + 3) ls (.ref q :: rest))) : W p l e R s m args below meth c H locs cells slots Q (F0 m pc ls rest) := by
  subst eq; subst eM
  refine r_new (ci := 0) tyX0 (fs := [.null, .int 0, .int 0]) hx hb hts inG0 tyX0_ok hown hE hM hS hcl hinst hini rfl (by decide) hcells hslots ?_ hdg kk
  rw [mm_e1 (by simp [newO, mK, va_up])]
  simp [newO, mI, mR, va_rf]
theorem rn_1 (hx : p.tables.exec = Jvm.exec) (hb : c.code = cc) (hts : ∀ w ∈ lw_G, w.before args s = true) (hown : s.vm.findClass own = some m.cls) (hE : EnvOK E s) (hM : MOK E M H) (hS : va_S (eA E) s.heap H locs) (hcl : Cond.classLink own index RX1 ∈ lw_G) (hinst : Cond.instantiable RX1 8 ∈ lw_G) (hini : Cond.initialized RX1 ∈ lw_G) (eq : q = mZ M) (eM : M1 = newO 2 M) (hcells : cells + 1 ≤ R.cells) (hslots : slots + 8 ≤ R.slots) (hdg : decode cc pc = .ok (.new index, 3))
    (kk : ∀ (H1 : Heap), MOK E M1 H1 → va_S (eA E) s.heap H1 locs → W p l e R s m args below meth c H1 locs (cells + 1) (slots + 8) Q (F0 m (pc + 3) ls (.ref q :: rest))) : W p l e R s m args below meth c H locs cells slots Q (F0 m pc ls rest) := by
  subst eq; subst eM
  refine r_new (ci := 1) tyX1 (fs := [.null, .int 0, .null, .int 0, .int 0, .int 0, .int 0, .int 0]) hx hb hts inG1 tyX1_ok hown hE hM hS hcl hinst hini rfl (by decide) hcells hslots ?_ hdg kk
  rw [mm_e2 (by simp [newO, mK, va_up])]
  simp [newO, mI, mR, va_rf]
theorem rn_2 (hx : p.tables.exec = Jvm.exec) (hb : c.code = cc) (hts : ∀ w ∈ lw_G, w.before args s = true) (hown : s.vm.findClass own = some m.cls) (hE : EnvOK E s) (hM : MOK E M H) (hS : va_S (eA E) s.heap H locs) (hcl : Cond.classLink own index RX2 ∈ lw_G) (hinst : Cond.instantiable RX2 1 ∈ lw_G) (hini : Cond.initialized RX2 ∈ lw_G) (eq : q = mZ M) (eM : M1 = newO 3 M) (hcells : cells + 1 ≤ R.cells) (hslots : slots + 1 ≤ R.slots) (hdg : decode cc pc = .ok (.new index, 3))
    (kk : ∀ (H1 : Heap), MOK E M1 H1 → va_S (eA E) s.heap H1 locs → W p l e R s m args below meth c H1 locs (cells + 1) (slots + 1) Q (F0 m (pc + 3) ls (.ref q :: rest))) : W p l e R s m args below meth c H locs cells slots Q (F0 m pc ls rest) := by
  subst eq; subst eM
  refine r_new (ci := 2) tyX2 (fs := [.null]) hx hb hts inG2 tyX2_ok hown hE hM hS hcl hinst hini rfl (by decide) hcells hslots ?_ hdg kk
  rw [mm_e3 (by simp [newO, mK, va_up])]
  simp [newO, mI, mR, va_rf]
theorem rn_3 (hx : p.tables.exec = Jvm.exec) (hb : c.code = cc) (hts : ∀ w ∈ lw_G, w.before args s = true) (hown : s.vm.findClass own = some m.cls) (hE : EnvOK E s) (hM : MOK E M H) (hS : va_S (eA E) s.heap H locs) (hcl : Cond.classLink own index RX3 ∈ lw_G) (hinst : Cond.instantiable RX3 7 ∈ lw_G) (hini : Cond.initialized RX3 ∈ lw_G) (eq : q = mZ M) (eM : M1 = newO 4 M) (hcells : cells + 1 ≤ R.cells) (hslots : slots + 7 ≤ R.slots) (hdg : decode cc pc = .ok (.new index, 3))
    (kk : ∀ (H1 : Heap), MOK E M1 H1 → va_S (eA E) s.heap H1 locs → W p l e R s m args below meth c H1 locs (cells + 1) (slots + 7) Q (F0 m (pc + 3) ls (.ref q :: rest))) : W p l e R s m args below meth c H locs cells slots Q (F0 m pc ls rest) := by
  subst eq; subst eM
  refine r_new (ci := 3) tyX3 (fs := [.int 0, .int 0, .int 0, .int 0, .null, .null, .null]) hx hb hts inG3 tyX3_ok hown hE hM hS hcl hinst hini rfl (by decide) hcells hslots ?_ hdg kk
  rw [mm_e4 (by simp [newO, mK, va_up])]
  simp [newO, mI, mR, va_rf]
theorem rn_4 (hx : p.tables.exec = Jvm.exec) (hb : c.code = cc) (hts : ∀ w ∈ lw_G, w.before args s = true) (hown : s.vm.findClass own = some m.cls) (hE : EnvOK E s) (hM : MOK E M H) (hS : va_S (eA E) s.heap H locs) (hcl : Cond.classLink own index RX4 ∈ lw_G) (hinst : Cond.instantiable RX4 12 ∈ lw_G) (hini : Cond.initialized RX4 ∈ lw_G) (eq : q = mZ M) (eM : M1 = newO 5 M) (hcells : cells + 1 ≤ R.cells) (hslots : slots + 12 ≤ R.slots) (hdg : decode cc pc = .ok (.new index, 3))
    (kk : ∀ (H1 : Heap), MOK E M1 H1 → va_S (eA E) s.heap H1 locs → W p l e R s m args below meth c H1 locs (cells + 1) (slots + 12) Q (F0 m (pc + 3) ls (.ref q :: rest))) : W p l e R s m args below meth c H locs cells slots Q (F0 m pc ls rest) := by
  subst eq; subst eM
  refine r_new (ci := 4) tyX4 (fs := [.null, .int 0, .int 0, .int 0, .null, .int 0, .null, .null, .null, .null, .null, .null]) hx hb hts inG4 tyX4_ok hown hE hM hS hcl hinst hini rfl (by decide) hcells hslots ?_ hdg kk
  rw [mm_e5 (by simp [newO, mK, va_up])]
  simp [newO, mI, mR, va_rf]
theorem rn_5 (hx : p.tables.exec = Jvm.exec) (hb : c.code = cc) (hts : ∀ w ∈ lw_G, w.before args s = true) (hown : s.vm.findClass own = some m.cls) (hE : EnvOK E s) (hM : MOK E M H) (hS : va_S (eA E) s.heap H locs) (hcl : Cond.classLink own index RJ0 ∈ lw_G) (hinst : Cond.instantiable RJ0 4 ∈ lw_G) (hini : Cond.initialized RJ0 ∈ lw_G) (eq : q = mZ M) (eM : M1 = newO 6 M) (hcells : cells + 1 ≤ R.cells) (hslots : slots + 4 ≤ R.slots) (hdg : decode cc pc = .ok (.new index, 3))
    (kk : ∀ (H1 : Heap), MOK E M1 H1 → va_S (eA E) s.heap H1 locs → W p l e R s m args below meth c H1 locs (cells + 1) (slots + 4) Q (F0 m (pc + 3) ls (.ref q :: rest))) : W p l e R s m args below meth c H locs cells slots Q (F0 m pc ls rest) := by
  subst eq; subst eM
  refine r_new (ci := 5) tyJ0 (fs := [.null, .int 0, .int 0, .int 0]) hx hb hts inG5 tyJ0_ok hown hE hM hS hcl hinst hini rfl (by decide) hcells hslots ?_ hdg kk
  rw [mm_e6 (by simp [newO, mK, va_up])]
  simp [newO, mI, mR, va_rf]
theorem rn_6 (hx : p.tables.exec = Jvm.exec) (hb : c.code = cc) (hts : ∀ w ∈ lw_G, w.before args s = true) (hown : s.vm.findClass own = some m.cls) (hE : EnvOK E s) (hM : MOK E M H) (hS : va_S (eA E) s.heap H locs) (hcl : Cond.classLink own index RJ4 ∈ lw_G) (hinst : Cond.instantiable RJ4 4 ∈ lw_G) (hini : Cond.initialized RJ4 ∈ lw_G) (eq : q = mZ M) (eM : M1 = newO 12 M) (hcells : cells + 1 ≤ R.cells) (hslots : slots + 4 ≤ R.slots) (hdg : decode cc pc = .ok (.new index, 3))
    (kk : ∀ (H1 : Heap), MOK E M1 H1 → va_S (eA E) s.heap H1 locs → W p l e R s m args below meth c H1 locs (cells + 1) (slots + 4) Q (F0 m (pc + 3) ls (.ref q :: rest))) : W p l e R s m args below meth c H locs cells slots Q (F0 m pc ls rest) := by
  subst eq; subst eM
  refine r_new (ci := 6) tyJ4 (fs := [.null, .int 0, .int 0, .int 0]) hx hb hts inG6 tyJ4_ok hown hE hM hS hcl hinst hini rfl (by decide) hcells hslots ?_ hdg kk
  rw [mm_e12 (by simp [newO, mK, va_up])]
  simp [newO, mI, mR, va_rf]
theorem rna_byte {n : Int32} {N' : Nat} (hx : p.tables.exec = Jvm.exec) (hb : c.code = cc) (hts : ∀ w ∈ lw_G, w.before args s = true) (harr : Cond.arrayClass .byte ∈ lw_G) (hE : EnvOK E s) (hM : MOK E M H) (hS : va_S (eA E) s.heap H locs) (hn : ¬ n < 0) (hN : n.toNatClampNeg = N') (hbytes : N' * 8 ≤ 536870912) (hcells : cells + 1 ≤ R.cells) (hslots : slots + N' ≤ R.slots) (eq : q = mZ M) (eM : M1 = newA 7 N' M) (hdg : decode cc pc = .ok (.newarray .byte, 2))
    (kk : ∀ (H1 : Heap), MOK E M1 H1 → va_S (eA E) s.heap H1 locs → W p l e R s m args below meth c H1 locs (cells + 1) (slots + N') Q (F0 m (pc + 2) ls (.ref q :: rest))) : W p l e R s m args below meth c H locs cells slots Q (F0 m pc ls (.int n :: rest)) := by
  subst eq; subst eM
  refine r_newa (atype := .byte) (k := 7) (t := 0) (x := (fun _ => (N', .inl (fun _ => 0)))) hx hb hts harr hE hM hS rfl (by intro c h; cases h) hn hN (Nat.le_trans (Nat.mul_le_mul_left _ (by decide : componentBytes .byte ≤ 8)) hbytes) hcells hslots (fun _ => rfl) ?_ hdg kk
  rw [mm_e7 (by simp [newA, mK, va_up])]
  simp [newA, mN, mA, mL, va_up]
theorem rna_char {n : Int32} {N' : Nat} (hx : p.tables.exec = Jvm.exec) (hb : c.code = cc) (hts : ∀ w ∈ lw_G, w.before args s = true) (harr : Cond.arrayClass .char ∈ lw_G) (hE : EnvOK E s) (hM : MOK E M H) (hS : va_S (eA E) s.heap H locs) (hn : ¬ n < 0) (hN : n.toNatClampNeg = N') (hbytes : N' * 8 ≤ 536870912) (hcells : cells + 1 ≤ R.cells) (hslots : slots + N' ≤ R.slots) (eq : q = mZ M) (eM : M1 = newA 8 N' M) (hdg : decode cc pc = .ok (.newarray .char, 2))
    (kk : ∀ (H1 : Heap), MOK E M1 H1 → va_S (eA E) s.heap H1 locs → W p l e R s m args below meth c H1 locs (cells + 1) (slots + N') Q (F0 m (pc + 2) ls (.ref q :: rest))) : W p l e R s m args below meth c H locs cells slots Q (F0 m pc ls (.int n :: rest)) := by
  subst eq; subst eM
  refine r_newa (atype := .char) (k := 8) (t := 1) (x := (fun _ => (N', .inl (fun _ => 0)))) hx hb hts harr hE hM hS rfl (by intro c h; cases h) hn hN (Nat.le_trans (Nat.mul_le_mul_left _ (by decide : componentBytes .char ≤ 8)) hbytes) hcells hslots (fun _ => rfl) ?_ hdg kk
  rw [mm_e8 (by simp [newA, mK, va_up])]
  simp [newA, mN, mA, mL, va_up]
theorem rna_int {n : Int32} {N' : Nat} (hx : p.tables.exec = Jvm.exec) (hb : c.code = cc) (hts : ∀ w ∈ lw_G, w.before args s = true) (harr : Cond.arrayClass .int ∈ lw_G) (hE : EnvOK E s) (hM : MOK E M H) (hS : va_S (eA E) s.heap H locs) (hn : ¬ n < 0) (hN : n.toNatClampNeg = N') (hbytes : N' * 8 ≤ 536870912) (hcells : cells + 1 ≤ R.cells) (hslots : slots + N' ≤ R.slots) (eq : q = mZ M) (eM : M1 = newA 9 N' M) (hdg : decode cc pc = .ok (.newarray .int, 2))
    (kk : ∀ (H1 : Heap), MOK E M1 H1 → va_S (eA E) s.heap H1 locs → W p l e R s m args below meth c H1 locs (cells + 1) (slots + N') Q (F0 m (pc + 2) ls (.ref q :: rest))) : W p l e R s m args below meth c H locs cells slots Q (F0 m pc ls (.int n :: rest)) := by
  subst eq; subst eM
  refine r_newa (atype := .int) (k := 9) (t := 2) (x := (fun _ => (N', .inl (fun _ => 0)))) hx hb hts harr hE hM hS rfl (by intro c h; cases h) hn hN (Nat.le_trans (Nat.mul_le_mul_left _ (by decide : componentBytes .int ≤ 8)) hbytes) hcells hslots (fun _ => rfl) ?_ hdg kk
  rw [mm_e9 (by simp [newA, mK, va_up])]
  simp [newA, mN, mA, mL, va_up]
theorem rna_S {n : Int32} {N' : Nat} (hx : p.tables.exec = Jvm.exec) (hb : c.code = cc) (hts : ∀ w ∈ lw_G, w.before args s = true) (hown : s.vm.findClass own = some m.cls) (hcl : Cond.classLink own index "OfflineNotes$State" ∈ lw_G) (hE : EnvOK E s) (hM : MOK E M H) (hS : va_S (eA E) s.heap H locs) (hn : ¬ n < 0) (hN : n.toNatClampNeg = N') (hbytes : N' * 4 ≤ 536870912) (hcells : cells + 1 ≤ R.cells) (hslots : slots + N' ≤ R.slots) (eq : q = mZ M) (eM : M1 = newA 10 N' M) (hdg : decode cc pc = .ok (.anewarray index, 3))
    (kk : ∀ (H1 : Heap), MOK E M1 H1 → va_S (eA E) s.heap H1 locs → W p l e R s m args below meth c H1 locs (cells + 1) (slots + N') Q (F0 m (pc + 3) ls (.ref q :: rest))) : W p l e R s m args below meth c H locs cells slots Q (F0 m pc ls (.int n :: rest)) := by
  subst eq; subst eM
  refine r_newq (k := 10) (t := 3) hx hb hts hown hcl (by decide) hE hM hS rfl hn hN hbytes hcells hslots ?_ hdg kk
  rw [mm_e10 (by simp [newA, mK, va_up])]
  simp [newA, mN, mB, va_up]
theorem rna_W {n : Int32} {N' : Nat} (hx : p.tables.exec = Jvm.exec) (hb : c.code = cc) (hts : ∀ w ∈ lw_G, w.before args s = true) (hown : s.vm.findClass own = some m.cls) (hcl : Cond.classLink own index "OfflineNotes$World" ∈ lw_G) (hE : EnvOK E s) (hM : MOK E M H) (hS : va_S (eA E) s.heap H locs) (hn : ¬ n < 0) (hN : n.toNatClampNeg = N') (hbytes : N' * 4 ≤ 536870912) (hcells : cells + 1 ≤ R.cells) (hslots : slots + N' ≤ R.slots) (eq : q = mZ M) (eM : M1 = newA 11 N' M) (hdg : decode cc pc = .ok (.anewarray index, 3))
    (kk : ∀ (H1 : Heap), MOK E M1 H1 → va_S (eA E) s.heap H1 locs → W p l e R s m args below meth c H1 locs (cells + 1) (slots + N') Q (F0 m (pc + 3) ls (.ref q :: rest))) : W p l e R s m args below meth c H locs cells slots Q (F0 m pc ls (.int n :: rest)) := by
  subst eq; subst eM
  refine r_newq (k := 11) (t := 4) hx hb hts hown hcl (by decide) hE hM hS rfl hn hN hbytes hcells hslots ?_ hdg kk
  rw [mm_e11 (by simp [newA, mK, va_up])]
  simp [newA, mN, mB, va_up]
theorem oInit {a idx : Nat} (hx : p.tables.exec = Jvm.exec) (hb : c.code = cc) (hown : s.vm.findClass own = some m.cls) (hlink : (Cond.methodLink own idx Lib.objectInit).before args s = true) (hinst : (Cond.instanceMethod Lib.objectInit).before args s = true) (hcode : (Cond.code Lib.objectInit ⟨#[0xb1]⟩ 1 none).before args s = true) (hsize : ls.size = c.maxLocals) (hd : decode cc pc = .ok (.invokespecial idx, 3)) (hframes : 1 ≤ R.frames) (hlocals : (rest.map fun v => v.category).sum + 12 ≤ R.locals)
    (kk : W p l e R s m args below meth c H locs cells slots Q (F0 m (pc + 3) ls rest)) : W p l e R s m args below meth c H locs cells slots Q (F0 m pc ls (.ref a :: rest)) :=
  W.objInit hx hb hown hlink hinst hcode (g := F0 m pc ls (.ref a :: rest)) rfl hsize rfl hd hframes (by show 2 * 0 + _ + 12 ≤ _; omega) kk
/-- a row of bytes whose length is no literal -/
theorem rna_byteV {n : Int32} (hx : p.tables.exec = Jvm.exec) (hb : c.code = cc) (hts : ∀ w ∈ lw_G, w.before args s = true) (harr : Cond.arrayClass .byte ∈ lw_G) (hE : EnvOK E s) (hM : MOK E M H) (hS : va_S (eA E) s.heap H locs) (hn : ¬ n < 0 ∧ n.toNatClampNeg ≤ 512) (hcells : cells + 1 ≤ R.cells) (hslots : slots + 512 ≤ R.slots) (eq : q = mZ M) (eM : M1 = newA 7 n.toNatClampNeg M) (hdg : decode cc pc = .ok (.newarray .byte, 2))
    (kk : ∀ (H1 : Heap), MOK E M1 H1 → va_S (eA E) s.heap H1 locs → W p l e R s m args below meth c H1 locs (cells + 1) (slots + 512) Q (F0 m (pc + 2) ls (.ref q :: rest))) : W p l e R s m args below meth c H locs cells slots Q (F0 m pc ls (.int n :: rest)) :=
  rna_byte (N' := n.toNatClampNeg) hx hb hts harr hE hM hS hn.1 rfl (by omega) hcells (by omega) eq eM hdg (fun H1 h1 h2 => W.widen (by omega) (by omega) (kk H1 h1 h2))
end NR
theorem st_0 : sST[0]? = some (RX4, 59, "replicas 3 2 1; inc 0 0 5; dec 1 0 2; add 0 a; add 1 b; send 0; merge 1 0; remove 1 a; add 0 a; write 0 0 7; write 2 0 9; add 2 c") := by decide +kernel
theorem sr_0 {E : KEnv} {s : State} (hE : EnvOK E s) : vk_R RX4 59 "replicas 3 2 1; inc 0 0 5; dec 1 0 2; add 0 a; add 1 b; send 0; merge 1 0; remove 1 a; add 0 a; write 0 0 7; write 2 0 9; add 2 c" (eS E 0) s := hE.2.2.1 0 (RX4, 59, "replicas 3 2 1; inc 0 0 5; dec 1 0 2; add 0 a; add 1 b; send 0; merge 1 0; remove 1 a; add 0 a; write 0 0 7; write 2 0 9; add 2 c") st_0
theorem st_1 : sST[1]? = some (RX1, 51, "replicas") := by decide +kernel
theorem sr_1 {E : KEnv} {s : State} (hE : EnvOK E s) : vk_R RX1 51 "replicas" (eS E 1) s := hE.2.2.1 1 (RX1, 51, "replicas") st_1
theorem st_2 : sST[2]? = some (RX1, 74, "inc") := by decide +kernel
theorem sr_2 {E : KEnv} {s : State} (hE : EnvOK E s) : vk_R RX1 74 "inc" (eS E 2) s := hE.2.2.1 2 (RX1, 74, "inc") st_2
theorem st_3 : sST[3]? = some (RX1, 81, "dec") := by decide +kernel
theorem sr_3 {E : KEnv} {s : State} (hE : EnvOK E s) : vk_R RX1 81 "dec" (eS E 3) s := hE.2.2.1 3 (RX1, 81, "dec") st_3
theorem st_4 : sST[4]? = some (RX1, 83, "add") := by decide +kernel
theorem sr_4 {E : KEnv} {s : State} (hE : EnvOK E s) : vk_R RX1 83 "add" (eS E 4) s := hE.2.2.1 4 (RX1, 83, "add") st_4
theorem st_5 : sST[5]? = some (RX1, 88, "remove") := by decide +kernel
theorem sr_5 {E : KEnv} {s : State} (hE : EnvOK E s) : vk_R RX1 88 "remove" (eS E 5) s := hE.2.2.1 5 (RX1, 88, "remove") st_5
theorem st_6 : sST[6]? = some (RX1, 93, "write") := by decide +kernel
theorem sr_6 {E : KEnv} {s : State} (hE : EnvOK E s) : vk_R RX1 93 "write" (eS E 6) s := hE.2.2.1 6 (RX1, 93, "write") st_6
theorem st_7 : sST[7]? = some (RX1, 98, "merge") := by decide +kernel
theorem sr_7 {E : KEnv} {s : State} (hE : EnvOK E s) : vk_R RX1 98 "merge" (eS E 7) s := hE.2.2.1 7 (RX1, 98, "merge") st_7
theorem st_8 : sST[8]? = some (RX1, 103, "send") := by decide +kernel
theorem sr_8 {E : KEnv} {s : State} (hE : EnvOK E s) : vk_R RX1 103 "send" (eS E 8) s := hE.2.2.1 8 (RX1, 103, "send") st_8
theorem st_9 : sST[9]? = some (RX1, 108, "deliver") := by decide +kernel
theorem sr_9 {E : KEnv} {s : State} (hE : EnvOK E s) : vk_R RX1 108 "deliver" (eS E 9) s := hE.2.2.1 9 (RX1, 108, "deliver") st_9
theorem st_10 : sST[10]? = some (RL, 80, "replicas ") := by decide +kernel
theorem sr_10 {E : KEnv} {s : State} (hE : EnvOK E s) : vk_R RL 80 "replicas " (eS E 10) s := hE.2.2.1 10 (RL, 80, "replicas ") st_10
theorem st_11 : sST[11]? = some (RL, 96, ";merge ") := by decide +kernel
theorem sr_11 {E : KEnv} {s : State} (hE : EnvOK E s) : vk_R RL 96 ";merge " (eS E 11) s := hE.2.2.1 11 (RL, 96, ";merge ") st_11
theorem st_12 : sST[12]? = some (RL, 101, " 0") := by decide +kernel
theorem sr_12 {E : KEnv} {s : State} (hE : EnvOK E s) : vk_R RL 101 " 0" (eS E 12) s := hE.2.2.1 12 (RL, 101, " 0") st_12
theorem st_13 : sST[13]? = some (RL, 107, ";inc ") := by decide +kernel
theorem sr_13 {E : KEnv} {s : State} (hE : EnvOK E s) : vk_R RL 107 ";inc " (eS E 13) s := hE.2.2.1 13 (RL, 107, ";inc ") st_13
theorem st_14 : sST[14]? = some (RL, 109, " ") := by decide +kernel
theorem sr_14 {E : KEnv} {s : State} (hE : EnvOK E s) : vk_R RL 109 " " (eS E 14) s := hE.2.2.1 14 (RL, 109, " ") st_14
theorem st_15 : sST[15]? = some (RL, 111, ";merge 0 ") := by decide +kernel
theorem sr_15 {E : KEnv} {s : State} (hE : EnvOK E s) : vk_R RL 111 ";merge 0 " (eS E 15) s := hE.2.2.1 15 (RL, 111, ";merge 0 ") st_15
theorem st_16 : sST[16]? = some (RL, 113, ";write ") := by decide +kernel
theorem sr_16 {E : KEnv} {s : State} (hE : EnvOK E s) : vk_R RL 113 ";write " (eS E 16) s := hE.2.2.1 16 (RL, 113, ";write ") st_16
theorem st_17 : sST[17]? = some (RL, 115, ";add ") := by decide +kernel
theorem sr_17 {E : KEnv} {s : State} (hE : EnvOK E s) : vk_R RL 115 ";add " (eS E 17) s := hE.2.2.1 17 (RL, 115, ";add ") st_17
theorem st_18 : sST[18]? = some (RX4, 82, "the input buffer is full") := by decide +kernel
theorem sr_18 {E : KEnv} {s : State} (hE : EnvOK E s) : vk_R RX4 82 "the input buffer is full" (eS E 18) s := hE.2.2.1 18 (RX4, 82, "the input buffer is full") st_18
theorem st_19 : sST[19]? = some (RX4, 93, "the length is out of range") := by decide +kernel
theorem sr_19 {E : KEnv} {s : State} (hE : EnvOK E s) : vk_R RX4 93 "the length is out of range" (eS E 19) s := hE.2.2.1 19 (RX4, 93, "the length is out of range") st_19
theorem st_20 : sST[20]? = some (RX4, 100, "the text has an error") := by decide +kernel
theorem sr_20 {E : KEnv} {s : State} (hE : EnvOK E s) : vk_R RX4 100 "the text has an error" (eS E 20) s := hE.2.2.1 20 (RX4, 100, "the text has an error") st_20
theorem st_21 : sST[21]? = some (RX4, 298, "no such replica") := by decide +kernel
theorem sr_21 {E : KEnv} {s : State} (hE : EnvOK E s) : vk_R RX4 298 "no such replica" (eS E 21) s := hE.2.2.1 21 (RX4, 298, "no such replica") st_21
theorem st_22 : sST[22]? = some (RX4, 300, "no such counter") := by decide +kernel
theorem sr_22 {E : KEnv} {s : State} (hE : EnvOK E s) : vk_R RX4 300 "no such counter" (eS E 22) s := hE.2.2.1 22 (RX4, 300, "no such counter") st_22
theorem st_23 : sST[23]? = some (RX4, 175, "no such tag") := by decide +kernel
theorem sr_23 {E : KEnv} {s : State} (hE : EnvOK E s) : vk_R RX4 175 "no such tag" (eS E 23) s := hE.2.2.1 23 (RX4, 175, "no such tag") st_23
theorem st_24 : sST[24]? = some (RX4, 302, "no such register") := by decide +kernel
theorem sr_24 {E : KEnv} {s : State} (hE : EnvOK E s) : vk_R RX4 302 "no such register" (eS E 24) s := hE.2.2.1 24 (RX4, 302, "no such register") st_24
theorem st_25 : sST[25]? = some (RX4, 304, "no such message") := by decide +kernel
theorem sr_25 {E : KEnv} {s : State} (hE : EnvOK E s) : vk_R RX4 304 "no such message" (eS E 25) s := hE.2.2.1 25 (RX4, 304, "no such message") st_25
theorem st_26 : sST[26]? = some (RX4, 235, "the amount is out of range") := by decide +kernel
theorem sr_26 {E : KEnv} {s : State} (hE : EnvOK E s) : vk_R RX4 235 "the amount is out of range" (eS E 26) s := hE.2.2.1 26 (RX4, 235, "the amount is out of range") st_26
theorem st_27 : sST[27]? = some (RX4, 249, "the tag is not present") := by decide +kernel
theorem sr_27 {E : KEnv} {s : State} (hE : EnvOK E s) : vk_R RX4 249 "the tag is not present" (eS E 27) s := hE.2.2.1 27 (RX4, 249, "the tag is not present") st_27
theorem st_28 : sST[28]? = some (RX4, 254, "the value is out of range") := by decide +kernel
theorem sr_28 {E : KEnv} {s : State} (hE : EnvOK E s) : vk_R RX4 254 "the value is out of range" (eS E 28) s := hE.2.2.1 28 (RX4, 254, "the value is out of range") st_28
theorem st_29 : sST[29]? = some (RX4, 266, "there are too many messages") := by decide +kernel
theorem sr_29 {E : KEnv} {s : State} (hE : EnvOK E s) : vk_R RX4 266 "there are too many messages" (eS E 29) s := hE.2.2.1 29 (RX4, 266, "there are too many messages") st_29
theorem st_30 : sST[30]? = some (RX4, 306, "no such slot") := by decide +kernel
theorem sr_30 {E : KEnv} {s : State} (hE : EnvOK E s) : vk_R RX4 306 "no such slot" (eS E 30) s := hE.2.2.1 30 (RX4, 306, "no such slot") st_30
theorem st_31 : sST[31]? = some (RX4, 277, "nothing is saved in the slot") := by decide +kernel
theorem sr_31 {E : KEnv} {s : State} (hE : EnvOK E s) : vk_R RX4 277 "nothing is saved in the slot" (eS E 31) s := hE.2.2.1 31 (RX4, 277, "nothing is saved in the slot") st_31
theorem st_32 : sST[32]? = some (RX4, 284, "there is no change to undo") := by decide +kernel
theorem sr_32 {E : KEnv} {s : State} (hE : EnvOK E s) : vk_R RX4 284 "there is no change to undo" (eS E 32) s := hE.2.2.1 32 (RX4, 284, "there is no change to undo") st_32
