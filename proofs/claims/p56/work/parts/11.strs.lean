/-! ROWS for the texts that the law makes, and for what its methods use -/
def gS (i : Nat) : Option Unit := if i < 18 then some () else none
def gz (x : Int32) : Option Unit := if ¬ x = 0 then some () else none
def jChk (a n : Int32) : Option Unit := if ¬ a < 0 ∧ a < n then some () else none
def gN (k a : Nat) (M : Mem) : Option Int32 := if mK M a = k then some (nI (mN M a)) else none
def gD (i : Nat) (k : Int32) : Option Int32 := if i < 2 ∧ ¬ (k < 0 ∨ 100 ≤ k.toNatClampNeg) then some (dgV i k.toNatClampNeg) else none
/-- a number of the script -/
def gX (xs : Nat → Int32) (L : Nat) (i : Int32) : Option Int32 := if ¬ (i < 0 ∨ L ≤ i.toNatClampNeg) then some (xs i.toNatClampNeg) else none
/-- a call that may throw, where it doesn't -/
def bq {α β γ : Type} (o : Option ((α ⊕ Nat) × β)) (g : α → β → Option γ) : Option γ := match o with
  | some (.inl v, M) => g v M
  | _ => none
theorem obq {α β γ : Type} {o : Option ((α ⊕ Nat) × β)} {g : α → β → Option γ} {y : γ} (h : bq o g = some y) : ∃ v M, o = some (.inl v, M) ∧ g v M = some y := by
  cases o with
  | none => cases h
  | some q =>
    obtain ⟨r, M⟩ := q
    cases r with
    | inl v => exact ⟨v, M, rfl, h⟩
    | inr e => cases h
/-- a handler's answer; the exception is one cell -/
def hd1 (e1 : Nat) (v1 : Int32) (ex : Nat) (M : Mem) : Option (Int32 × Mem) := if ex = e1 then some (v1, setZ M (mZ M + 1)) else none
def hd2 (e1 : Nat) (v1 : Int32) (e2 : Nat) (v2 : Int32) (ex : Nat) (M : Mem) : Option (Int32 × Mem) := if ex = e1 then some (v1, setZ M (mZ M + 1)) else if ex = e2 then some (v2, setZ M (mZ M + 1)) else none
/-- System.arraycopy out of a text constant -/
def cpS (i : Nat) (sp : Int32) (dst : Nat) (dp n : Int32) (M : Mem) : Option Mem := if mK M dst = 7 ∧ (i < 18 ∧ ¬ sp < 0 ∧ ¬ dp < 0 ∧ ¬ n < 0) ∧ (sp.toNatClampNeg + n.toNatClampNeg ≤ sLEN.getD i 0 ∧ dp.toNatClampNeg + n.toNatClampNeg ≤ mN M dst) then some (mK M, mN M, mI M, mR M, va_up (mA M) dst (va_cpy (jByt i) (mA M dst) sp.toNatClampNeg dp.toNatClampNeg n.toNatClampNeg), mB M, mL M, mZ M) else none
theorem j_fit : ∀ i, i < 18 → ∀ k, k < sLEN.getD i 0 → fits .byte (.int (jByt i k)) = true := by decide +kernel
theorem t_out {x : Int32} (n : Nat) (hn : n < 2147483648) (h : ∀ k, k < n → ¬ x = nI k) : x.toInt < 0 ∨ (n : Int) - 1 < x.toInt := by
  by_cases h0 : x.toInt < 0
  · exact Or.inl h0
  · refine Or.inr (Int.not_le.mp fun h1 => ?_)
    have h2 : x.toInt.toNat < n := by omega
    refine h _ h2 (Int32.toInt_inj.mp ?_)
    rw [nI_toInt (by omega)]
    omega
theorem t_out3 {x : Int32} (h0 : ¬ x = 0) (h1 : ¬ x = 1) (h2 : ¬ x = 2) : x.toInt < 0 ∨ (2 : Int) < x.toInt := t_out 3 (by decide) (fun k hk => by
  match k, hk with
  | 0, _ => exact h0
  | 1, _ => exact h1
  | 2, _ => exact h2)
theorem t_out8 {x : Int32} (h0 : ¬ x = 0) (h1 : ¬ x = 1) (h2 : ¬ x = 2) (h3 : ¬ x = 3) (h4 : ¬ x = 4) (h5 : ¬ x = 5) (h6 : ¬ x = 6) (h7 : ¬ x = 7) : x.toInt < 0 ∨ (7 : Int) < x.toInt := t_out 8 (by decide) (fun k hk => by
  match k, hk with
  | 0, _ => exact h0
  | 1, _ => exact h1
  | 2, _ => exact h2
  | 3, _ => exact h3
  | 4, _ => exact h4
  | 5, _ => exact h5
  | 6, _ => exact h6
  | 7, _ => exact h7)
theorem gwU {x : MethodName} {own C owner : String} {index : Nat} {y : MethodName} {bytes : ByteArray} {maxL : Nat} {ret : Option FieldType} (h1 : Cond.methodLink own index x ∈ lw_G) (h2 : Cond.sameMethod x.cls owner x.name x.desc ∈ lw_G) (h3 : Cond.selects C x y ∈ lw_G) (h4 : Cond.instanceMethod y ∈ lw_G) (h5 : Cond.initialized y.cls ∈ lw_G) (h6 : Cond.code y bytes maxL ret ∈ lw_G) : GoodIn lw_G (va_wsU own index C owner x y (Cond.code y bytes maxL ret :: lw_G)) := by
  intro w hw
  unfold va_wsU at hw
  rcases List.mem_append.mp hw with e | e
  · have : w ∈ lw_G := by
      simp only [List.mem_cons, List.not_mem_nil, or_false] at e
      rcases e with e | e | e | e | e <;> rw [e] <;> assumption
    exact ⟨this, good_of_word (lw_Ggood _ this)⟩
  · exact gwG h6 w e
theorem gwO {x : MethodName} {own C owner : String} {index : Nat} {y : MethodName} {bytes : ByteArray} {maxL : Nat} {ret : Option FieldType} (h1 : Cond.methodLink own index x ∈ lw_G) (h2 : Cond.sameMethod x.cls owner x.name x.desc ∈ lw_G) (h7 : Cond.instanceMethod ⟨owner, x.name, x.desc⟩ ∈ lw_G) (h3 : Cond.selects C x y ∈ lw_G) (h4 : Cond.instanceMethod y ∈ lw_G) (h5 : Cond.initialized y.cls ∈ lw_G) (h6 : Cond.code y bytes maxL ret ∈ lw_G) : GoodIn lw_G (va_wsO own index C owner x y (Cond.code y bytes maxL ret :: lw_G)) := by
  intro w hw
  unfold va_wsO at hw
  rcases List.mem_append.mp hw with e | e
  · have : w ∈ lw_G := by
      simp only [List.mem_cons, List.not_mem_nil, or_false] at e
      rcases e with e | e | e | e | e | e <;> rw [e] <;> assumption
    exact ⟨this, good_of_word (lw_Ggood _ this)⟩
  · exact gwG h6 w e
theorem gwSU {own : String} {index : Nat} {y : MethodName} {bytes : ByteArray} {maxL : Nat} {ret : Option FieldType} (h1 : Cond.methodLink own index y ∈ lw_G) (h2 : Cond.sameMethod y.cls y.cls y.name y.desc ∈ lw_G) (h3 : Cond.superclass own y.cls ∈ lw_G) (h4 : Cond.instanceMethod y ∈ lw_G) (h5 : Cond.initialized y.cls ∈ lw_G) (h6 : Cond.code y bytes maxL ret ∈ lw_G) : GoodIn lw_G (va_wsSU own index y (Cond.code y bytes maxL ret :: lw_G)) := by
  intro w hw
  unfold va_wsSU at hw
  rcases List.mem_append.mp hw with e | e
  · have : w ∈ lw_G := by
      simp only [List.mem_cons, List.not_mem_nil, or_false] at e
      rcases e with e | e | e | e | e <;> rw [e] <;> assumption
    exact ⟨this, good_of_word (lw_Ggood _ this)⟩
  · exact gwG h6 w e
section TR
variable {p : Program} {l : Launch} {e : Env} {R : Room} {s : State} {m : MethodId} {args : Array Value} {below : List Frame} {meth : Method} {c : Code} {H : Heap} {locs : List Loc} {cells slots : Nat} {Q : State → Prop}
variable {cc : ByteArray} {pc : Nat} {ls : Array Slot} {rest : List Value} {E : KEnv} {M M' : Mem} {own C owner : String} {nL : Nat}
variable {y x : MethodName} {bytes : ByteArray} {maxL mc ms n index : Nat} {ret : Option FieldType} {rm : Room} {b a : Nat} {As st0 : List Value} {v : Option Value}

/-- a method that the class above has, on a StringBuilder -/
theorem kU0 (hC : CallFix p m c cc nL s args lw_G own) (hE : EnvOK E s) (hS : va_S (eA E) s.heap H locs) (hM : MOK E M H)
    (hMet : Met l y (Cond.code y bytes maxL ret :: lw_G) rm (cPc E (.ref b :: As) M) (cQ E none M') mc ms (eA E))
    (hw : GoodIn lw_G (va_wsU own index RJ4 owner x y (Cond.code y bytes maxL ret :: lw_G))) (hyx : y = ⟨owner, x.name, x.desc⟩) (hr : rm.cells = mc ∧ rm.slots = ms ∧ rm.frames + 1 ≤ R.frames ∧ 8 + (maxL + 11) + rm.locals ≤ R.locals)
    (hd : owner ≠ "java/lang/invoke/MethodHandle" ∧ owner ≠ "java/lang/invoke/VarHandle" ∧ (parseMethodDescriptor x.desc).map (fun d => d.parameters.length) = some n) (hn : As.length = n) (hk : mK M b = 12)
    (hst : st0 = As.reverse ++ .ref b :: rest) (hsz : ls.size = nL) (h8 : (rest.map fun v => v.category).sum ≤ 8) (hdg : decode cc pc = .ok (.invokevirtual index, 3)) (hcs : cells + mc ≤ R.cells ∧ slots + ms ≤ R.slots)
    (kk : ∀ (H1 : Heap) (locs1 : List Loc), MOK E M' H1 → va_S (eA E) s.heap H1 locs1 → W p l e R s m args below meth c H1 locs1 (cells + mc) (slots + ms) Q (F0 m (pc + 3) ls (rest))) : W p l e R s m args below meth c H locs cells slots Q (F0 m pc ls st0) :=
  kk_run (va_runU (As := As) (rest := rest) hC hMet (va_cwU n hC.2.2.2.2 hw rfl hr.1 hr.2.1 hyx hd ⟨hr.2.2.1, hr.2.2.2⟩) ⟨cPc.blind, MOK.recv (ci := 6) hE hM hk rfl, cPc.pre hE hS hM⟩ rfl hn hsz hst (lv_room h8) hdg hcs) hS kk
/-- .. that the StringBuilder has of its own -/
theorem kO0 (hC : CallFix p m c cc nL s args lw_G own) (hE : EnvOK E s) (hS : va_S (eA E) s.heap H locs) (hM : MOK E M H)
    (hMet : Met l y (Cond.code y bytes maxL ret :: lw_G) rm (cPc E (.ref b :: As) M) (cQ E none M') mc ms (eA E))
    (hw : GoodIn lw_G (va_wsO own index RJ4 owner x y (Cond.code y bytes maxL ret :: lw_G))) {b0 : ByteArray} {m0 : Nat} {r0 : Option FieldType} (h0 : Cond.code ⟨owner, x.name, x.desc⟩ b0 m0 r0 ∈ lw_G) (hr : rm.cells = mc ∧ rm.slots = ms ∧ rm.frames + 1 ≤ R.frames ∧ 8 + (maxL + 11) + rm.locals ≤ R.locals)
    (hd : owner ≠ "java/lang/invoke/MethodHandle" ∧ owner ≠ "java/lang/invoke/VarHandle" ∧ (parseMethodDescriptor x.desc).map (fun d => d.parameters.length) = some n) (hn : As.length = n) (hk : mK M b = 12)
    (hst : st0 = As.reverse ++ .ref b :: rest) (hsz : ls.size = nL) (h8 : (rest.map fun v => v.category).sum ≤ 8) (hdg : decode cc pc = .ok (.invokevirtual index, 3)) (hcs : cells + mc ≤ R.cells ∧ slots + ms ≤ R.slots)
    (kk : ∀ (H1 : Heap) (locs1 : List Loc), MOK E M' H1 → va_S (eA E) s.heap H1 locs1 → W p l e R s m args below meth c H1 locs1 (cells + mc) (slots + ms) Q (F0 m (pc + 3) ls (rest))) : W p l e R s m args below meth c H locs cells slots Q (F0 m pc ls st0) :=
  kk_run (va_runU (As := As) (rest := rest) hC hMet (va_cwO n hC.2.2.2.2 hw rfl hr.1 hr.2.1 h0 hd ⟨hr.2.2.1, hr.2.2.2⟩) ⟨cPc.blind, MOK.recv (ci := 6) hE hM hk rfl, cPc.pre hE hS hM⟩ rfl hn hsz hst (lv_room h8) hdg hcs) hS kk
/-- super.method(..) on a StringBuilder -/
theorem kSU0 (hC : CallFix p m c cc nL s args lw_G own) (hE : EnvOK E s) (hS : va_S (eA E) s.heap H locs) (hM : MOK E M H)
    (hMet : Met l y (Cond.code y bytes maxL ret :: lw_G) rm (cPc E (.ref b :: As) M) (cQ E none M') mc ms (eA E))
    (hw : GoodIn lw_G (va_wsSU own index y (Cond.code y bytes maxL ret :: lw_G))) (hr : rm.cells = mc ∧ rm.slots = ms ∧ rm.frames + 1 ≤ R.frames ∧ 8 + (maxL + 11) + rm.locals ≤ R.locals)
    (hd : y.name ≠ "<init>" ∧ (parseMethodDescriptor y.desc).map (fun d => d.parameters.length) = some n) (hn : As.length = n) (hk : mK M b = 12)
    (hst : st0 = As.reverse ++ .ref b :: rest) (hsz : ls.size = nL) (h8 : (rest.map fun v => v.category).sum ≤ 8) (hdg : decode cc pc = .ok (.invokespecial index, 3)) (hcs : cells + mc ≤ R.cells ∧ slots + ms ≤ R.slots)
    (kk : ∀ (H1 : Heap) (locs1 : List Loc), MOK E M' H1 → va_S (eA E) s.heap H1 locs1 → W p l e R s m args below meth c H1 locs1 (cells + mc) (slots + ms) Q (F0 m (pc + 3) ls (rest))) : W p l e R s m args below meth c H locs cells slots Q (F0 m pc ls st0) :=
  have hKn := hE.1.1 6 _ rfl
  kk_run (va_runSU (As := As) (rest := rest) ⟨hKn.2.1, hKn.2.2⟩ hC hMet (va_cwSU n hC.2.2.2.2 hw rfl hr.1 hr.2.1 hd ⟨hr.2.2.1, hr.2.2.2⟩) ⟨cPc.blind, MOK.recv (ci := 6) hE hM hk rfl, cPc.pre hE hS hM⟩ rfl hn hsz hst (lv_room h8) hdg hcs) hS kk
/-- a method that the class above has, on a StringBuilder -/
theorem kU1 {v9 : Value} (hC : CallFix p m c cc nL s args lw_G own) (hE : EnvOK E s) (hS : va_S (eA E) s.heap H locs) (hM : MOK E M H)
    (hMet : Met l y (Cond.code y bytes maxL ret :: lw_G) rm (cPc E (.ref b :: As) M) (cQ E (some v9) M') mc ms (eA E))
    (hw : GoodIn lw_G (va_wsU own index RJ4 owner x y (Cond.code y bytes maxL ret :: lw_G))) (hyx : y = ⟨owner, x.name, x.desc⟩) (hr : rm.cells = mc ∧ rm.slots = ms ∧ rm.frames + 1 ≤ R.frames ∧ 8 + (maxL + 11) + rm.locals ≤ R.locals)
    (hd : owner ≠ "java/lang/invoke/MethodHandle" ∧ owner ≠ "java/lang/invoke/VarHandle" ∧ (parseMethodDescriptor x.desc).map (fun d => d.parameters.length) = some n) (hn : As.length = n) (hk : mK M b = 12)
    (hst : st0 = As.reverse ++ .ref b :: rest) (hsz : ls.size = nL) (h8 : (rest.map fun v => v.category).sum ≤ 8) (hdg : decode cc pc = .ok (.invokevirtual index, 3)) (hcs : cells + mc ≤ R.cells ∧ slots + ms ≤ R.slots)
    (kk : ∀ (H1 : Heap) (locs1 : List Loc), MOK E M' H1 → va_S (eA E) s.heap H1 locs1 → W p l e R s m args below meth c H1 locs1 (cells + mc) (slots + ms) Q (F0 m (pc + 3) ls (v9 :: rest))) : W p l e R s m args below meth c H locs cells slots Q (F0 m pc ls st0) :=
  kk_run (va_runU (As := As) (rest := rest) hC hMet (va_cwU n hC.2.2.2.2 hw rfl hr.1 hr.2.1 hyx hd ⟨hr.2.2.1, hr.2.2.2⟩) ⟨cPc.blind, MOK.recv (ci := 6) hE hM hk rfl, cPc.pre hE hS hM⟩ rfl hn hsz hst (lv_room h8) hdg hcs) hS kk
/-- .. that the StringBuilder has of its own -/
theorem kO1 {v9 : Value} (hC : CallFix p m c cc nL s args lw_G own) (hE : EnvOK E s) (hS : va_S (eA E) s.heap H locs) (hM : MOK E M H)
    (hMet : Met l y (Cond.code y bytes maxL ret :: lw_G) rm (cPc E (.ref b :: As) M) (cQ E (some v9) M') mc ms (eA E))
    (hw : GoodIn lw_G (va_wsO own index RJ4 owner x y (Cond.code y bytes maxL ret :: lw_G))) {b0 : ByteArray} {m0 : Nat} {r0 : Option FieldType} (h0 : Cond.code ⟨owner, x.name, x.desc⟩ b0 m0 r0 ∈ lw_G) (hr : rm.cells = mc ∧ rm.slots = ms ∧ rm.frames + 1 ≤ R.frames ∧ 8 + (maxL + 11) + rm.locals ≤ R.locals)
    (hd : owner ≠ "java/lang/invoke/MethodHandle" ∧ owner ≠ "java/lang/invoke/VarHandle" ∧ (parseMethodDescriptor x.desc).map (fun d => d.parameters.length) = some n) (hn : As.length = n) (hk : mK M b = 12)
    (hst : st0 = As.reverse ++ .ref b :: rest) (hsz : ls.size = nL) (h8 : (rest.map fun v => v.category).sum ≤ 8) (hdg : decode cc pc = .ok (.invokevirtual index, 3)) (hcs : cells + mc ≤ R.cells ∧ slots + ms ≤ R.slots)
    (kk : ∀ (H1 : Heap) (locs1 : List Loc), MOK E M' H1 → va_S (eA E) s.heap H1 locs1 → W p l e R s m args below meth c H1 locs1 (cells + mc) (slots + ms) Q (F0 m (pc + 3) ls (v9 :: rest))) : W p l e R s m args below meth c H locs cells slots Q (F0 m pc ls st0) :=
  kk_run (va_runU (As := As) (rest := rest) hC hMet (va_cwO n hC.2.2.2.2 hw rfl hr.1 hr.2.1 h0 hd ⟨hr.2.2.1, hr.2.2.2⟩) ⟨cPc.blind, MOK.recv (ci := 6) hE hM hk rfl, cPc.pre hE hS hM⟩ rfl hn hsz hst (lv_room h8) hdg hcs) hS kk
/-- super.method(..) on a StringBuilder -/
theorem kSU1 {v9 : Value} (hC : CallFix p m c cc nL s args lw_G own) (hE : EnvOK E s) (hS : va_S (eA E) s.heap H locs) (hM : MOK E M H)
    (hMet : Met l y (Cond.code y bytes maxL ret :: lw_G) rm (cPc E (.ref b :: As) M) (cQ E (some v9) M') mc ms (eA E))
    (hw : GoodIn lw_G (va_wsSU own index y (Cond.code y bytes maxL ret :: lw_G))) (hr : rm.cells = mc ∧ rm.slots = ms ∧ rm.frames + 1 ≤ R.frames ∧ 8 + (maxL + 11) + rm.locals ≤ R.locals)
    (hd : y.name ≠ "<init>" ∧ (parseMethodDescriptor y.desc).map (fun d => d.parameters.length) = some n) (hn : As.length = n) (hk : mK M b = 12)
    (hst : st0 = As.reverse ++ .ref b :: rest) (hsz : ls.size = nL) (h8 : (rest.map fun v => v.category).sum ≤ 8) (hdg : decode cc pc = .ok (.invokespecial index, 3)) (hcs : cells + mc ≤ R.cells ∧ slots + ms ≤ R.slots)
    (kk : ∀ (H1 : Heap) (locs1 : List Loc), MOK E M' H1 → va_S (eA E) s.heap H1 locs1 → W p l e R s m args below meth c H1 locs1 (cells + mc) (slots + ms) Q (F0 m (pc + 3) ls (v9 :: rest))) : W p l e R s m args below meth c H locs cells slots Q (F0 m pc ls st0) :=
  have hKn := hE.1.1 6 _ rfl
  kk_run (va_runSU (As := As) (rest := rest) ⟨hKn.2.1, hKn.2.2⟩ hC hMet (va_cwSU n hC.2.2.2.2 hw rfl hr.1 hr.2.1 hd ⟨hr.2.2.1, hr.2.2.2⟩) ⟨cPc.blind, MOK.recv (ci := 6) hE hM hk rfl, cPc.pre hE hS hM⟩ rfl hn hsz hst (lv_room h8) hdg hcs) hS kk
/-- a call on a text constant, without an answer -/
theorem kJ0 {i : Nat} (hC : CallFix p m c cc nL s args lw_G own) (hE : EnvOK E s) (hS : va_S (eA E) s.heap H locs) (hM : MOK E M H) (hi : i < 18)
    (hMet : Met l y (Cond.code y bytes maxL ret :: lw_G) rm (cPc E (.ref (eS E i) :: As) M) (cQ E none M') mc ms (eA E))
    (hw : GoodIn lw_G (wsV own index RJ0 y (Cond.code y bytes maxL ret :: lw_G))) (hr : rm.cells = mc ∧ rm.slots = ms ∧ rm.frames + 1 ≤ R.frames ∧ 8 + (maxL + 11) + rm.locals ≤ R.locals)
    (hd : y.cls = RJ0 ∧ y.cls ≠ "java/lang/invoke/MethodHandle" ∧ y.cls ≠ "java/lang/invoke/VarHandle" ∧ (parseMethodDescriptor y.desc).map (fun d => d.parameters.length) = some n) (hn : As.length = n)
    (hst : st0 = As.reverse ++ .ref (eS E i) :: rest) (hsz : ls.size = nL) (h8 : (rest.map fun v => v.category).sum ≤ 8) (hdg : decode cc pc = .ok (.invokevirtual index, 3)) (hcs : cells + mc ≤ R.cells ∧ slots + ms ≤ R.slots)
    (kk : ∀ (H1 : Heap) (locs1 : List Loc), MOK E M' H1 → va_S (eA E) s.heap H1 locs1 → W p l e R s m args below meth c H1 locs1 (cells + mc) (slots + ms) Q (F0 m (pc + 3) ls (rest))) : W p l e R s m args below meth c H locs cells slots Q (F0 m pc ls st0) :=
  kk_run (va_runV (As := As) (rest := rest) hC hMet (cwV n hC.2.2.2.2 hw rfl hr.1 hr.2.1 hd ⟨hr.2.2.1, hr.2.2.2⟩) ⟨cPc.blind, jSt.recv hE.2.1 hi hS, cPc.pre hE hS hM⟩ rfl hn hsz hst (lv_room h8) hdg hcs) hS kk
theorem eL {z : Int64} (hx : p.tables.exec = Jvm.exec) (hb : c.code = cc) (hr : meth.sig.returnType = some .long) (hlocks : meth.locks = false) (hM : MOK E M H) (hS : va_S (eA E) s.heap H locs) (hdg : decode cc pc = .ok (.lreturn, 1)) (h1 : cells ≤ mc) (h2 : slots ≤ ms) :
    W p l e R s m args below meth c H locs cells slots (MQ below (cQ E (some (.long z)) M) args s mc ms (eA E)) (F0 m pc ls [.long z]) :=
  W.widen h1 h2 (W.lret hx hb hr (fun t ht hW => ⟨rfl, by rw [ht]; exact hM, hS.F ht⟩) hS.2.2 hdg hlocks)
theorem eBy {z : Int32} (hx : p.tables.exec = Jvm.exec) (hb : c.code = cc) (hr : meth.sig.returnType = some .byte) (hlocks : meth.locks = false) (hM : MOK E M H) (hS : va_S (eA E) s.heap H locs) (hdg : decode cc pc = .ok (.ireturn, 1)) (h1 : cells ≤ mc) (h2 : slots ≤ ms) (hn : nar 7 z = z) :
    W p l e R s m args below meth c H locs cells slots (MQ below (cQ E (some (.int z)) M) args s mc ms (eA E)) (F0 m pc ls [.int z]) :=
  W.widen h1 h2 (W.zret hx hb hr (show Value.int (nar 7 z) = .int z by rw [hn]) (fun t ht hW => ⟨rfl, by rw [ht]; exact hM, hS.F ht⟩) hS.2.2 hdg hlocks)
theorem eC2 {z : Int32} (hx : p.tables.exec = Jvm.exec) (hb : c.code = cc) (hr : meth.sig.returnType = some .char) (hlocks : meth.locks = false) (hM : MOK E M H) (hS : va_S (eA E) s.heap H locs) (hdg : decode cc pc = .ok (.ireturn, 1)) (h1 : cells ≤ mc) (h2 : slots ≤ ms) (hn : nar 8 z = z) :
    W p l e R s m args below meth c H locs cells slots (MQ below (cQ E (some (.int z)) M) args s mc ms (eA E)) (F0 m pc ls [.int z]) :=
  W.widen h1 h2 (W.zret hx hb hr (show Value.int (nar 8 z) = .int z by rw [hn]) (fun t ht hW => ⟨rfl, by rw [ht]; exact hM, hS.F ht⟩) hS.2.2 hdg hlocks)
/-- the length of a row of bytes -/
theorem r_blen {v : Int32} (hx : p.tables.exec = Jvm.exec) (hb : c.code = cc) (hE : EnvOK E s) (hM : MOK E M H) (hg : gN 7 a M = some v) (hdg : decode cc pc = .ok (.arraylength, 1))
    (kk : W p l e R s m args below meth c H locs cells slots Q (F0 m (pc + 1) ls (.int v :: rest))) : W p l e R s m args below meth c H locs cells slots Q (F0 m pc ls (.ref a :: rest)) := by
  obtain ⟨hk, rfl⟩ := ifs hg
  exact va_alen hx hb hE.1 (hM.1.P hk (by decide) (mm_e7 hk)) 0 0 rfl rfl rfl hdg kk
theorem r_clen {i : Nat} {v : Int32} (hx : p.tables.exec = Jvm.exec) (hb : c.code = cc) (hE : EnvOK E s) (hS : va_S (eA E) s.heap H locs) (hg : jLen i = some v) (hdg : decode cc pc = .ok (.arraylength, 1))
    (kk : W p l e R s m args below meth c H locs cells slots Q (F0 m (pc + 1) ls (.int v :: rest))) : W p l e R s m args below meth c H locs cells slots Q (F0 m pc ls (.ref (eV E i) :: rest)) := by
  obtain ⟨hi, rfl⟩ := ifs hg
  exact va_tlen hx hb (hE.2.1 i hi).2.2.2 hS (v := nI (sLEN.getD i 0)) rfl hdg kk
/-- a digit's sign -/
theorem r_dig {i : Nat} {k v : Int32} (hx : p.tables.exec = Jvm.exec) (hb : c.code = cc) (hE : EnvOK E s) (hS : va_S (eA E) s.heap H locs) (hg : gD i k = some v) (hdg : decode cc pc = .ok (.baload, 1))
    (kk : W p l e R s m args below meth c H locs cells slots Q (F0 m (pc + 1) ls (.int v :: rest))) : W p l e R s m args below meth c H locs cells slots Q (F0 m pc ls (.int k :: .ref (eV E (100 + i)) :: rest)) := by
  obtain ⟨⟨hi, hin⟩, rfl⟩ := ifs hg
  exact va_tb hx hb (hE.2.2.2.2.2.2.2.2.2.2.2.2 i hi).2 hS hin rfl hdg kk
theorem r_sx {b L : Nat} {xs : Nat → Int32} {i v : Int32} (hx : p.tables.exec = Jvm.exec) (hb : c.code = cc) (hX : va_X b L xs s s.heap) (hbl : b < s.heap.size) (hbA : ¬ eA E b) (hS : va_S (eA E) s.heap H locs) (hg : gX xs L i = some v) (hdg : decode cc pc = .ok (.iaload, 1))
    (kk : W p l e R s m args below meth c H locs cells slots Q (F0 m (pc + 1) ls (.int v :: rest))) : W p l e R s m args below meth c H locs cells slots Q (F0 m pc ls (.int i :: .ref b :: rest)) := by
  obtain ⟨hin, rfl⟩ := ifs hg
  exact va_sld hx hb hX hbl hbA hS hin hdg kk
theorem r_copyS {i : Nat} {sp dp n : Int32} (hx : p.tables.exec = Jvm.exec) (hb : c.code = cc) (hml : c.maxLocals = ls.size) (hts : ∀ w ∈ lw_G, w.before args s = true) (hown : s.vm.findClass own = some m.cls) (hlink : Cond.methodLink own index arraycopyName ∈ lw_G) (hnat : Cond.native arraycopyName ∈ lw_G) (hstat : Cond.static arraycopyName ∈ lw_G) (hini : Cond.initialized "java/lang/System" ∈ lw_G)
    (hE : EnvOK E s) (hM : MOK E M H) (hS : va_S (eA E) s.heap H locs) (hg : cpS i sp a dp n M = some M') (hframes : 1 ≤ R.frames) (hlocals : (rest.map fun v => v.category).sum + (nativeFrameWords "java/lang/System" "arraycopy" 5 + 11) ≤ R.locals) (hdg : decode cc pc = .ok (.invokestatic index, 3))
    (kk : ∀ (H1 : Heap) (locs1 : List Loc), MOK E M' H1 → va_S (eA E) s.heap H1 locs1 → W p l e R s m args below meth c H1 locs1 cells slots Q (F0 m (pc + 3) ls rest)) : W p l e R s m args below meth c H locs cells slots Q (F0 m pc ls (.int n :: .int dp :: .ref a :: .int sp :: .ref (eV E i) :: rest)) := by
  obtain ⟨⟨hk1, ⟨hi0, h1, h2, h3⟩, h4, h5⟩, rfl⟩ := ifs hg
  have nn : ∀ z : Int32, ¬ z < 0 → z.toInt = (z.toNatClampNeg : Int) := by
    intro z hz
    have hz0 : (0 : Int) ≤ z.toInt := by
      have := Int32.not_lt.mp hz
      simpa using Int32.le_iff_toInt_le.mp this
    show z.toInt = ((z.toInt.toNat : Nat) : Int)
    omega
  intro T hT X
  obtain ⟨f, hf⟩ : ∃ f, f = jByt i := ⟨_, rfl⟩
  obtain ⟨g, hgg⟩ : ∃ g, g = mA M a := ⟨_, rfl⟩
  obtain ⟨scr, hs1, hs2, hs3, hs4, -, hs5, hs7⟩ := (hE.2.1 i hi0).2.2.2
  have hc0 : H[eV E i]? = some scr := by rw [hS.2.1 (eV E i) (Array.getElem?_eq_some_iff.mp hs1).1 hs7]; exact hs1
  have hc1 : H[a]? = some (vp_cell (eC E 7) (mN M a, .inl g)) := by rw [hgg]; exact hM.1.P hk1 (by decide) (mm_e7 hk1) 0 _ rfl
  obtain ⟨hs6, k0, hk0', cm0, hkk0⟩ := hs2
  obtain ⟨-, k1, hk1', cm1, hkk1⟩ := r_alt hE 0 rfl (mN M a) (fun j => .int (g j))
  obtain ⟨vm', X', step⟩ := X.arraycopy hx hown (hts _ hlink) (hts _ hnat) (hts _ hstat) (hts _ hini) (src := eV E i) (dst := a) (cs := scr) (cd := vp_cell (eC E 7) (mN M a, .inl g)) (srcPos := sp) (destPos := dp) (n := n) (by rw [hT]; exact hc0) (by rw [hT]; exact hc1)
    hs6 (fun _ h => by cases h) hs3 (fun h => by cases h) hk0' hk1' hkk0 hkk1 (by simp [refKind]) h1 h2 h3
    (by rw [nn sp h1, nn n h3]; omega)
    (by rw [nn dp h2, nn n h3]; show ¬ _ > ((arrV _ (mN M a) (fun j => .int (g j))).slots.size : Int); rw [arrV_size]; omega)
    (fun vm₁ _ i1 hi1 => by
      have e : scr.slots.getD (sp.toNatClampNeg + i1) .null = .int (f (sp.toNatClampNeg + i1)) := by
        rw [Array.getD_eq_getD_getElem?, hs5 _ (by omega), hf]
        rfl
      refine ⟨?_, ?_⟩
      · rw [e, hf]
        exact j_fit i hi0 _ (by omega)
      · rw [e]
        exact trivial)
    (g := F0 m pc ls (.int n :: .int dp :: .ref a :: .int sp :: .ref (eV E i) :: rest)) rfl (by rw [hml]) (rest := rest) rfl (by rw [hb]; exact hdg) hframes (by show 2 * 0 + _ + _ ≤ _; omega)
  have e1 : copied scr (vp_cell (eC E 7) (mN M a, .inl g)) sp dp n = vp_cell (eC E 7) (mN M a, .inl (va_cpy f g sp.toNatClampNeg dp.toNatClampNeg n.toNatClampNeg)) := va_copiedX (fun z => .int z) scr (eC E 7) f g (fun j hj => by rw [hs5 j hj, hf]; rfl) h4
  rw [e1] at X' step
  have hl : a < H.size := (Array.getElem?_eq_some_iff.mp hc1).1
  have hheap : ((T.setVm vm').setCell a (vp_cell (eC E 7) (mN M a, .inl (va_cpy f g sp.toNatClampNeg dp.toNatClampNeg n.toNatClampNeg)))).heap = H.setIfInBounds a (vp_cell (eC E 7) (mN M a, .inl (va_cpy f g sp.toNatClampNeg dp.toNatClampNeg n.toNatClampNeg))) := by rw [← hT]; rfl
  generalize hH1 : H.setIfInBounds a (vp_cell (eC E 7) (mN M a, .inl (va_cpy f g sp.toNatClampNeg dp.toNatClampNeg n.toNatClampNeg))) = H1 at hheap
  have oq : ∀ q : Nat, q ≠ a → H1[q]? = H[q]? := fun q hq => by rw [← hH1]; simp [Array.getElem?_setIfInBounds, Ne.symm hq]
  have z : H1.size = H.size := by rw [← hH1]; simp
  have ea : H1[a]? = some (vp_cell (eC E 7) (mN M a, .inl (va_cpy f g sp.toNatClampNeg dp.toNatClampNeg n.toNatClampNeg))) := by rw [← hH1]; simp [Array.getElem?_setIfInBounds, hl]
  obtain ⟨t, a1, b1⟩ := kk H1 _ ⟨hM.1.set hk1 (by decide) z oq rfl rfl (fun b hb => mm_eq rfl rfl (fun _ => rfl) (fun _ => rfl) (va_up_ne _ _ hb) rfl rfl) (by
      rw [mm_e7]; rotate_left; exact hk1
      show H1[a]? = some (vp_cell _ (_, .inl (va_up (mA M) a _ a)))
      rw [va_up_self, ← hf, ← hgg]
      exact ea), hM.2⟩ ⟨by rw [z]; exact hS.1, fun q g1 g2 => by
      rw [oq q (fun e => g2 (by rw [e]; exact hM.1.lo hk1 (by decide)))]
      exact hS.2.1 q g1 g2, fun q hq => by
      rcases List.mem_append.mp hq with h | h
      · exact hS.2.2 q h
      · obtain ⟨z, -, hz⟩ := List.mem_map.mp h
        rw [← hz]
        exact hM.1.lo hk1 (by decide)⟩ _ hheap X'
  exact ⟨t, step t a1, b1⟩
end TR
