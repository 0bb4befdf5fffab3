/-! AN ARRAY OF BYTES, CLONED -/
def clB (a : Nat) (M : Mem) : Option Mem := if mK M a = 7 ∧ mN M a ≤ 512 ∧ (∀ j, j < mN M a → fits .byte (.int (mA M a j)) = true) then some (va_up (mK M) (mZ M) 7, va_up (mN M) (mZ M) (mN M a), mI M, mR M, va_up (mA M) (mZ M) (mA M a), va_up (mB M) (mZ M) (fun _ => none), va_up (mL M) (mZ M) (fun _ => 0), mZ M + 1) else none
theorem asg_self (vm : Vm) (c : ClassId) : vm.assignable c c = true := by
  show vm.assignableAux (255 + 1) c c = true
  rw [Vm.assignableAux]
  simp only [beq_self_eq_true, Bool.true_or]
section CL
variable {p : Program} {l : Launch} {e : Env} {R : Room} {s : State} {m : MethodId} {args : Array Value} {below : List Frame} {meth : Method} {c : Code} {H : Heap} {locs : List Loc} {cells slots : Nat} {Q : State → Prop}
variable {cc : ByteArray} {pc : Nat} {ls : Array Slot} {rest : List Value} {E : KEnv} {M M' : Mem} {own : String} {index i2 a : Nat}
theorem r_clone (hx : p.tables.exec = Jvm.exec) (hb : c.code = cc) (hml : c.maxLocals = ls.size) (hts : ∀ w ∈ lw_G, w.before args s = true) (hown : s.vm.findClass own = some m.cls) (h1 : Cond.methodLink own index ⟨"[B", "clone", "()Ljava/lang/Object;"⟩ ∈ lw_G) (h2 : Cond.sameMethod "[B" "java/lang/Object" "clone" "()Ljava/lang/Object;" ∈ lw_G) (h3 : Cond.native ⟨"java/lang/Object", "clone", "()Ljava/lang/Object;"⟩ ∈ lw_G) (h4 : Cond.instanceMethod ⟨"java/lang/Object", "clone", "()Ljava/lang/Object;"⟩ ∈ lw_G) (h5 : Cond.selects "[B" ⟨"[B", "clone", "()Ljava/lang/Object;"⟩ ⟨"java/lang/Object", "clone", "()Ljava/lang/Object;"⟩ ∈ lw_G) (h6 : Cond.classLink own i2 "[B" ∈ lw_G)
    (hE : EnvOK E s) (hM : MOK E M H) (hS : va_S (eA E) s.heap H locs) (hg : clB a M = some M') (hframes : 1 ≤ R.frames) (hlocals : (rest.map fun v => v.category).sum + 14 ≤ R.locals) (hcells : cells + 1 ≤ R.cells) (hslots : slots + 512 ≤ R.slots) (hdg : decode cc pc = .ok (.invokevirtual index, 3)) (hdg2 : decode cc (pc + 3) = .ok (.checkcast i2, 3))
    (kk : ∀ (H1 : Heap), MOK E M' H1 → va_S (eA E) s.heap H1 locs → W p l e R s m args below meth c H1 locs (cells + 1) (slots + 512) Q (F0 m (pc + 3 + 3) ls (.ref (mZ M) :: rest))) : W p l e R s m args below meth c H locs cells slots Q (F0 m pc ls (.ref a :: rest)) := by
  obtain ⟨⟨hk, hn, hfit⟩, rfl⟩ := ifs hg
  intro T hT X
  obtain ⟨f, hf⟩ : ∃ f, f = mA M a := ⟨_, rfl⟩
  rw [← hf] at hfit
  have hc0 : H[a]? = some (vp_cell (eC E 7) (mN M a, .inl f)) := by rw [hf]; exact hM.1.P hk (by decide) (mm_e7 hk) 0 _ rfl
  have hcls : s.vm.findClass "[B" = some (eC E 7) := (hE.1.2 0 _ rfl).2
  have hcast : (Cond.castable "[B" "java/lang/Cloneable").before args s = true := va_Nw.use rfl (hE.2.2.2.2.2.2.2.1 ("[B", "java/lang/Cloneable") (by decide))
  obtain ⟨cA, cC, q1, q2, q3⟩ := Cond.castable_spec hcast
  cases q1.symm.trans hcls
  obtain ⟨-, k0, hk0, cm0, hkk0⟩ := r_alt hE 0 rfl (mN M a) (fun j => .int (f j))
  obtain ⟨-, kT, hkT, cmT, hkkT⟩ := State.isArrayOf_alike X.warmed.alike (r_alt hE 0 rfl (mN M a) (fun j => .int (f j)))
  have hslots' : slots + (vp_cell (eC E 7) (mN M a, .inl f)).slots.size ≤ R.slots := by
    show slots + (arrV _ (mN M a) (fun j => .int (f j))).slots.size ≤ R.slots
    rw [arrV_size]; omega
  obtain ⟨vm', X1, st1⟩ := X.cloneArray hx hown (hts _ h1) (hts _ h2) (hts _ h3) (hts _ h4) (hts _ h5) (a := a) (cell := vp_cell (eC E 7) (mN M a, .inl f)) (by rw [hT]; exact hc0) (fun _ h => by cases h) (fun h => by cases h) hcls q2 q3
    (fun i v hv => by
      have hv' : (arrV (eC E 7) (mN M a) (fun j => .int (f j))).slots[i]? = some v := hv
      have hi : i < mN M a := by
        have := (Array.getElem?_eq_some_iff.mp hv').1
        rwa [arrV_size] at this
      rw [arrV_read _ _ hi] at hv'
      cases hv'
      have hkT' : T.vm.classes[(vp_cell (eC E 7) (mN M a, .inl f)).cls]? = some kT := hkT
      simp only [State.fitsSlot, State.slotType?, hkT', hkkT, Option.bind_eq_bind, Option.bind_some]
      exact hfit i hi)
    (g := F0 m pc ls (.ref a :: rest)) rfl (by rw [hml]) (rest := rest) rfl (by rw [hb]; exact hdg) hframes (by show 2 * 0 + _ + _ ≤ _; omega) hcells hslots' (Vm.clonesLoader_of_array hk0 hkk0)
  have hN : ((T.setVm vm').pushCell { cls := (vp_cell (eC E 7) (mN M a, .inl f)).cls, slots := (vp_cell (eC E 7) (mN M a, .inl f)).slots }).heap[T.heap.size]? = some { cls := (vp_cell (eC E 7) (mN M a, .inl f)).cls, slots := (vp_cell (eC E 7) (mN M a, .inl f)).slots } := by show (T.heap.push _)[T.heap.size]? = _; simp
  obtain ⟨vm2, X2, st2⟩ := X1.checkcastYes hx hown (hts _ h6) hN rfl hcls (asg_self _ _) (g := F0 m (pc + 3) ls (.ref T.heap.size :: rest)) rfl (rest := rest) rfl (by rw [hb]; exact hdg2)
  have hz : H.size = mZ M := hM.1.1
  have hzT : T.heap.size = mZ M := by rw [hT]; exact hz
  have hheap : (((T.setVm vm').pushCell { cls := (vp_cell (eC E 7) (mN M a, .inl f)).cls, slots := (vp_cell (eC E 7) (mN M a, .inl f)).slots }).setVm vm2).heap = H.push (vp_cell (eC E 7) (mN M a, .inl f)) := by rw [← hT]; rfl
  generalize hH1 : H.push (vp_cell (eC E 7) (mN M a, .inl f)) = H1 at hheap
  have z1 : H1.size = H.size + 1 := by rw [← hH1]; simp
  have o1 : ∀ q : Nat, q < H.size → H1[q]? = H[q]? := fun q hq => by rw [← hH1, Array.getElem?_push, if_neg (by omega)]
  have e1 : H1[mZ M]? = some (vp_cell (eC E 7) (mN M a, .inl f)) := by rw [← hz, ← hH1]; simp
  have kk' := kk H1 ⟨hM.1.new hM.2 z1 o1 (fun b hb => va_up_ne _ _ hb) rfl (fun b hb => mm_eq (va_up_ne _ _ hb) (va_up_ne _ _ hb) (fun _ => rfl) (fun _ => rfl) (va_up_ne _ _ hb) (va_up_ne _ _ hb) (va_up_ne _ _ hb)) (by
      rw [mm_e7]; rotate_left; exact va_up_self _ _ _
      show H1[mZ M]? = some (vp_cell _ (va_up (mN M) (mZ M) (mN M a) (mZ M), .inl (va_up (mA M) (mZ M) (mA M a) (mZ M))))
      rw [va_up_self, va_up_self, ← hf]
      exact e1), Nat.le_succ_of_le hM.2⟩ ⟨Nat.le_trans hS.1 (by omega), fun x h1 h2 => (o1 x (Nat.lt_of_lt_of_le h1 hS.1)).trans (hS.2.1 x h1 h2), hS.2.2⟩
  rw [← hzT] at kk'
  have hw := W.widen (k := cells + 1) (n := slots + 512) (Nat.le_refl _) (show slots + (vp_cell (eC E 7) (mN M a, .inl f)).slots.size ≤ slots + 512 by
    show slots + (arrV _ (mN M a) (fun j => .int (f j))).slots.size ≤ slots + 512
    rw [arrV_size]; omega) kk'
  obtain ⟨t, a1, b1⟩ := hw _ hheap X2
  exact ⟨t, st1 _ (st2 _ a1), b1⟩
end CL
