/-! FIELDS, ARRAYS, NEW CELLS over the functional memory -/
section CR
variable {p : Program} {l : Launch} {e : Env} {R : Room} {s : State} {m : MethodId} {args : Array Value} {below : List Frame} {meth : Method} {c : Code} {H : Heap} {locs : List Loc} {cells slots : Nat} {Q : State → Prop}
variable {cc : ByteArray} {pc : Nat} {ls : Array Slot} {rest : List Value} {E : KEnv} {M M' : Mem} {own C : String} {nL : Nat} {index a : Nat}
theorem r_get {T : u_T} {N ci k : Nat} {fs : List Value} {v : Value} (hx : p.tables.exec = Jvm.exec) (hb : c.code = cc) (hts : ∀ w ∈ lw_G, w.before args s = true) (hin : ∀ w ∈ u_ws C T N, w ∈ lw_G) (hown : s.vm.findClass own = some m.cls) (hE : EnvOK E s) (hM : MOK E M H)
    (hk : mK M a = k) (h0 : k ≠ 0) (he : mm_e (eC E) M a = .inr (ci, fs)) (hc : vwCl[ci]? = some (C, T, N)) (j : Nat) (hj : j < N) (hl : Cond.fieldLink own index C (T j).2.1 (T j).2.2.1 ∈ lw_G) (hC : (T j).1 = C) (hv : fs[j]? = some v) (hdg : decode cc pc = .ok (.getfield index, 3))
    (kk : W p l e R s m args below meth c H locs cells slots Q (F0 m (pc + 3) ls (v :: rest))) : W p l e R s m args below meth c H locs cells slots Q (F0 m pc ls (.ref a :: rest)) :=
  va_get hx hb hts hin hown hE.1 (hM.1.P hk h0 he) 0 rfl hc j hj (hts _ hl) (fun x hx9 => by rw [hC] at hx9; exact hx9) hv hdg kk
theorem r_put {T : u_T} {N ci k : Nat} {fs : List Value} {v : Value} {ty : FieldType} (hx : p.tables.exec = Jvm.exec) (hb : c.code = cc) (hts : ∀ w ∈ lw_G, w.before args s = true) (hin : ∀ w ∈ u_ws C T N, w ∈ lw_G) (ty0 : Nat → FieldType) (hty : ∀ k, k < N → parseFieldDescriptor (T k).2.2.1 = some (ty0 k)) (hnm : ∀ a, a < N → ∀ b, b < N → a ≠ b → (T a).2.1 ≠ (T b).2.1) (hown : s.vm.findClass own = some m.cls) (hE : EnvOK E s) (hM : MOK E M H) (hS0 : va_S (eA E) s.heap H locs)
    (hkk : mK M a = k) (h0 : k ≠ 0) (he : mm_e (eC E) M a = .inr (ci, fs)) (hc : vwCl[ci]? = some (C, T, N)) (j : Nat) (hk : j < N) (hlk : Cond.fieldLink own index C (T j).2.1 (T j).2.2.1 ∈ lw_G) (hC : (T j).1 = C) (hfin : (T j).2.2.2 = false ∨ ((T j).2.2.2 = true ∧ meth.name = "<init>" ∧ (T j).1 = own)) (hd : parseFieldDescriptor (T j).2.2.1 = some ty) (hn : narrow ty v = v) (hfit : fits ty v = true) (hl : j < fs.length)
    (hK' : mK M' = mK M) (hZ' : mZ M' = mZ M) (hq : ∀ b, b ≠ a → mm_e (eC E) M' b = mm_e (eC E) M b) (hea : mm_e (eC E) M' a = .inr (ci, fs.set j v)) (hdg : decode cc pc = .ok (.putfield index, 3))
    (kk : ∀ (H1 : Heap) (locs1 : List Loc), MOK E M' H1 → va_S (eA E) s.heap H1 locs1 → W p l e R s m args below meth c H1 locs1 cells slots Q (F0 m (pc + 3) ls rest)) : W p l e R s m args below meth c H locs cells slots Q (F0 m pc ls (v :: .ref a :: rest)) := by
  have hap := va_apart (own := own) hts hin ty0 hty hnm hE.1 hc
  have hlink := hts _ hlk
  have hsame : ∀ x, s.fieldFound? (T j).1 (T j).2.1 (T j).2.2.1 = some x → s.fieldFound? C (T j).2.1 (T j).2.2.1 = some x := fun x hx9 => by rw [hC] at hx9; exact hx9
  obtain ⟨r, h1, cell, q1, q2, q3, q4⟩ := hM.1.P hkk h0 he 0 _ rfl
  have hr : r = (C, T, N) := Option.some.inj (h1.symm.trans hc)
  subst hr
  obtain ⟨hS, hfc, kC, hkC, hkind⟩ := hE.1.1 ci _ hc
  obtain ⟨cf, kf, fi, f, hi, hsl⟩ := hS j hk
  have hlay := hts _ (hin _ (u_in_lay hk))
  unfold u_lay at hlay
  have hst := (u_facts hfc hkC (u_lays hts hin hk) hi).1
  have fin : ∀ H' : Heap, H'[a]? = some (cell.setSlot f.slot v) → H'.size = H.size → (∀ q, q ≠ a → H'[q]? = H[q]?) → W p l e R s m args below meth c H' (locs ++ [⟨a, f.slot⟩]) cells slots Q (F0 m (pc + 3) ls rest) := by
    intro H' e1 e2 e3
    rw [hsl] at e1
    refine kk H' _ ⟨hM.1.set hkk h0 e2 e3 hK' hZ' hq ?_, by rw [hZ']; exact hM.2⟩ (hS0.put e2 e3 (hM.1.lo hkk h0))
    rw [hea]
    exact ⟨_, hc, t_OB.to (V := updV (vp_V fs) j v) ⟨_, e1, q2, q3, t_set q4 hap hk v⟩ (fun i _ => vp_updV_set hl v i)⟩
  rcases hfin with hfin | ⟨hfin, hin2, hdecl⟩
  · rw [if_neg (by rw [hfin]; decide)] at hlay
    have h6 := u_store hfc hkC hkind hlay hi hd hn hfit
    exact W.putK hx hb (f := f) ⟨hown, hlink, ⟨_, _, _, hsame _ hi⟩, hst⟩ (by rw [q2]; exact h6) q1 q3 (by rw [hsl]; exact k2_hasslot (q4 j hk)) rfl rfl hdg fin
  · rw [if_pos hfin] at hlay
    have hcf : m.cls = cf := by
      obtain ⟨_, _, c', _, _, _, -, -, hf', -, -, -, hown2, -⟩ := Cond.laysFinal_spec hlay
      have e1 : c' = cf := by have := hi.symm.trans hf'; simp at this; exact this.1.symm
      rw [hdecl] at hown2
      rw [← e1]; exact Option.some.inj (hown.symm.trans hown2)
    have h6 := u_fits hfc hkC hkind (Or.inr hlay) hi hd hn hfit
    exact W.putFinK hx hb hown hlink (hsame _ hi) hst hcf hin2 (by rw [q2]; exact h6) q1 q3 (by rw [hsl]; exact k2_hasslot (q4 j hk)) rfl rfl hdg fin
theorem r_getU {T : u_T} {N ci k : Nat} {fs : List Value} {v : Value} (hx : p.tables.exec = Jvm.exec) (hb : c.code = cc) (hts : ∀ w ∈ lw_G, w.before args s = true) (hin : ∀ w ∈ u_ws C T N, w ∈ lw_G) (hown : s.vm.findClass own = some m.cls) (hE : EnvOK E s) (hM : MOK E M H)
    (hk : mK M a = k) (h0 : k ≠ 0) (he : mm_e (eC E) M a = .inr (ci, fs)) (hc : vwCl[ci]? = some (C, T, N)) (j : Nat) (hj : j < N) (hl : Cond.fieldLink own index (T j).1 (T j).2.1 (T j).2.2.1 ∈ lw_G) (hv : fs[j]? = some v) (hdg : decode cc pc = .ok (.getfield index, 3))
    (kk : W p l e R s m args below meth c H locs cells slots Q (F0 m (pc + 3) ls (v :: rest))) : W p l e R s m args below meth c H locs cells slots Q (F0 m pc ls (.ref a :: rest)) :=
  va_get hx hb hts hin hown hE.1 (hM.1.P hk h0 he) 0 rfl hc j hj (hts _ hl) (fun x hx9 => hx9) hv hdg kk
theorem r_putU {T : u_T} {N ci k : Nat} {fs : List Value} {v : Value} {ty : FieldType} (hx : p.tables.exec = Jvm.exec) (hb : c.code = cc) (hts : ∀ w ∈ lw_G, w.before args s = true) (hin : ∀ w ∈ u_ws C T N, w ∈ lw_G) (ty0 : Nat → FieldType) (hty : ∀ k, k < N → parseFieldDescriptor (T k).2.2.1 = some (ty0 k)) (hnm : ∀ a, a < N → ∀ b, b < N → a ≠ b → (T a).2.1 ≠ (T b).2.1) (hown : s.vm.findClass own = some m.cls) (hE : EnvOK E s) (hM : MOK E M H) (hS0 : va_S (eA E) s.heap H locs)
    (hkk : mK M a = k) (h0 : k ≠ 0) (he : mm_e (eC E) M a = .inr (ci, fs)) (hc : vwCl[ci]? = some (C, T, N)) (j : Nat) (hk : j < N) (hlk : Cond.fieldLink own index (T j).1 (T j).2.1 (T j).2.2.1 ∈ lw_G) (hfin : (T j).2.2.2 = false ∨ ((T j).2.2.2 = true ∧ meth.name = "<init>" ∧ (T j).1 = own)) (hd : parseFieldDescriptor (T j).2.2.1 = some ty) (hn : narrow ty v = v) (hfit : fits ty v = true) (hl : j < fs.length)
    (hK' : mK M' = mK M) (hZ' : mZ M' = mZ M) (hq : ∀ b, b ≠ a → mm_e (eC E) M' b = mm_e (eC E) M b) (hea : mm_e (eC E) M' a = .inr (ci, fs.set j v)) (hdg : decode cc pc = .ok (.putfield index, 3))
    (kk : ∀ (H1 : Heap) (locs1 : List Loc), MOK E M' H1 → va_S (eA E) s.heap H1 locs1 → W p l e R s m args below meth c H1 locs1 cells slots Q (F0 m (pc + 3) ls rest)) : W p l e R s m args below meth c H locs cells slots Q (F0 m pc ls (v :: .ref a :: rest)) := by
  have hap := va_apart (own := own) hts hin ty0 hty hnm hE.1 hc
  have hlink := hts _ hlk
  have hsame : ∀ x, s.fieldFound? (T j).1 (T j).2.1 (T j).2.2.1 = some x → s.fieldFound? (T j).1 (T j).2.1 (T j).2.2.1 = some x := fun x hx9 => hx9
  obtain ⟨r, h1, cell, q1, q2, q3, q4⟩ := hM.1.P hkk h0 he 0 _ rfl
  have hr : r = (C, T, N) := Option.some.inj (h1.symm.trans hc)
  subst hr
  obtain ⟨hS, hfc, kC, hkC, hkind⟩ := hE.1.1 ci _ hc
  obtain ⟨cf, kf, fi, f, hi, hsl⟩ := hS j hk
  have hlay := hts _ (hin _ (u_in_lay hk))
  unfold u_lay at hlay
  have hst := (u_facts hfc hkC (u_lays hts hin hk) hi).1
  have fin : ∀ H' : Heap, H'[a]? = some (cell.setSlot f.slot v) → H'.size = H.size → (∀ q, q ≠ a → H'[q]? = H[q]?) → W p l e R s m args below meth c H' (locs ++ [⟨a, f.slot⟩]) cells slots Q (F0 m (pc + 3) ls rest) := by
    intro H' e1 e2 e3
    rw [hsl] at e1
    refine kk H' _ ⟨hM.1.set hkk h0 e2 e3 hK' hZ' hq ?_, by rw [hZ']; exact hM.2⟩ (hS0.put e2 e3 (hM.1.lo hkk h0))
    rw [hea]
    exact ⟨_, hc, t_OB.to (V := updV (vp_V fs) j v) ⟨_, e1, q2, q3, t_set q4 hap hk v⟩ (fun i _ => vp_updV_set hl v i)⟩
  rcases hfin with hfin | ⟨hfin, hin2, hdecl⟩
  · rw [if_neg (by rw [hfin]; decide)] at hlay
    have h6 := u_store hfc hkC hkind hlay hi hd hn hfit
    exact W.putK hx hb (f := f) ⟨hown, hlink, ⟨_, _, _, hsame _ hi⟩, hst⟩ (by rw [q2]; exact h6) q1 q3 (by rw [hsl]; exact k2_hasslot (q4 j hk)) rfl rfl hdg fin
  · rw [if_pos hfin] at hlay
    have hcf : m.cls = cf := by
      obtain ⟨_, _, c', _, _, _, -, -, hf', -, -, -, hown2, -⟩ := Cond.laysFinal_spec hlay
      have e1 : c' = cf := by have := hi.symm.trans hf'; simp at this; exact this.1.symm
      rw [hdecl] at hown2
      rw [← e1]; exact Option.some.inj (hown.symm.trans hown2)
    have h6 := u_fits hfc hkC hkind (Or.inr hlay) hi hd hn hfit
    exact W.putFinK hx hb hown hlink (hsame _ hi) hst hcf hin2 (by rw [q2]; exact h6) q1 q3 (by rw [hsl]; exact k2_hasslot (q4 j hk)) rfl rfl hdg fin
theorem r_alt (hE : EnvOK E s) (t : Nat) {q : ClassId × FieldType} (h : (vtys (eC E))[t]? = some q) : ArrOfT s q.1 q.2 := (hE.1.2 t q h).1
-- loads
theorem r_bald {i v : Int32} (hx : p.tables.exec = Jvm.exec) (hb : c.code = cc) (hE : EnvOK E s) (hM : MOK E M H) (hg : gA 7 a i M = some v) (hdg : decode cc pc = .ok (.baload, 1))
    (kk : W p l e R s m args below meth c H locs cells slots Q (F0 m (pc + 1) ls (.int v :: rest))) : W p l e R s m args below meth c H locs cells slots Q (F0 m pc ls (.int i :: .ref a :: rest)) := by
  obtain ⟨⟨hk, hin⟩, rfl⟩ := ifs hg
  exact va_bald hx hb hE.1 (hM.1.P hk (by decide) (mm_e7 hk)) 0 0 rfl rfl hin hdg kk
theorem r_cald {i v : Int32} (hx : p.tables.exec = Jvm.exec) (hb : c.code = cc) (hE : EnvOK E s) (hM : MOK E M H) (hg : gA 8 a i M = some v) (hdg : decode cc pc = .ok (.caload, 1))
    (kk : W p l e R s m args below meth c H locs cells slots Q (F0 m (pc + 1) ls (.int v :: rest))) : W p l e R s m args below meth c H locs cells slots Q (F0 m pc ls (.int i :: .ref a :: rest)) := by
  obtain ⟨⟨hk, hin⟩, rfl⟩ := ifs hg
  exact va_cald hx hb hE.1 (hM.1.P hk (by decide) (mm_e8 hk)) 0 1 rfl rfl hin hdg kk
theorem r_iald {i v : Int32} (hx : p.tables.exec = Jvm.exec) (hb : c.code = cc) (hE : EnvOK E s) (hM : MOK E M H) (hg : gA 9 a i M = some v) (hdg : decode cc pc = .ok (.iaload, 1))
    (kk : W p l e R s m args below meth c H locs cells slots Q (F0 m (pc + 1) ls (.int v :: rest))) : W p l e R s m args below meth c H locs cells slots Q (F0 m pc ls (.int i :: .ref a :: rest)) := by
  obtain ⟨⟨hk, hin⟩, rfl⟩ := ifs hg
  exact va_iald hx hb hE.1 (hM.1.P hk (by decide) (mm_e9 hk)) 0 2 rfl rfl hin hdg kk
theorem r_aldS {i : Int32} {o : Option Nat} (hx : p.tables.exec = Jvm.exec) (hb : c.code = cc) (hE : EnvOK E s) (hM : MOK E M H) (hg : gB 10 a i M = some o) (hdg : decode cc pc = .ok (.aaload, 1))
    (kk : W p l e R s m args below meth c H locs cells slots Q (F0 m (pc + 1) ls (va_rf o :: rest))) : W p l e R s m args below meth c H locs cells slots Q (F0 m pc ls (.int i :: .ref a :: rest)) := by
  obtain ⟨⟨hk, hin⟩, rfl⟩ := ifs hg
  exact va_aldq hx hb hE.1 (hM.1.P hk (by decide) (mm_e10 hk)) 0 3 rfl rfl hin hdg kk
theorem r_aldnS {i : Int32} {o : Nat} (hx : p.tables.exec = Jvm.exec) (hb : c.code = cc) (hE : EnvOK E s) (hM : MOK E M H) (hg : gBn 10 a i M = some o) (hdg : decode cc pc = .ok (.aaload, 1))
    (kk : W p l e R s m args below meth c H locs cells slots Q (F0 m (pc + 1) ls (.ref o :: rest))) : W p l e R s m args below meth c H locs cells slots Q (F0 m pc ls (.int i :: .ref a :: rest)) := by
  obtain ⟨⟨hk, hin⟩, h2⟩ := ifg hg
  refine va_aldq hx hb hE.1 (hM.1.P hk (by decide) (mm_e10 hk)) 0 3 rfl rfl hin hdg ?_
  rw [h2]
  exact kk
theorem r_astS {i : Int32} {v : Nat} (hx : p.tables.exec = Jvm.exec) (hb : c.code = cc) (hE : EnvOK E s) (hM : MOK E M H) (hS0 : va_S (eA E) s.heap H locs) (hg : sBn 10 3 a i v M = some M') (hdg : decode cc pc = .ok (.aastore, 1))
    (kk : ∀ (H1 : Heap) (locs1 : List Loc), MOK E M' H1 → va_S (eA E) s.heap H1 locs1 → W p l e R s m args below meth c H1 locs1 cells slots Q (F0 m (pc + 1) ls rest)) : W p l e R s m args below meth c H locs cells slots Q (F0 m pc ls (.ref v :: .int i :: .ref a :: rest)) := by
  obtain ⟨⟨hk, hkv, hin⟩, rfl⟩ := ifs hg
  have hlt : i.toNatClampNeg < mN M a := Nat.not_le.mp fun q => hin (Or.inr q)
  have h0 : ¬ i < 0 := fun q => hin (Or.inl q)
  have ha := hM.1.P hk (by decide) (mm_e10 hk) 0 _ rfl
  obtain ⟨r', hr', cellV, g1, g2, g3, -⟩ := hM.1.P hkv (by decide) (mm_e3 hkv) 0 _ rfl
  have hcls := (hE.1.1 2 _ rfl).2
  obtain ⟨kA, comp, k1, k2, k3, -⟩ := (hE.1.2 3 _ rfl).2
  have hcomp : comp = (eD E).1 2 := Option.some.inj (k3.symm.trans hcls.1)
  subst hcomp
  obtain ⟨kC, hkC, -⟩ := hcls.2
  refine W.aast hx hb ha (fun q h => by cases h) (fun h => by cases h) k1 k2 rfl hkC ⟨h0, by show _ < (arrV _ _ _).slots.size; rw [arrV_size]; exact hlt⟩ g1 (fun q h => by rw [g3] at h; cases h) (by rw [g2]; exact hkC) (by rw [g2]; exact va_assign hcls) rfl rfl hdg fun H1 e1 z oq => ?_
  refine kk H1 _ ⟨hM.1.set hk (by decide) z oq rfl rfl (fun b hb => mm_eq rfl rfl (fun _ => rfl) (fun _ => rfl) rfl (funext fun j => up2_ne1 hb) rfl) ?_, hM.2⟩ (hS0.put z oq (hM.1.lo hk (by decide)))
  rw [mm_e10]; rotate_left; exact hk
  show H1[a]? = some (vp_cell _ _)
  rw [e1]
  rw [vp_cell_q, vp_cell_q, arrV_store]
  congr 2
  funext q
  by_cases hq : q = i.toNatClampNeg
  · subst hq
    simp [updV, up2, va_rf, mB]
  · simp [updV, up2, hq, mB, mA, mL]
theorem r_ast0S {i : Int32} (hx : p.tables.exec = Jvm.exec) (hb : c.code = cc) (hE : EnvOK E s) (hM : MOK E M H) (hS0 : va_S (eA E) s.heap H locs) (hg : sB0 10 a i M = some M') (hdg : decode cc pc = .ok (.aastore, 1))
    (kk : ∀ (H1 : Heap) (locs1 : List Loc), MOK E M' H1 → va_S (eA E) s.heap H1 locs1 → W p l e R s m args below meth c H1 locs1 cells slots Q (F0 m (pc + 1) ls rest)) : W p l e R s m args below meth c H locs cells slots Q (F0 m pc ls (.null :: .int i :: .ref a :: rest)) := by
  obtain ⟨⟨hk, hin⟩, rfl⟩ := ifs hg
  have ha := hM.1.P hk (by decide) (mm_e10 hk) 0 _ rfl
  refine va_WaastN (C := "OfflineNotes$State") hx hb ha (r_alt hE 3 rfl (mN M a) (fun j => va_rf (mB M a j))) (fun h => by cases h) (by show ¬ (i < 0 ∨ (arrV _ _ _).slots.size ≤ _); rw [arrV_size]; exact hin) rfl rfl hdg fun H1 e1 z oq => ?_
  refine kk H1 _ ⟨hM.1.set hk (by decide) z oq rfl rfl (fun b hb => mm_eq rfl rfl (fun _ => rfl) (fun _ => rfl) rfl (funext fun j => up2_ne1 hb) rfl) ?_, hM.2⟩ (hS0.put z oq (hM.1.lo hk (by decide)))
  rw [mm_e10]; rotate_left; exact hk
  show H1[a]? = some (vp_cell _ _)
  rw [e1]
  rw [vp_cell_q, vp_cell_q, arrV_store]
  congr 2
  funext q
  by_cases hq : q = i.toNatClampNeg
  · subst hq
    simp [updV, up2, va_rf, mB]
  · simp [updV, up2, hq, mB, mA, mL]
theorem r_aldW {i : Int32} {o : Option Nat} (hx : p.tables.exec = Jvm.exec) (hb : c.code = cc) (hE : EnvOK E s) (hM : MOK E M H) (hg : gB 11 a i M = some o) (hdg : decode cc pc = .ok (.aaload, 1))
    (kk : W p l e R s m args below meth c H locs cells slots Q (F0 m (pc + 1) ls (va_rf o :: rest))) : W p l e R s m args below meth c H locs cells slots Q (F0 m pc ls (.int i :: .ref a :: rest)) := by
  obtain ⟨⟨hk, hin⟩, rfl⟩ := ifs hg
  exact va_aldq hx hb hE.1 (hM.1.P hk (by decide) (mm_e11 hk)) 0 4 rfl rfl hin hdg kk
theorem r_aldnW {i : Int32} {o : Nat} (hx : p.tables.exec = Jvm.exec) (hb : c.code = cc) (hE : EnvOK E s) (hM : MOK E M H) (hg : gBn 11 a i M = some o) (hdg : decode cc pc = .ok (.aaload, 1))
    (kk : W p l e R s m args below meth c H locs cells slots Q (F0 m (pc + 1) ls (.ref o :: rest))) : W p l e R s m args below meth c H locs cells slots Q (F0 m pc ls (.int i :: .ref a :: rest)) := by
  obtain ⟨⟨hk, hin⟩, h2⟩ := ifg hg
  refine va_aldq hx hb hE.1 (hM.1.P hk (by decide) (mm_e11 hk)) 0 4 rfl rfl hin hdg ?_
  rw [h2]
  exact kk
theorem r_astW {i : Int32} {v : Nat} (hx : p.tables.exec = Jvm.exec) (hb : c.code = cc) (hE : EnvOK E s) (hM : MOK E M H) (hS0 : va_S (eA E) s.heap H locs) (hg : sBn 11 4 a i v M = some M') (hdg : decode cc pc = .ok (.aastore, 1))
    (kk : ∀ (H1 : Heap) (locs1 : List Loc), MOK E M' H1 → va_S (eA E) s.heap H1 locs1 → W p l e R s m args below meth c H1 locs1 cells slots Q (F0 m (pc + 1) ls rest)) : W p l e R s m args below meth c H locs cells slots Q (F0 m pc ls (.ref v :: .int i :: .ref a :: rest)) := by
  obtain ⟨⟨hk, hkv, hin⟩, rfl⟩ := ifs hg
  have hlt : i.toNatClampNeg < mN M a := Nat.not_le.mp fun q => hin (Or.inr q)
  have h0 : ¬ i < 0 := fun q => hin (Or.inl q)
  have ha := hM.1.P hk (by decide) (mm_e11 hk) 0 _ rfl
  obtain ⟨r', hr', cellV, g1, g2, g3, -⟩ := hM.1.P hkv (by decide) (mm_e4 hkv) 0 _ rfl
  have hcls := (hE.1.1 3 _ rfl).2
  obtain ⟨kA, comp, k1, k2, k3, -⟩ := (hE.1.2 4 _ rfl).2
  have hcomp : comp = (eD E).1 3 := Option.some.inj (k3.symm.trans hcls.1)
  subst hcomp
  obtain ⟨kC, hkC, -⟩ := hcls.2
  refine W.aast hx hb ha (fun q h => by cases h) (fun h => by cases h) k1 k2 rfl hkC ⟨h0, by show _ < (arrV _ _ _).slots.size; rw [arrV_size]; exact hlt⟩ g1 (fun q h => by rw [g3] at h; cases h) (by rw [g2]; exact hkC) (by rw [g2]; exact va_assign hcls) rfl rfl hdg fun H1 e1 z oq => ?_
  refine kk H1 _ ⟨hM.1.set hk (by decide) z oq rfl rfl (fun b hb => mm_eq rfl rfl (fun _ => rfl) (fun _ => rfl) rfl (funext fun j => up2_ne1 hb) rfl) ?_, hM.2⟩ (hS0.put z oq (hM.1.lo hk (by decide)))
  rw [mm_e11]; rotate_left; exact hk
  show H1[a]? = some (vp_cell _ _)
  rw [e1]
  rw [vp_cell_q, vp_cell_q, arrV_store]
  congr 2
  funext q
  by_cases hq : q = i.toNatClampNeg
  · subst hq
    simp [updV, up2, va_rf, mB]
  · simp [updV, up2, hq, mB, mA, mL]
theorem r_ast0W {i : Int32} (hx : p.tables.exec = Jvm.exec) (hb : c.code = cc) (hE : EnvOK E s) (hM : MOK E M H) (hS0 : va_S (eA E) s.heap H locs) (hg : sB0 11 a i M = some M') (hdg : decode cc pc = .ok (.aastore, 1))
    (kk : ∀ (H1 : Heap) (locs1 : List Loc), MOK E M' H1 → va_S (eA E) s.heap H1 locs1 → W p l e R s m args below meth c H1 locs1 cells slots Q (F0 m (pc + 1) ls rest)) : W p l e R s m args below meth c H locs cells slots Q (F0 m pc ls (.null :: .int i :: .ref a :: rest)) := by
  obtain ⟨⟨hk, hin⟩, rfl⟩ := ifs hg
  have ha := hM.1.P hk (by decide) (mm_e11 hk) 0 _ rfl
  refine va_WaastN (C := "OfflineNotes$World") hx hb ha (r_alt hE 4 rfl (mN M a) (fun j => va_rf (mB M a j))) (fun h => by cases h) (by show ¬ (i < 0 ∨ (arrV _ _ _).slots.size ≤ _); rw [arrV_size]; exact hin) rfl rfl hdg fun H1 e1 z oq => ?_
  refine kk H1 _ ⟨hM.1.set hk (by decide) z oq rfl rfl (fun b hb => mm_eq rfl rfl (fun _ => rfl) (fun _ => rfl) rfl (funext fun j => up2_ne1 hb) rfl) ?_, hM.2⟩ (hS0.put z oq (hM.1.lo hk (by decide)))
  rw [mm_e11]; rotate_left; exact hk
  show H1[a]? = some (vp_cell _ _)
  rw [e1]
  rw [vp_cell_q, vp_cell_q, arrV_store]
  congr 2
  funext q
  by_cases hq : q = i.toNatClampNeg
  · subst hq
    simp [updV, up2, va_rf, mB]
  · simp [updV, up2, hq, mB, mA, mL]
theorem r_bast {i v : Int32} (hx : p.tables.exec = Jvm.exec) (hb : c.code = cc) (hE : EnvOK E s) (hM : MOK E M H) (hS0 : va_S (eA E) s.heap H locs) (hg : sA 7 a i v M = some M') (hdg : decode cc pc = .ok (.bastore, 1))
    (kk : ∀ (H1 : Heap) (locs1 : List Loc), MOK E M' H1 → va_S (eA E) s.heap H1 locs1 → W p l e R s m args below meth c H1 locs1 cells slots Q (F0 m (pc + 1) ls rest)) : W p l e R s m args below meth c H locs cells slots Q (F0 m pc ls (.int v :: .int i :: .ref a :: rest)) := by
  obtain ⟨⟨hk, hin⟩, rfl⟩ := ifs hg
  have ha := hM.1.P hk (by decide) (mm_e7 hk) 0 _ rfl
  refine W.bast hx hb ha (r_alt hE 0 rfl (mN M a) (fun j => .int (mA M a j))) (fun q => by cases q) (by show ¬ (i < 0 ∨ (arrV _ _ _).slots.size ≤ _); rw [arrV_size]; exact hin) rfl rfl hdg fun H1 e1 z oq => ?_
  refine kk H1 _ ⟨hM.1.set hk (by decide) z oq rfl rfl (fun b hb => mm_eq rfl rfl (fun _ => rfl) (fun _ => rfl) (funext fun j => up2_ne1 hb) rfl rfl) ?_, hM.2⟩ (hS0.put z oq (hM.1.lo hk (by decide)))
  rw [mm_e7]; rotate_left; exact hk
  show H1[a]? = some (arrV _ _ (fun j => .int (up2 (mA M) a i.toNatClampNeg (nar 7 v) a j)))
  rw [e1]
  show some ((arrV _ _ (fun j => .int (mA M a j))).setSlot _ _) = _
  rw [arrV_store]
  congr 2
  funext q
  by_cases hq : q = i.toNatClampNeg
  · subst hq
    simp [updV, up2, nar, mA]; rfl
  · simp [updV, up2, hq, mB, mA, mL]
theorem r_cast {i v : Int32} (hx : p.tables.exec = Jvm.exec) (hb : c.code = cc) (hE : EnvOK E s) (hM : MOK E M H) (hS0 : va_S (eA E) s.heap H locs) (hg : sA 8 a i v M = some M') (hdg : decode cc pc = .ok (.castore, 1))
    (kk : ∀ (H1 : Heap) (locs1 : List Loc), MOK E M' H1 → va_S (eA E) s.heap H1 locs1 → W p l e R s m args below meth c H1 locs1 cells slots Q (F0 m (pc + 1) ls rest)) : W p l e R s m args below meth c H locs cells slots Q (F0 m pc ls (.int v :: .int i :: .ref a :: rest)) := by
  obtain ⟨⟨hk, hin⟩, rfl⟩ := ifs hg
  have ha := hM.1.P hk (by decide) (mm_e8 hk) 0 _ rfl
  refine W.cast hx hb ha (r_alt hE 1 rfl (mN M a) (fun j => .int (mA M a j))) (fun q => by cases q) (by show ¬ (i < 0 ∨ (arrV _ _ _).slots.size ≤ _); rw [arrV_size]; exact hin) rfl rfl hdg fun H1 e1 z oq => ?_
  refine kk H1 _ ⟨hM.1.set hk (by decide) z oq rfl rfl (fun b hb => mm_eq rfl rfl (fun _ => rfl) (fun _ => rfl) (funext fun j => up2_ne1 hb) rfl rfl) ?_, hM.2⟩ (hS0.put z oq (hM.1.lo hk (by decide)))
  rw [mm_e8]; rotate_left; exact hk
  show H1[a]? = some (arrV _ _ (fun j => .int (up2 (mA M) a i.toNatClampNeg (nar 8 v) a j)))
  rw [e1]
  show some ((arrV _ _ (fun j => .int (mA M a j))).setSlot _ _) = _
  rw [arrV_store]
  congr 2
  funext q
  by_cases hq : q = i.toNatClampNeg
  · subst hq
    simp [updV, up2, nar]; rfl
  · simp [updV, up2, hq, mB, mA, mL]
theorem r_iast {i v : Int32} (hx : p.tables.exec = Jvm.exec) (hb : c.code = cc) (hE : EnvOK E s) (hM : MOK E M H) (hS0 : va_S (eA E) s.heap H locs) (hg : sA 9 a i v M = some M') (hdg : decode cc pc = .ok (.iastore, 1))
    (kk : ∀ (H1 : Heap) (locs1 : List Loc), MOK E M' H1 → va_S (eA E) s.heap H1 locs1 → W p l e R s m args below meth c H1 locs1 cells slots Q (F0 m (pc + 1) ls rest)) : W p l e R s m args below meth c H locs cells slots Q (F0 m pc ls (.int v :: .int i :: .ref a :: rest)) := by
  obtain ⟨⟨hk, hin⟩, rfl⟩ := ifs hg
  have ha := hM.1.P hk (by decide) (mm_e9 hk) 0 _ rfl
  refine W.iast hx hb ha (r_alt hE 2 rfl (mN M a) (fun j => .int (mA M a j))) (fun q => by cases q) (by show ¬ (i < 0 ∨ (arrV _ _ _).slots.size ≤ _); rw [arrV_size]; exact hin) rfl rfl hdg fun H1 e1 z oq => ?_
  refine kk H1 _ ⟨hM.1.set hk (by decide) z oq rfl rfl (fun b hb => mm_eq rfl rfl (fun _ => rfl) (fun _ => rfl) (funext fun j => up2_ne1 hb) rfl rfl) ?_, hM.2⟩ (hS0.put z oq (hM.1.lo hk (by decide)))
  rw [mm_e9]; rotate_left; exact hk
  show H1[a]? = some (arrV _ _ (fun j => .int (up2 (mA M) a i.toNatClampNeg (nar 9 v) a j)))
  rw [e1]
  show some ((arrV _ _ (fun j => .int (mA M a j))).setSlot _ _) = _
  rw [arrV_store]
  congr 2
  funext q
  by_cases hq : q = i.toNatClampNeg
  · subst hq
    simp [updV, up2, nar]
  · simp [updV, up2, hq, mB, mA, mL]
theorem r_new {T : u_T} {N ci k : Nat} (ty : Nat → FieldType) {fs : List Value} (hx : p.tables.exec = Jvm.exec) (hb : c.code = cc) (hts : ∀ w ∈ lw_G, w.before args s = true) (hin : ∀ w ∈ u_ws C T N, w ∈ lw_G) (hty : ∀ k, k < N → parseFieldDescriptor (T k).2.2.1 = some (ty k)) (hown : s.vm.findClass own = some m.cls) (hE : EnvOK E s) (hM : MOK E M H) (hS : va_S (eA E) s.heap H locs)
    (hcl : Cond.classLink own index C ∈ lw_G) (hinst : Cond.instantiable C N ∈ lw_G) (hini : Cond.initialized C ∈ lw_G) (hc : vwCl[ci]? = some (C, T, N)) (hfs : ∀ j, j < N → defaultValue (ty j) = vp_V fs j) (hcells : cells + 1 ≤ R.cells) (hslots : slots + N ≤ R.slots)
    (hea : mm_e (eC E) (newO k M) (mZ M) = .inr (ci, fs)) (hdg : decode cc pc = .ok (.new index, 3))
    (kk : ∀ (H1 : Heap), MOK E (newO k M) H1 → va_S (eA E) s.heap H1 locs → W p l e R s m args below meth c H1 locs (cells + 1) (slots + N) Q (F0 m (pc + 3) ls (.ref (mZ M) :: rest))) : W p l e R s m args below meth c H locs cells slots Q (F0 m pc ls rest) := by
  have hKn := hE.1.1 ci _ hc
  refine W.newcK hx hb hown (hts _ hcl) (hts _ hinst) (hts _ hini) rfl hdg hcells hslots hKn.2.1 hM.1.1 fun H1 kC hkC e1 z1 o1 => ?_
  refine kk H1 ⟨hM.1.new hM.2 (by rw [z1, hM.1.1]) (fun q hq => o1 q (by rw [← hM.1.1]; exact hq)) (fun b hb => va_up_ne _ _ hb) rfl (fun b hb => mm_eq (va_up_ne _ _ hb) rfl (fun f => if_neg hb) (fun f => if_neg hb) rfl rfl rfl) ?_, Nat.le_succ_of_le hM.2⟩ ⟨Nat.le_trans hS.1 (by rw [z1, hM.1.1]; omega), fun x h1 h2 => (o1 x (by rw [← hM.1.1]; exact Nat.lt_of_lt_of_le h1 hS.1)).trans (hS.2.1 x h1 h2), hS.2.2⟩
  rw [hea]
  exact ⟨_, hc, (u_born ty hts hin hKn hkC e1 hty).to hfs⟩
theorem r_newa {atype : ArrayType} {n : Int32} {N' k t : Nat} (hx : p.tables.exec = Jvm.exec) (hb : c.code = cc) (hts : ∀ w ∈ lw_G, w.before args s = true) (harr : Cond.arrayClass (newarray.typeOf atype) ∈ lw_G) (hE : EnvOK E s) (hM : MOK E M H) (hS : va_S (eA E) s.heap H locs)
    (ht : (vtys (eC E))[t]? = some (eC E k, newarray.typeOf atype)) (hnb : ∀ c, newarray.typeOf atype ≠ .object c) (hn : ¬ n < 0) (hN : n.toNatClampNeg = N') (hbytes : N' * componentBytes (newarray.typeOf atype) ≤ 536870912) (hcells : cells + 1 ≤ R.cells) (hslots : slots + N' ≤ R.slots)
    {x : ClassId → vp_A} (hxx : ∀ cA, vp_cell cA (x cA) = arrV cA N' (fun _ => defaultValue (newarray.typeOf atype))) (hea : mm_e (eC E) (newA k N' M) (mZ M) = .inl (eC E k, x (eC E k))) (hdg : decode cc pc = .ok (.newarray atype, 2))
    (kk : ∀ (H1 : Heap), MOK E (newA k N' M) H1 → va_S (eA E) s.heap H1 locs → W p l e R s m args below meth c H1 locs (cells + 1) (slots + N') Q (F0 m (pc + 2) ls (.ref (mZ M) :: rest))) : W p l e R s m args below meth c H locs cells slots Q (F0 m pc ls (.int n :: rest)) := by
  refine va_newaK hx hb (hts _ harr) rfl hdg rfl hn hN hbytes hcells hslots hM.1.1 fun H1 cA e1 z1 o1 hAr hNm => ?_
  have hcA : cA = eC E k := by
    have h2 := (hE.1.2 t _ ht).2
    have h3 : s.vm.findClass ("[" ++ (newarray.typeOf atype).toString) = some (eC E k) := by
      cases atype <;> exact h2
    exact Option.some.inj (hNm.symm.trans h3)
  refine kk H1 ⟨hM.1.new hM.2 (by rw [z1, hM.1.1]) (fun q hq => o1 q (by rw [← hM.1.1]; exact hq)) (fun b hb => va_up_ne _ _ hb) rfl (fun b hb => mm_eq (va_up_ne _ _ hb) (va_up_ne _ _ hb) (fun _ => rfl) (fun _ => rfl) (va_up_ne _ _ hb) (va_up_ne _ _ hb) (va_up_ne _ _ hb)) ?_, Nat.le_succ_of_le hM.2⟩ ⟨Nat.le_trans hS.1 (by rw [z1, hM.1.1]; omega), fun x h1 h2 => (o1 x (by rw [← hM.1.1]; exact Nat.lt_of_lt_of_le h1 hS.1)).trans (hS.2.1 x h1 h2), hS.2.2⟩
  rw [hea]
  show H1[mZ M]? = some (vp_cell _ _)
  rw [hxx, ← hcA]
  exact e1
theorem r_newq {n : Int32} {N' k t : Nat} (hx : p.tables.exec = Jvm.exec) (hb : c.code = cc) (hts : ∀ w ∈ lw_G, w.before args s = true) (hown : s.vm.findClass own = some m.cls) (hcl : Cond.classLink own index C ∈ lw_G) (hov : C ∈ lw_over) (hE : EnvOK E s) (hM : MOK E M H) (hS : va_S (eA E) s.heap H locs)
    (ht : (vtys (eC E))[t]? = some (eC E k, .object C)) (hn : ¬ n < 0) (hN : n.toNatClampNeg = N') (hbytes : N' * 4 ≤ 536870912) (hcells : cells + 1 ≤ R.cells) (hslots : slots + N' ≤ R.slots)
    (hea : mm_e (eC E) (newA k N' M) (mZ M) = .inl (eC E k, N', .inr (.inr (.inr (.inr (fun _ => none)))))) (hdg : decode cc pc = .ok (.anewarray index, 3))
    (kk : ∀ (H1 : Heap), MOK E (newA k N' M) H1 → va_S (eA E) s.heap H1 locs → W p l e R s m args below meth c H1 locs (cells + 1) (slots + N') Q (F0 m (pc + 3) ls (.ref (mZ M) :: rest))) : W p l e R s m args below meth c H locs cells slots Q (F0 m pc ls (.int n :: rest)) := by
  subst hN
  refine W.anew hx hb hown (hts _ hcl) (va_AO.use (hE.2.2.2.2.2.2.2.2.2.2.1 C hov)) rfl hdg rfl hn hbytes hcells hslots fun cA kA comp f1 f2 f3 f4 => ?_
  generalize hH1 : H.push ({ cls := cA, slots := Array.replicate n.toNatClampNeg .null, vm := .none } : Cell) = H1
  have z1 : H1.size = H.size + 1 := by rw [← hH1, Array.size_push]
  have e1 : H1[H.size]? = some (arrV cA n.toNatClampNeg (fun _ => .null)) := by rw [← hH1, Array.getElem?_push_size, ← arrV_new]
  have o1 : ∀ q : Nat, q < H.size → H1[q]? = H[q]? := fun q hq => by rw [← hH1, Array.getElem?_push, if_neg (Nat.ne_of_lt hq)]
  have hcA : cA = eC E k := by
    obtain ⟨kA2, comp2, -, -, -, g4⟩ := (hE.1.2 t _ ht).2
    exact Option.some.inj (f1.symm.trans g4)
  have hz : H.size = mZ M := hM.1.1
  rw [hz]
  refine kk H1 ⟨hM.1.new hM.2 z1 o1 (fun b hb => va_up_ne _ _ hb) rfl (fun b hb => mm_eq (va_up_ne _ _ hb) (va_up_ne _ _ hb) (fun _ => rfl) (fun _ => rfl) (va_up_ne _ _ hb) (va_up_ne _ _ hb) (va_up_ne _ _ hb)) ?_, Nat.le_succ_of_le hM.2⟩ ⟨Nat.le_trans hS.1 (by omega), fun x h1 h2 => (o1 x (Nat.lt_of_lt_of_le h1 hS.1)).trans (hS.2.1 x h1 h2), hS.2.2⟩
  rw [hea]
  show H1[mZ M]? = some (vp_cell _ _)
  rw [vp_cell_q, ← hcA, ← hz]
  exact e1
theorem r_copy {a0 : Nat} {sp dp n : Int32} (hx : p.tables.exec = Jvm.exec) (hb : c.code = cc) (hml : c.maxLocals = ls.size) (hts : ∀ w ∈ lw_G, w.before args s = true) (hown : s.vm.findClass own = some m.cls) (hlink : Cond.methodLink own index arraycopyName ∈ lw_G) (hnat : Cond.native arraycopyName ∈ lw_G) (hstat : Cond.static arraycopyName ∈ lw_G) (hini : Cond.initialized "java/lang/System" ∈ lw_G)
    (hE : EnvOK E s) (hM : MOK E M H) (hS : va_S (eA E) s.heap H locs) (hg : cpA a0 sp a dp n M = some M') (hframes : 1 ≤ R.frames) (hlocals : (rest.map fun v => v.category).sum + (nativeFrameWords "java/lang/System" "arraycopy" 5 + 11) ≤ R.locals) (hdg : decode cc pc = .ok (.invokestatic index, 3))
    (kk : ∀ (H1 : Heap) (locs1 : List Loc), MOK E M' H1 → va_S (eA E) s.heap H1 locs1 → W p l e R s m args below meth c H1 locs1 cells slots Q (F0 m (pc + 3) ls rest)) : W p l e R s m args below meth c H locs cells slots Q (F0 m pc ls (.int n :: .int dp :: .ref a :: .int sp :: .ref a0 :: rest)) := by
  obtain ⟨⟨⟨hk0, hk1⟩, ⟨h1, h2, h3⟩, h4, h5⟩, rfl⟩ := ifs hg
  have nn : ∀ z : Int32, ¬ z < 0 → z.toInt = (z.toNatClampNeg : Int) := by
    intro z hz
    have hz0 : (0 : Int) ≤ z.toInt := by
      have := Int32.not_lt.mp hz
      simpa using Int32.le_iff_toInt_le.mp this
    show z.toInt = ((z.toInt.toNat : Nat) : Int)
    omega
  intro T hT X
  obtain ⟨f, hf⟩ : ∃ f, f = mA M a0 := ⟨_, rfl⟩
  obtain ⟨g, hgg⟩ : ∃ g, g = mA M a := ⟨_, rfl⟩
  have hc0 : H[a0]? = some (vp_cell (eC E 9) (mN M a0, .inl f)) := by rw [hf]; exact hM.1.P hk0 (by decide) (mm_e9 hk0) 0 _ rfl
  have hc1 : H[a]? = some (vp_cell (eC E 9) (mN M a, .inl g)) := by rw [hgg]; exact hM.1.P hk1 (by decide) (mm_e9 hk1) 0 _ rfl
  obtain ⟨-, k0, hk0', cm0, hkk0⟩ := r_alt hE 2 rfl (mN M a0) (fun j => .int (f j))
  obtain ⟨-, k1, hk1', cm1, hkk1⟩ := r_alt hE 2 rfl (mN M a) (fun j => .int (g j))
  obtain ⟨vm', X', step⟩ := X.arraycopy hx hown (hts _ hlink) (hts _ hnat) (hts _ hstat) (hts _ hini) (src := a0) (dst := a) (cs := vp_cell (eC E 9) (mN M a0, .inl f)) (cd := vp_cell (eC E 9) (mN M a, .inl g)) (srcPos := sp) (destPos := dp) (n := n) (by rw [hT]; exact hc0) (by rw [hT]; exact hc1)
    (fun _ h => by cases h) (fun _ h => by cases h) (fun h => by cases h) (fun h => by cases h) hk0' hk1' hkk0 hkk1 (by simp [refKind]) h1 h2 h3
    (by rw [nn sp h1, nn n h3]; show ¬ _ > ((arrV _ (mN M a0) (fun j => .int (f j))).slots.size : Int); rw [arrV_size]; omega)
    (by rw [nn dp h2, nn n h3]; show ¬ _ > ((arrV _ (mN M a) (fun j => .int (g j))).slots.size : Int); rw [arrV_size]; omega)
    (fun vm₁ _ i hi => by
      have e : (vp_cell (eC E 9) (mN M a0, .inl f)).slots.getD (sp.toNatClampNeg + i) .null = .int (f (sp.toNatClampNeg + i)) := by
        show (arrV _ (mN M a0) (fun j => .int (f j))).slots.getD _ _ = _
        rw [Array.getD_eq_getD_getElem?, arrV_read _ _ (by omega)]
        rfl
      refine ⟨?_, ?_⟩
      · rw [e]
        rfl
      · rw [e]
        exact trivial)
    (g := F0 m pc ls (.int n :: .int dp :: .ref a :: .int sp :: .ref a0 :: rest)) rfl (by rw [hml]) (rest := rest) rfl (by rw [hb]; exact hdg) hframes (by show 2 * 0 + _ + _ ≤ _; omega)
  have e1 : copied (vp_cell (eC E 9) (mN M a0, .inl f)) (vp_cell (eC E 9) (mN M a, .inl g)) sp dp n = vp_cell (eC E 9) (mN M a, .inl (va_cpy f g sp.toNatClampNeg dp.toNatClampNeg n.toNatClampNeg)) := va_copied (fun z => .int z) (eC E 9) (eC E 9) f g h4
  rw [e1] at X' step
  have hl : a < H.size := (Array.getElem?_eq_some_iff.mp hc1).1
  have hheap : ((T.setVm vm').setCell a (vp_cell (eC E 9) (mN M a, .inl (va_cpy f g sp.toNatClampNeg dp.toNatClampNeg n.toNatClampNeg)))).heap = H.setIfInBounds a (vp_cell (eC E 9) (mN M a, .inl (va_cpy f g sp.toNatClampNeg dp.toNatClampNeg n.toNatClampNeg))) := by rw [← hT]; rfl
  generalize hH1 : H.setIfInBounds a (vp_cell (eC E 9) (mN M a, .inl (va_cpy f g sp.toNatClampNeg dp.toNatClampNeg n.toNatClampNeg))) = H1 at hheap
  have oq : ∀ q : Nat, q ≠ a → H1[q]? = H[q]? := fun q hq => by rw [← hH1]; simp [Array.getElem?_setIfInBounds, Ne.symm hq]
  have z : H1.size = H.size := by rw [← hH1]; simp
  have ea : H1[a]? = some (vp_cell (eC E 9) (mN M a, .inl (va_cpy f g sp.toNatClampNeg dp.toNatClampNeg n.toNatClampNeg))) := by rw [← hH1]; simp [Array.getElem?_setIfInBounds, hl]
  obtain ⟨t, a1, b1⟩ := kk H1 _ ⟨hM.1.set hk1 (by decide) z oq rfl rfl (fun b hb => mm_eq rfl rfl (fun _ => rfl) (fun _ => rfl) (va_up_ne _ _ hb) rfl rfl) (by
      rw [mm_e9]; rotate_left; exact hk1
      show H1[a]? = some (vp_cell _ (_, .inl (va_up (mA M) a _ a)))
      rw [va_up_self, ← hf, ← hgg]
      exact ea), hM.2⟩ ⟨by rw [z]; exact hS.1, fun q g1 g2 => by
      rw [oq q (fun e => g2 (by rw [e]; exact hM.1.lo hk1 (by decide)))]
      exact hS.2.1 q g1 g2, fun q hq => by
      rcases List.mem_append.mp hq with h | h
      · exact hS.2.2 q h
      · obtain ⟨z, -, hz⟩ := List.mem_map.mp h
        rw [← hz]
        exact hM.1.lo hk1 (by decide)⟩ _ hheap X'
  exact ⟨t, step t a1, b1⟩
theorem r_copyB {a0 : Nat} {sp dp n : Int32} (hx : p.tables.exec = Jvm.exec) (hb : c.code = cc) (hml : c.maxLocals = ls.size) (hts : ∀ w ∈ lw_G, w.before args s = true) (hown : s.vm.findClass own = some m.cls) (hlink : Cond.methodLink own index arraycopyName ∈ lw_G) (hnat : Cond.native arraycopyName ∈ lw_G) (hstat : Cond.static arraycopyName ∈ lw_G) (hini : Cond.initialized "java/lang/System" ∈ lw_G)
    (hE : EnvOK E s) (hM : MOK E M H) (hS : va_S (eA E) s.heap H locs) (hg : cpB a0 sp a dp n M = some M') (hframes : 1 ≤ R.frames) (hlocals : (rest.map fun v => v.category).sum + (nativeFrameWords "java/lang/System" "arraycopy" 5 + 11) ≤ R.locals) (hdg : decode cc pc = .ok (.invokestatic index, 3))
    (kk : ∀ (H1 : Heap) (locs1 : List Loc), MOK E M' H1 → va_S (eA E) s.heap H1 locs1 → W p l e R s m args below meth c H1 locs1 cells slots Q (F0 m (pc + 3) ls rest)) : W p l e R s m args below meth c H locs cells slots Q (F0 m pc ls (.int n :: .int dp :: .ref a :: .int sp :: .ref a0 :: rest)) := by
  obtain ⟨⟨⟨hk0, hk1⟩, ⟨h1, h2, h3⟩, ⟨h4, h5⟩, hfit⟩, rfl⟩ := ifs hg
  have nn : ∀ z : Int32, ¬ z < 0 → z.toInt = (z.toNatClampNeg : Int) := by
    intro z hz
    have hz0 : (0 : Int) ≤ z.toInt := by
      have := Int32.not_lt.mp hz
      simpa using Int32.le_iff_toInt_le.mp this
    show z.toInt = ((z.toInt.toNat : Nat) : Int)
    omega
  intro T hT X
  obtain ⟨f, hf⟩ : ∃ f, f = mA M a0 := ⟨_, rfl⟩
  obtain ⟨g, hgg⟩ : ∃ g, g = mA M a := ⟨_, rfl⟩
  have hc0 : H[a0]? = some (vp_cell (eC E 7) (mN M a0, .inl f)) := by rw [hf]; exact hM.1.P hk0 (by decide) (mm_e7 hk0) 0 _ rfl
  have hc1 : H[a]? = some (vp_cell (eC E 7) (mN M a, .inl g)) := by rw [hgg]; exact hM.1.P hk1 (by decide) (mm_e7 hk1) 0 _ rfl
  obtain ⟨-, k0, hk0', cm0, hkk0⟩ := r_alt hE 0 rfl (mN M a0) (fun j => .int (f j))
  obtain ⟨-, k1, hk1', cm1, hkk1⟩ := r_alt hE 0 rfl (mN M a) (fun j => .int (g j))
  obtain ⟨vm', X', step⟩ := X.arraycopy hx hown (hts _ hlink) (hts _ hnat) (hts _ hstat) (hts _ hini) (src := a0) (dst := a) (cs := vp_cell (eC E 7) (mN M a0, .inl f)) (cd := vp_cell (eC E 7) (mN M a, .inl g)) (srcPos := sp) (destPos := dp) (n := n) (by rw [hT]; exact hc0) (by rw [hT]; exact hc1)
    (fun _ h => by cases h) (fun _ h => by cases h) (fun h => by cases h) (fun h => by cases h) hk0' hk1' hkk0 hkk1 (by simp [refKind]) h1 h2 h3
    (by rw [nn sp h1, nn n h3]; show ¬ _ > ((arrV _ (mN M a0) (fun j => .int (f j))).slots.size : Int); rw [arrV_size]; omega)
    (by rw [nn dp h2, nn n h3]; show ¬ _ > ((arrV _ (mN M a) (fun j => .int (g j))).slots.size : Int); rw [arrV_size]; omega)
    (fun vm₁ _ i hi => by
      have e : (vp_cell (eC E 7) (mN M a0, .inl f)).slots.getD (sp.toNatClampNeg + i) .null = .int (f (sp.toNatClampNeg + i)) := by
        show (arrV _ (mN M a0) (fun j => .int (f j))).slots.getD _ _ = _
        rw [Array.getD_eq_getD_getElem?, arrV_read _ _ (by omega)]
        rfl
      refine ⟨?_, ?_⟩
      · rw [e, hf]
        exact hfit i hi
      · rw [e]
        exact trivial)
    (g := F0 m pc ls (.int n :: .int dp :: .ref a :: .int sp :: .ref a0 :: rest)) rfl (by rw [hml]) (rest := rest) rfl (by rw [hb]; exact hdg) hframes (by show 2 * 0 + _ + _ ≤ _; omega)
  have e1 : copied (vp_cell (eC E 7) (mN M a0, .inl f)) (vp_cell (eC E 7) (mN M a, .inl g)) sp dp n = vp_cell (eC E 7) (mN M a, .inl (va_cpy f g sp.toNatClampNeg dp.toNatClampNeg n.toNatClampNeg)) := va_copied (fun z => .int z) (eC E 7) (eC E 7) f g h4
  rw [e1] at X' step
  have hl : a < H.size := (Array.getElem?_eq_some_iff.mp hc1).1
  have hheap : ((T.setVm vm').setCell a (vp_cell (eC E 7) (mN M a, .inl (va_cpy f g sp.toNatClampNeg dp.toNatClampNeg n.toNatClampNeg)))).heap = H.setIfInBounds a (vp_cell (eC E 7) (mN M a, .inl (va_cpy f g sp.toNatClampNeg dp.toNatClampNeg n.toNatClampNeg))) := by rw [← hT]; rfl
  generalize hH1 : H.setIfInBounds a (vp_cell (eC E 7) (mN M a, .inl (va_cpy f g sp.toNatClampNeg dp.toNatClampNeg n.toNatClampNeg))) = H1 at hheap
  have oq : ∀ q : Nat, q ≠ a → H1[q]? = H[q]? := fun q hq => by rw [← hH1]; simp [Array.getElem?_setIfInBounds, Ne.symm hq]
  have z : H1.size = H.size := by rw [← hH1]; simp
  have ea : H1[a]? = some (vp_cell (eC E 7) (mN M a, .inl (va_cpy f g sp.toNatClampNeg dp.toNatClampNeg n.toNatClampNeg))) := by rw [← hH1]; simp [Array.getElem?_setIfInBounds, hl]
  obtain ⟨t, a1, b1⟩ := kk H1 _ ⟨hM.1.set hk1 (by decide) z oq rfl rfl (fun b hb => mm_eq rfl rfl (fun _ => rfl) (fun _ => rfl) (va_up_ne _ _ hb) rfl rfl) (by
      rw [mm_e7]; rotate_left; exact hk1
      show H1[a]? = some (vp_cell _ (_, .inl (va_up (mA M) a _ a)))
      rw [va_up_self, ← hf, ← hgg]
      exact ea), hM.2⟩ ⟨by rw [z]; exact hS.1, fun q g1 g2 => by
      rw [oq q (fun e => g2 (by rw [e]; exact hM.1.lo hk1 (by decide)))]
      exact hS.2.1 q g1 g2, fun q hq => by
      rcases List.mem_append.mp hq with h | h
      · exact hS.2.2 q h
      · obtain ⟨z, -, hz⟩ := List.mem_map.mp h
        rw [← hz]
        exact hM.1.lo hk1 (by decide)⟩ _ hheap X'
  exact ⟨t, step t a1, b1⟩
end CR
