/-! FIELDS by name -/
section FR
variable {p : Program} {l : Launch} {e : Env} {R : Room} {s : State} {m : MethodId} {args : Array Value} {below : List Frame} {meth : Method} {c : Code} {H : Heap} {locs : List Loc} {cells slots : Nat} {Q : State → Prop}
variable {cc : ByteArray} {pc : Nat} {ls : Array Slot} {rest : List Value} {E : KEnv} {M M' : Mem} {own C : String} {nL : Nat} {index a : Nat}
theorem rgn_0_0 {v : Nat} (hx : p.tables.exec = Jvm.exec) (hb : c.code = cc) (hts : ∀ w ∈ lw_G, w.before args s = true) (hown : s.vm.findClass own = some m.cls) (hE : EnvOK E s) (hM : MOK E M H) (hl : Cond.fieldLink own index RX0 "rows" "[LOfflineNotes$World;" ∈ lw_G) (hg : gRn 1 0 a M = some v) (hdg : decode cc pc = .ok (.getfield index, 3))
    (kk : W p l e R s m args below meth c H locs cells slots Q (F0 m (pc + 3) ls (.ref v :: rest))) : W p l e R s m args below meth c H locs cells slots Q (F0 m pc ls (.ref a :: rest)) := by
  obtain ⟨hk, h2⟩ := ifg hg
  refine r_get (v := .ref v) hx hb hts inG0 hown hE hM hk (by decide) (mm_e1 hk) rfl 0 (by decide) hl rfl ?_ hdg kk
  show some (va_rf (mR M 0 a)) = _
  rw [h2]; rfl
theorem rp_0_0 {v : Nat} (hx : p.tables.exec = Jvm.exec) (hb : c.code = cc) (hts : ∀ w ∈ lw_G, w.before args s = true) (hown : s.vm.findClass own = some m.cls) (hE : EnvOK E s) (hM : MOK E M H) (hl : Cond.fieldLink own index RX0 "rows" "[LOfflineNotes$World;" ∈ lw_G) (hin2 : meth.name = "<init>") (hown2 : RX0 = own) (hS : va_S (eA E) s.heap H locs) (hg : sR 1 0 a (some v) M = some M') (hdg : decode cc pc = .ok (.putfield index, 3))
    (kk : ∀ (H1 : Heap) (locs1 : List Loc), MOK E M' H1 → va_S (eA E) s.heap H1 locs1 → W p l e R s m args below meth c H1 locs1 cells slots Q (F0 m (pc + 3) ls rest)) : W p l e R s m args below meth c H locs cells slots Q (F0 m pc ls (.ref v :: .ref a :: rest)) := by
  obtain ⟨hk, rfl⟩ := ifs hg
  refine r_put (ty := .array (.object "OfflineNotes$World")) (v := .ref v) (M' := (mK M, mN M, mI M, up2 (mR M) 0 a (some v), mA M, mB M, mL M, mZ M)) hx hb hts inG0 tyX0 tyX0_ok nmX0 hown hE hM hS hk (by decide) (mm_e1 hk) rfl 0 (by decide) hl rfl (Or.inr ⟨rfl, hin2, hown2⟩) rfl rfl rfl (Nat.le_of_ble_eq_true rfl) rfl rfl (fun b hb => mm_eq rfl rfl (fun _ => rfl) (fun f => up2_ne2 hb) rfl rfl rfl) ?_ hdg kk
  rw [mm_e1]; rotate_left; exact hk
  simp [up2, va_rf, mR, mI]
theorem rg_0_1 {v : Int32} (hx : p.tables.exec = Jvm.exec) (hb : c.code = cc) (hts : ∀ w ∈ lw_G, w.before args s = true) (hown : s.vm.findClass own = some m.cls) (hE : EnvOK E s) (hM : MOK E M H) (hl : Cond.fieldLink own index RX0 "next" "I" ∈ lw_G) (hg : gI 1 1 a M = some v) (hdg : decode cc pc = .ok (.getfield index, 3))
    (kk : W p l e R s m args below meth c H locs cells slots Q (F0 m (pc + 3) ls (.int v :: rest))) : W p l e R s m args below meth c H locs cells slots Q (F0 m pc ls (.ref a :: rest)) := by
  obtain ⟨hk, rfl⟩ := ifs hg
  exact r_get (v := .int _) hx hb hts inG0 hown hE hM hk (by decide) (mm_e1 hk) rfl 1 (by decide) hl rfl rfl hdg kk
theorem rp_0_1 {v : Int32} (hx : p.tables.exec = Jvm.exec) (hb : c.code = cc) (hts : ∀ w ∈ lw_G, w.before args s = true) (hown : s.vm.findClass own = some m.cls) (hE : EnvOK E s) (hM : MOK E M H) (hl : Cond.fieldLink own index RX0 "next" "I" ∈ lw_G) (hS : va_S (eA E) s.heap H locs) (hg : sI 1 1 a v M = some M') (hdg : decode cc pc = .ok (.putfield index, 3))
    (kk : ∀ (H1 : Heap) (locs1 : List Loc), MOK E M' H1 → va_S (eA E) s.heap H1 locs1 → W p l e R s m args below meth c H1 locs1 cells slots Q (F0 m (pc + 3) ls rest)) : W p l e R s m args below meth c H locs cells slots Q (F0 m pc ls (.int v :: .ref a :: rest)) := by
  obtain ⟨hk, rfl⟩ := ifs hg
  refine r_put (ty := .int) (v := .int v) (M' := (mK M, mN M, up2 (mI M) 1 a v, mR M, mA M, mB M, mL M, mZ M)) hx hb hts inG0 tyX0 tyX0_ok nmX0 hown hE hM hS hk (by decide) (mm_e1 hk) rfl 1 (by decide) hl rfl (Or.inl rfl) rfl rfl rfl (Nat.le_of_ble_eq_true rfl) rfl rfl (fun b hb => mm_eq rfl rfl (fun f => up2_ne2 hb) (fun _ => rfl) rfl rfl rfl) ?_ hdg kk
  rw [mm_e1]; rotate_left; exact hk
  simp [up2, mR, mI]
theorem rg_0_2 {v : Int32} (hx : p.tables.exec = Jvm.exec) (hb : c.code = cc) (hts : ∀ w ∈ lw_G, w.before args s = true) (hown : s.vm.findClass own = some m.cls) (hE : EnvOK E s) (hM : MOK E M H) (hl : Cond.fieldLink own index RX0 "count" "I" ∈ lw_G) (hg : gI 1 2 a M = some v) (hdg : decode cc pc = .ok (.getfield index, 3))
    (kk : W p l e R s m args below meth c H locs cells slots Q (F0 m (pc + 3) ls (.int v :: rest))) : W p l e R s m args below meth c H locs cells slots Q (F0 m pc ls (.ref a :: rest)) := by
  obtain ⟨hk, rfl⟩ := ifs hg
  exact r_get (v := .int _) hx hb hts inG0 hown hE hM hk (by decide) (mm_e1 hk) rfl 2 (by decide) hl rfl rfl hdg kk
theorem rp_0_2 {v : Int32} (hx : p.tables.exec = Jvm.exec) (hb : c.code = cc) (hts : ∀ w ∈ lw_G, w.before args s = true) (hown : s.vm.findClass own = some m.cls) (hE : EnvOK E s) (hM : MOK E M H) (hl : Cond.fieldLink own index RX0 "count" "I" ∈ lw_G) (hS : va_S (eA E) s.heap H locs) (hg : sI 1 2 a v M = some M') (hdg : decode cc pc = .ok (.putfield index, 3))
    (kk : ∀ (H1 : Heap) (locs1 : List Loc), MOK E M' H1 → va_S (eA E) s.heap H1 locs1 → W p l e R s m args below meth c H1 locs1 cells slots Q (F0 m (pc + 3) ls rest)) : W p l e R s m args below meth c H locs cells slots Q (F0 m pc ls (.int v :: .ref a :: rest)) := by
  obtain ⟨hk, rfl⟩ := ifs hg
  refine r_put (ty := .int) (v := .int v) (M' := (mK M, mN M, up2 (mI M) 2 a v, mR M, mA M, mB M, mL M, mZ M)) hx hb hts inG0 tyX0 tyX0_ok nmX0 hown hE hM hS hk (by decide) (mm_e1 hk) rfl 2 (by decide) hl rfl (Or.inl rfl) rfl rfl rfl (Nat.le_of_ble_eq_true rfl) rfl rfl (fun b hb => mm_eq rfl rfl (fun f => up2_ne2 hb) (fun _ => rfl) rfl rfl rfl) ?_ hdg kk
  rw [mm_e1]; rotate_left; exact hk
  simp [up2, mR, mI]
theorem rgn_1_0 {v : Nat} (hx : p.tables.exec = Jvm.exec) (hb : c.code = cc) (hts : ∀ w ∈ lw_G, w.before args s = true) (hown : s.vm.findClass own = some m.cls) (hE : EnvOK E s) (hM : MOK E M H) (hl : Cond.fieldLink own index RX1 "text" "[C" ∈ lw_G) (hg : gRn 2 32 a M = some v) (hdg : decode cc pc = .ok (.getfield index, 3))
    (kk : W p l e R s m args below meth c H locs cells slots Q (F0 m (pc + 3) ls (.ref v :: rest))) : W p l e R s m args below meth c H locs cells slots Q (F0 m pc ls (.ref a :: rest)) := by
  obtain ⟨hk, h2⟩ := ifg hg
  refine r_get (v := .ref v) hx hb hts inG1 hown hE hM hk (by decide) (mm_e2 hk) rfl 0 (by decide) hl rfl ?_ hdg kk
  show some (va_rf (mR M 32 a)) = _
  rw [h2]; rfl
theorem rp_1_0 {v : Nat} (hx : p.tables.exec = Jvm.exec) (hb : c.code = cc) (hts : ∀ w ∈ lw_G, w.before args s = true) (hown : s.vm.findClass own = some m.cls) (hE : EnvOK E s) (hM : MOK E M H) (hl : Cond.fieldLink own index RX1 "text" "[C" ∈ lw_G) (hin2 : meth.name = "<init>") (hown2 : RX1 = own) (hS : va_S (eA E) s.heap H locs) (hg : sR 2 32 a (some v) M = some M') (hdg : decode cc pc = .ok (.putfield index, 3))
    (kk : ∀ (H1 : Heap) (locs1 : List Loc), MOK E M' H1 → va_S (eA E) s.heap H1 locs1 → W p l e R s m args below meth c H1 locs1 cells slots Q (F0 m (pc + 3) ls rest)) : W p l e R s m args below meth c H locs cells slots Q (F0 m pc ls (.ref v :: .ref a :: rest)) := by
  obtain ⟨hk, rfl⟩ := ifs hg
  refine r_put (ty := .array .char) (v := .ref v) (M' := (mK M, mN M, mI M, up2 (mR M) 32 a (some v), mA M, mB M, mL M, mZ M)) hx hb hts inG1 tyX1 tyX1_ok nmX1 hown hE hM hS hk (by decide) (mm_e2 hk) rfl 0 (by decide) hl rfl (Or.inr ⟨rfl, hin2, hown2⟩) rfl rfl rfl (Nat.le_of_ble_eq_true rfl) rfl rfl (fun b hb => mm_eq rfl rfl (fun _ => rfl) (fun f => up2_ne2 hb) rfl rfl rfl) ?_ hdg kk
  rw [mm_e2]; rotate_left; exact hk
  simp [up2, va_rf, mR, mI]
theorem rg_1_1 {v : Int32} (hx : p.tables.exec = Jvm.exec) (hb : c.code = cc) (hts : ∀ w ∈ lw_G, w.before args s = true) (hown : s.vm.findClass own = some m.cls) (hE : EnvOK E s) (hM : MOK E M H) (hl : Cond.fieldLink own index RX1 "length" "I" ∈ lw_G) (hg : gI 2 33 a M = some v) (hdg : decode cc pc = .ok (.getfield index, 3))
    (kk : W p l e R s m args below meth c H locs cells slots Q (F0 m (pc + 3) ls (.int v :: rest))) : W p l e R s m args below meth c H locs cells slots Q (F0 m pc ls (.ref a :: rest)) := by
  obtain ⟨hk, rfl⟩ := ifs hg
  exact r_get (v := .int _) hx hb hts inG1 hown hE hM hk (by decide) (mm_e2 hk) rfl 1 (by decide) hl rfl rfl hdg kk
theorem rp_1_1 {v : Int32} (hx : p.tables.exec = Jvm.exec) (hb : c.code = cc) (hts : ∀ w ∈ lw_G, w.before args s = true) (hown : s.vm.findClass own = some m.cls) (hE : EnvOK E s) (hM : MOK E M H) (hl : Cond.fieldLink own index RX1 "length" "I" ∈ lw_G) (hin2 : meth.name = "<init>") (hown2 : RX1 = own) (hS : va_S (eA E) s.heap H locs) (hg : sI 2 33 a v M = some M') (hdg : decode cc pc = .ok (.putfield index, 3))
    (kk : ∀ (H1 : Heap) (locs1 : List Loc), MOK E M' H1 → va_S (eA E) s.heap H1 locs1 → W p l e R s m args below meth c H1 locs1 cells slots Q (F0 m (pc + 3) ls rest)) : W p l e R s m args below meth c H locs cells slots Q (F0 m pc ls (.int v :: .ref a :: rest)) := by
  obtain ⟨hk, rfl⟩ := ifs hg
  refine r_put (ty := .int) (v := .int v) (M' := (mK M, mN M, up2 (mI M) 33 a v, mR M, mA M, mB M, mL M, mZ M)) hx hb hts inG1 tyX1 tyX1_ok nmX1 hown hE hM hS hk (by decide) (mm_e2 hk) rfl 1 (by decide) hl rfl (Or.inr ⟨rfl, hin2, hown2⟩) rfl rfl rfl (Nat.le_of_ble_eq_true rfl) rfl rfl (fun b hb => mm_eq rfl rfl (fun f => up2_ne2 hb) (fun _ => rfl) rfl rfl rfl) ?_ hdg kk
  rw [mm_e2]; rotate_left; exact hk
  simp [up2, mR, mI]
theorem rgn_1_2 {v : Nat} (hx : p.tables.exec = Jvm.exec) (hb : c.code = cc) (hts : ∀ w ∈ lw_G, w.before args s = true) (hown : s.vm.findClass own = some m.cls) (hE : EnvOK E s) (hM : MOK E M H) (hl : Cond.fieldLink own index RX1 "world" "LOfflineNotes$World;" ∈ lw_G) (hg : gRn 2 34 a M = some v) (hdg : decode cc pc = .ok (.getfield index, 3))
    (kk : W p l e R s m args below meth c H locs cells slots Q (F0 m (pc + 3) ls (.ref v :: rest))) : W p l e R s m args below meth c H locs cells slots Q (F0 m pc ls (.ref a :: rest)) := by
  obtain ⟨hk, h2⟩ := ifg hg
  refine r_get (v := .ref v) hx hb hts inG1 hown hE hM hk (by decide) (mm_e2 hk) rfl 2 (by decide) hl rfl ?_ hdg kk
  show some (va_rf (mR M 34 a)) = _
  rw [h2]; rfl
theorem rp_1_2 {v : Nat} (hx : p.tables.exec = Jvm.exec) (hb : c.code = cc) (hts : ∀ w ∈ lw_G, w.before args s = true) (hown : s.vm.findClass own = some m.cls) (hE : EnvOK E s) (hM : MOK E M H) (hl : Cond.fieldLink own index RX1 "world" "LOfflineNotes$World;" ∈ lw_G) (hin2 : meth.name = "<init>") (hown2 : RX1 = own) (hS : va_S (eA E) s.heap H locs) (hg : sR 2 34 a (some v) M = some M') (hdg : decode cc pc = .ok (.putfield index, 3))
    (kk : ∀ (H1 : Heap) (locs1 : List Loc), MOK E M' H1 → va_S (eA E) s.heap H1 locs1 → W p l e R s m args below meth c H1 locs1 cells slots Q (F0 m (pc + 3) ls rest)) : W p l e R s m args below meth c H locs cells slots Q (F0 m pc ls (.ref v :: .ref a :: rest)) := by
  obtain ⟨hk, rfl⟩ := ifs hg
  refine r_put (ty := .object "OfflineNotes$World") (v := .ref v) (M' := (mK M, mN M, mI M, up2 (mR M) 34 a (some v), mA M, mB M, mL M, mZ M)) hx hb hts inG1 tyX1 tyX1_ok nmX1 hown hE hM hS hk (by decide) (mm_e2 hk) rfl 2 (by decide) hl rfl (Or.inr ⟨rfl, hin2, hown2⟩) rfl rfl rfl (Nat.le_of_ble_eq_true rfl) rfl rfl (fun b hb => mm_eq rfl rfl (fun _ => rfl) (fun f => up2_ne2 hb) rfl rfl rfl) ?_ hdg kk
  rw [mm_e2]; rotate_left; exact hk
  simp [up2, va_rf, mR, mI]
theorem rg_1_3 {v : Int32} (hx : p.tables.exec = Jvm.exec) (hb : c.code = cc) (hts : ∀ w ∈ lw_G, w.before args s = true) (hown : s.vm.findClass own = some m.cls) (hE : EnvOK E s) (hM : MOK E M H) (hl : Cond.fieldLink own index RX1 "type" "I" ∈ lw_G) (hg : gI 2 35 a M = some v) (hdg : decode cc pc = .ok (.getfield index, 3))
    (kk : W p l e R s m args below meth c H locs cells slots Q (F0 m (pc + 3) ls (.int v :: rest))) : W p l e R s m args below meth c H locs cells slots Q (F0 m pc ls (.ref a :: rest)) := by
  obtain ⟨hk, rfl⟩ := ifs hg
  exact r_get (v := .int _) hx hb hts inG1 hown hE hM hk (by decide) (mm_e2 hk) rfl 3 (by decide) hl rfl rfl hdg kk
theorem rp_1_3 {v : Int32} (hx : p.tables.exec = Jvm.exec) (hb : c.code = cc) (hts : ∀ w ∈ lw_G, w.before args s = true) (hown : s.vm.findClass own = some m.cls) (hE : EnvOK E s) (hM : MOK E M H) (hl : Cond.fieldLink own index RX1 "type" "I" ∈ lw_G) (hS : va_S (eA E) s.heap H locs) (hg : sI 2 35 a v M = some M') (hdg : decode cc pc = .ok (.putfield index, 3))
    (kk : ∀ (H1 : Heap) (locs1 : List Loc), MOK E M' H1 → va_S (eA E) s.heap H1 locs1 → W p l e R s m args below meth c H1 locs1 cells slots Q (F0 m (pc + 3) ls rest)) : W p l e R s m args below meth c H locs cells slots Q (F0 m pc ls (.int v :: .ref a :: rest)) := by
  obtain ⟨hk, rfl⟩ := ifs hg
  refine r_put (ty := .int) (v := .int v) (M' := (mK M, mN M, up2 (mI M) 35 a v, mR M, mA M, mB M, mL M, mZ M)) hx hb hts inG1 tyX1 tyX1_ok nmX1 hown hE hM hS hk (by decide) (mm_e2 hk) rfl 3 (by decide) hl rfl (Or.inl rfl) rfl rfl rfl (Nat.le_of_ble_eq_true rfl) rfl rfl (fun b hb => mm_eq rfl rfl (fun f => up2_ne2 hb) (fun _ => rfl) rfl rfl rfl) ?_ hdg kk
  rw [mm_e2]; rotate_left; exact hk
  simp [up2, mR, mI]
theorem rg_1_4 {v : Int32} (hx : p.tables.exec = Jvm.exec) (hb : c.code = cc) (hts : ∀ w ∈ lw_G, w.before args s = true) (hown : s.vm.findClass own = some m.cls) (hE : EnvOK E s) (hM : MOK E M H) (hl : Cond.fieldLink own index RX1 "start" "I" ∈ lw_G) (hg : gI 2 36 a M = some v) (hdg : decode cc pc = .ok (.getfield index, 3))
    (kk : W p l e R s m args below meth c H locs cells slots Q (F0 m (pc + 3) ls (.int v :: rest))) : W p l e R s m args below meth c H locs cells slots Q (F0 m pc ls (.ref a :: rest)) := by
  obtain ⟨hk, rfl⟩ := ifs hg
  exact r_get (v := .int _) hx hb hts inG1 hown hE hM hk (by decide) (mm_e2 hk) rfl 4 (by decide) hl rfl rfl hdg kk
theorem rp_1_4 {v : Int32} (hx : p.tables.exec = Jvm.exec) (hb : c.code = cc) (hts : ∀ w ∈ lw_G, w.before args s = true) (hown : s.vm.findClass own = some m.cls) (hE : EnvOK E s) (hM : MOK E M H) (hl : Cond.fieldLink own index RX1 "start" "I" ∈ lw_G) (hS : va_S (eA E) s.heap H locs) (hg : sI 2 36 a v M = some M') (hdg : decode cc pc = .ok (.putfield index, 3))
    (kk : ∀ (H1 : Heap) (locs1 : List Loc), MOK E M' H1 → va_S (eA E) s.heap H1 locs1 → W p l e R s m args below meth c H1 locs1 cells slots Q (F0 m (pc + 3) ls rest)) : W p l e R s m args below meth c H locs cells slots Q (F0 m pc ls (.int v :: .ref a :: rest)) := by
  obtain ⟨hk, rfl⟩ := ifs hg
  refine r_put (ty := .int) (v := .int v) (M' := (mK M, mN M, up2 (mI M) 36 a v, mR M, mA M, mB M, mL M, mZ M)) hx hb hts inG1 tyX1 tyX1_ok nmX1 hown hE hM hS hk (by decide) (mm_e2 hk) rfl 4 (by decide) hl rfl (Or.inl rfl) rfl rfl rfl (Nat.le_of_ble_eq_true rfl) rfl rfl (fun b hb => mm_eq rfl rfl (fun f => up2_ne2 hb) (fun _ => rfl) rfl rfl rfl) ?_ hdg kk
  rw [mm_e2]; rotate_left; exact hk
  simp [up2, mR, mI]
theorem rg_1_5 {v : Int32} (hx : p.tables.exec = Jvm.exec) (hb : c.code = cc) (hts : ∀ w ∈ lw_G, w.before args s = true) (hown : s.vm.findClass own = some m.cls) (hE : EnvOK E s) (hM : MOK E M H) (hl : Cond.fieldLink own index RX1 "end" "I" ∈ lw_G) (hg : gI 2 37 a M = some v) (hdg : decode cc pc = .ok (.getfield index, 3))
    (kk : W p l e R s m args below meth c H locs cells slots Q (F0 m (pc + 3) ls (.int v :: rest))) : W p l e R s m args below meth c H locs cells slots Q (F0 m pc ls (.ref a :: rest)) := by
  obtain ⟨hk, rfl⟩ := ifs hg
  exact r_get (v := .int _) hx hb hts inG1 hown hE hM hk (by decide) (mm_e2 hk) rfl 5 (by decide) hl rfl rfl hdg kk
theorem rp_1_5 {v : Int32} (hx : p.tables.exec = Jvm.exec) (hb : c.code = cc) (hts : ∀ w ∈ lw_G, w.before args s = true) (hown : s.vm.findClass own = some m.cls) (hE : EnvOK E s) (hM : MOK E M H) (hl : Cond.fieldLink own index RX1 "end" "I" ∈ lw_G) (hS : va_S (eA E) s.heap H locs) (hg : sI 2 37 a v M = some M') (hdg : decode cc pc = .ok (.putfield index, 3))
    (kk : ∀ (H1 : Heap) (locs1 : List Loc), MOK E M' H1 → va_S (eA E) s.heap H1 locs1 → W p l e R s m args below meth c H1 locs1 cells slots Q (F0 m (pc + 3) ls rest)) : W p l e R s m args below meth c H locs cells slots Q (F0 m pc ls (.int v :: .ref a :: rest)) := by
  obtain ⟨hk, rfl⟩ := ifs hg
  refine r_put (ty := .int) (v := .int v) (M' := (mK M, mN M, up2 (mI M) 37 a v, mR M, mA M, mB M, mL M, mZ M)) hx hb hts inG1 tyX1 tyX1_ok nmX1 hown hE hM hS hk (by decide) (mm_e2 hk) rfl 5 (by decide) hl rfl (Or.inl rfl) rfl rfl rfl (Nat.le_of_ble_eq_true rfl) rfl rfl (fun b hb => mm_eq rfl rfl (fun f => up2_ne2 hb) (fun _ => rfl) rfl rfl rfl) ?_ hdg kk
  rw [mm_e2]; rotate_left; exact hk
  simp [up2, mR, mI]
theorem rg_1_6 {v : Int32} (hx : p.tables.exec = Jvm.exec) (hb : c.code = cc) (hts : ∀ w ∈ lw_G, w.before args s = true) (hown : s.vm.findClass own = some m.cls) (hE : EnvOK E s) (hM : MOK E M H) (hl : Cond.fieldLink own index RX1 "errorKind" "I" ∈ lw_G) (hg : gI 2 38 a M = some v) (hdg : decode cc pc = .ok (.getfield index, 3))
    (kk : W p l e R s m args below meth c H locs cells slots Q (F0 m (pc + 3) ls (.int v :: rest))) : W p l e R s m args below meth c H locs cells slots Q (F0 m pc ls (.ref a :: rest)) := by
  obtain ⟨hk, rfl⟩ := ifs hg
  exact r_get (v := .int _) hx hb hts inG1 hown hE hM hk (by decide) (mm_e2 hk) rfl 6 (by decide) hl rfl rfl hdg kk
theorem rp_1_6 {v : Int32} (hx : p.tables.exec = Jvm.exec) (hb : c.code = cc) (hts : ∀ w ∈ lw_G, w.before args s = true) (hown : s.vm.findClass own = some m.cls) (hE : EnvOK E s) (hM : MOK E M H) (hl : Cond.fieldLink own index RX1 "errorKind" "I" ∈ lw_G) (hS : va_S (eA E) s.heap H locs) (hg : sI 2 38 a v M = some M') (hdg : decode cc pc = .ok (.putfield index, 3))
    (kk : ∀ (H1 : Heap) (locs1 : List Loc), MOK E M' H1 → va_S (eA E) s.heap H1 locs1 → W p l e R s m args below meth c H1 locs1 cells slots Q (F0 m (pc + 3) ls rest)) : W p l e R s m args below meth c H locs cells slots Q (F0 m pc ls (.int v :: .ref a :: rest)) := by
  obtain ⟨hk, rfl⟩ := ifs hg
  refine r_put (ty := .int) (v := .int v) (M' := (mK M, mN M, up2 (mI M) 38 a v, mR M, mA M, mB M, mL M, mZ M)) hx hb hts inG1 tyX1 tyX1_ok nmX1 hown hE hM hS hk (by decide) (mm_e2 hk) rfl 6 (by decide) hl rfl (Or.inl rfl) rfl rfl rfl (Nat.le_of_ble_eq_true rfl) rfl rfl (fun b hb => mm_eq rfl rfl (fun f => up2_ne2 hb) (fun _ => rfl) rfl rfl rfl) ?_ hdg kk
  rw [mm_e2]; rotate_left; exact hk
  simp [up2, mR, mI]
theorem rg_1_7 {v : Int32} (hx : p.tables.exec = Jvm.exec) (hb : c.code = cc) (hts : ∀ w ∈ lw_G, w.before args s = true) (hown : s.vm.findClass own = some m.cls) (hE : EnvOK E s) (hM : MOK E M H) (hl : Cond.fieldLink own index RX1 "errorOffset" "I" ∈ lw_G) (hg : gI 2 39 a M = some v) (hdg : decode cc pc = .ok (.getfield index, 3))
    (kk : W p l e R s m args below meth c H locs cells slots Q (F0 m (pc + 3) ls (.int v :: rest))) : W p l e R s m args below meth c H locs cells slots Q (F0 m pc ls (.ref a :: rest)) := by
  obtain ⟨hk, rfl⟩ := ifs hg
  exact r_get (v := .int _) hx hb hts inG1 hown hE hM hk (by decide) (mm_e2 hk) rfl 7 (by decide) hl rfl rfl hdg kk
theorem rp_1_7 {v : Int32} (hx : p.tables.exec = Jvm.exec) (hb : c.code = cc) (hts : ∀ w ∈ lw_G, w.before args s = true) (hown : s.vm.findClass own = some m.cls) (hE : EnvOK E s) (hM : MOK E M H) (hl : Cond.fieldLink own index RX1 "errorOffset" "I" ∈ lw_G) (hS : va_S (eA E) s.heap H locs) (hg : sI 2 39 a v M = some M') (hdg : decode cc pc = .ok (.putfield index, 3))
    (kk : ∀ (H1 : Heap) (locs1 : List Loc), MOK E M' H1 → va_S (eA E) s.heap H1 locs1 → W p l e R s m args below meth c H1 locs1 cells slots Q (F0 m (pc + 3) ls rest)) : W p l e R s m args below meth c H locs cells slots Q (F0 m pc ls (.int v :: .ref a :: rest)) := by
  obtain ⟨hk, rfl⟩ := ifs hg
  refine r_put (ty := .int) (v := .int v) (M' := (mK M, mN M, up2 (mI M) 39 a v, mR M, mA M, mB M, mL M, mZ M)) hx hb hts inG1 tyX1 tyX1_ok nmX1 hown hE hM hS hk (by decide) (mm_e2 hk) rfl 7 (by decide) hl rfl (Or.inl rfl) rfl rfl rfl (Nat.le_of_ble_eq_true rfl) rfl rfl (fun b hb => mm_eq rfl rfl (fun f => up2_ne2 hb) (fun _ => rfl) rfl rfl rfl) ?_ hdg kk
  rw [mm_e2]; rotate_left; exact hk
  simp [up2, mR, mI]
theorem rgn_2_0 {v : Nat} (hx : p.tables.exec = Jvm.exec) (hb : c.code = cc) (hts : ∀ w ∈ lw_G, w.before args s = true) (hown : s.vm.findClass own = some m.cls) (hE : EnvOK E s) (hM : MOK E M H) (hl : Cond.fieldLink own index RX2 "cells" "[I" ∈ lw_G) (hg : gRn 3 64 a M = some v) (hdg : decode cc pc = .ok (.getfield index, 3))
    (kk : W p l e R s m args below meth c H locs cells slots Q (F0 m (pc + 3) ls (.ref v :: rest))) : W p l e R s m args below meth c H locs cells slots Q (F0 m pc ls (.ref a :: rest)) := by
  obtain ⟨hk, h2⟩ := ifg hg
  refine r_get (v := .ref v) hx hb hts inG2 hown hE hM hk (by decide) (mm_e3 hk) rfl 0 (by decide) hl rfl ?_ hdg kk
  show some (va_rf (mR M 64 a)) = _
  rw [h2]; rfl
theorem rp_2_0 {v : Nat} (hx : p.tables.exec = Jvm.exec) (hb : c.code = cc) (hts : ∀ w ∈ lw_G, w.before args s = true) (hown : s.vm.findClass own = some m.cls) (hE : EnvOK E s) (hM : MOK E M H) (hl : Cond.fieldLink own index RX2 "cells" "[I" ∈ lw_G) (hin2 : meth.name = "<init>") (hown2 : RX2 = own) (hS : va_S (eA E) s.heap H locs) (hg : sR 3 64 a (some v) M = some M') (hdg : decode cc pc = .ok (.putfield index, 3))
    (kk : ∀ (H1 : Heap) (locs1 : List Loc), MOK E M' H1 → va_S (eA E) s.heap H1 locs1 → W p l e R s m args below meth c H1 locs1 cells slots Q (F0 m (pc + 3) ls rest)) : W p l e R s m args below meth c H locs cells slots Q (F0 m pc ls (.ref v :: .ref a :: rest)) := by
  obtain ⟨hk, rfl⟩ := ifs hg
  refine r_put (ty := .array .int) (v := .ref v) (M' := (mK M, mN M, mI M, up2 (mR M) 64 a (some v), mA M, mB M, mL M, mZ M)) hx hb hts inG2 tyX2 tyX2_ok nmX2 hown hE hM hS hk (by decide) (mm_e3 hk) rfl 0 (by decide) hl rfl (Or.inr ⟨rfl, hin2, hown2⟩) rfl rfl rfl (Nat.le_of_ble_eq_true rfl) rfl rfl (fun b hb => mm_eq rfl rfl (fun _ => rfl) (fun f => up2_ne2 hb) rfl rfl rfl) ?_ hdg kk
  rw [mm_e3]; rotate_left; exact hk
  simp [up2, va_rf, mR, mI]
theorem rg_3_0 {v : Int32} (hx : p.tables.exec = Jvm.exec) (hb : c.code = cc) (hts : ∀ w ∈ lw_G, w.before args s = true) (hown : s.vm.findClass own = some m.cls) (hE : EnvOK E s) (hM : MOK E M H) (hl : Cond.fieldLink own index RX3 "replicaCount" "I" ∈ lw_G) (hg : gI 4 96 a M = some v) (hdg : decode cc pc = .ok (.getfield index, 3))
    (kk : W p l e R s m args below meth c H locs cells slots Q (F0 m (pc + 3) ls (.int v :: rest))) : W p l e R s m args below meth c H locs cells slots Q (F0 m pc ls (.ref a :: rest)) := by
  obtain ⟨hk, rfl⟩ := ifs hg
  exact r_get (v := .int _) hx hb hts inG3 hown hE hM hk (by decide) (mm_e4 hk) rfl 0 (by decide) hl rfl rfl hdg kk
theorem rp_3_0 {v : Int32} (hx : p.tables.exec = Jvm.exec) (hb : c.code = cc) (hts : ∀ w ∈ lw_G, w.before args s = true) (hown : s.vm.findClass own = some m.cls) (hE : EnvOK E s) (hM : MOK E M H) (hl : Cond.fieldLink own index RX3 "replicaCount" "I" ∈ lw_G) (hS : va_S (eA E) s.heap H locs) (hg : sI 4 96 a v M = some M') (hdg : decode cc pc = .ok (.putfield index, 3))
    (kk : ∀ (H1 : Heap) (locs1 : List Loc), MOK E M' H1 → va_S (eA E) s.heap H1 locs1 → W p l e R s m args below meth c H1 locs1 cells slots Q (F0 m (pc + 3) ls rest)) : W p l e R s m args below meth c H locs cells slots Q (F0 m pc ls (.int v :: .ref a :: rest)) := by
  obtain ⟨hk, rfl⟩ := ifs hg
  refine r_put (ty := .int) (v := .int v) (M' := (mK M, mN M, up2 (mI M) 96 a v, mR M, mA M, mB M, mL M, mZ M)) hx hb hts inG3 tyX3 tyX3_ok nmX3 hown hE hM hS hk (by decide) (mm_e4 hk) rfl 0 (by decide) hl rfl (Or.inl rfl) rfl rfl rfl (Nat.le_of_ble_eq_true rfl) rfl rfl (fun b hb => mm_eq rfl rfl (fun f => up2_ne2 hb) (fun _ => rfl) rfl rfl rfl) ?_ hdg kk
  rw [mm_e4]; rotate_left; exact hk
  simp [up2, mR, mI]
theorem rg_3_1 {v : Int32} (hx : p.tables.exec = Jvm.exec) (hb : c.code = cc) (hts : ∀ w ∈ lw_G, w.before args s = true) (hown : s.vm.findClass own = some m.cls) (hE : EnvOK E s) (hM : MOK E M H) (hl : Cond.fieldLink own index RX3 "counterCount" "I" ∈ lw_G) (hg : gI 4 97 a M = some v) (hdg : decode cc pc = .ok (.getfield index, 3))
    (kk : W p l e R s m args below meth c H locs cells slots Q (F0 m (pc + 3) ls (.int v :: rest))) : W p l e R s m args below meth c H locs cells slots Q (F0 m pc ls (.ref a :: rest)) := by
  obtain ⟨hk, rfl⟩ := ifs hg
  exact r_get (v := .int _) hx hb hts inG3 hown hE hM hk (by decide) (mm_e4 hk) rfl 1 (by decide) hl rfl rfl hdg kk
theorem rp_3_1 {v : Int32} (hx : p.tables.exec = Jvm.exec) (hb : c.code = cc) (hts : ∀ w ∈ lw_G, w.before args s = true) (hown : s.vm.findClass own = some m.cls) (hE : EnvOK E s) (hM : MOK E M H) (hl : Cond.fieldLink own index RX3 "counterCount" "I" ∈ lw_G) (hS : va_S (eA E) s.heap H locs) (hg : sI 4 97 a v M = some M') (hdg : decode cc pc = .ok (.putfield index, 3))
    (kk : ∀ (H1 : Heap) (locs1 : List Loc), MOK E M' H1 → va_S (eA E) s.heap H1 locs1 → W p l e R s m args below meth c H1 locs1 cells slots Q (F0 m (pc + 3) ls rest)) : W p l e R s m args below meth c H locs cells slots Q (F0 m pc ls (.int v :: .ref a :: rest)) := by
  obtain ⟨hk, rfl⟩ := ifs hg
  refine r_put (ty := .int) (v := .int v) (M' := (mK M, mN M, up2 (mI M) 97 a v, mR M, mA M, mB M, mL M, mZ M)) hx hb hts inG3 tyX3 tyX3_ok nmX3 hown hE hM hS hk (by decide) (mm_e4 hk) rfl 1 (by decide) hl rfl (Or.inl rfl) rfl rfl rfl (Nat.le_of_ble_eq_true rfl) rfl rfl (fun b hb => mm_eq rfl rfl (fun f => up2_ne2 hb) (fun _ => rfl) rfl rfl rfl) ?_ hdg kk
  rw [mm_e4]; rotate_left; exact hk
  simp [up2, mR, mI]
theorem rg_3_2 {v : Int32} (hx : p.tables.exec = Jvm.exec) (hb : c.code = cc) (hts : ∀ w ∈ lw_G, w.before args s = true) (hown : s.vm.findClass own = some m.cls) (hE : EnvOK E s) (hM : MOK E M H) (hl : Cond.fieldLink own index RX3 "registerCount" "I" ∈ lw_G) (hg : gI 4 98 a M = some v) (hdg : decode cc pc = .ok (.getfield index, 3))
    (kk : W p l e R s m args below meth c H locs cells slots Q (F0 m (pc + 3) ls (.int v :: rest))) : W p l e R s m args below meth c H locs cells slots Q (F0 m pc ls (.ref a :: rest)) := by
  obtain ⟨hk, rfl⟩ := ifs hg
  exact r_get (v := .int _) hx hb hts inG3 hown hE hM hk (by decide) (mm_e4 hk) rfl 2 (by decide) hl rfl rfl hdg kk
theorem rp_3_2 {v : Int32} (hx : p.tables.exec = Jvm.exec) (hb : c.code = cc) (hts : ∀ w ∈ lw_G, w.before args s = true) (hown : s.vm.findClass own = some m.cls) (hE : EnvOK E s) (hM : MOK E M H) (hl : Cond.fieldLink own index RX3 "registerCount" "I" ∈ lw_G) (hS : va_S (eA E) s.heap H locs) (hg : sI 4 98 a v M = some M') (hdg : decode cc pc = .ok (.putfield index, 3))
    (kk : ∀ (H1 : Heap) (locs1 : List Loc), MOK E M' H1 → va_S (eA E) s.heap H1 locs1 → W p l e R s m args below meth c H1 locs1 cells slots Q (F0 m (pc + 3) ls rest)) : W p l e R s m args below meth c H locs cells slots Q (F0 m pc ls (.int v :: .ref a :: rest)) := by
  obtain ⟨hk, rfl⟩ := ifs hg
  refine r_put (ty := .int) (v := .int v) (M' := (mK M, mN M, up2 (mI M) 98 a v, mR M, mA M, mB M, mL M, mZ M)) hx hb hts inG3 tyX3 tyX3_ok nmX3 hown hE hM hS hk (by decide) (mm_e4 hk) rfl 2 (by decide) hl rfl (Or.inl rfl) rfl rfl rfl (Nat.le_of_ble_eq_true rfl) rfl rfl (fun b hb => mm_eq rfl rfl (fun f => up2_ne2 hb) (fun _ => rfl) rfl rfl rfl) ?_ hdg kk
  rw [mm_e4]; rotate_left; exact hk
  simp [up2, mR, mI]
theorem rg_3_3 {v : Int32} (hx : p.tables.exec = Jvm.exec) (hb : c.code = cc) (hts : ∀ w ∈ lw_G, w.before args s = true) (hown : s.vm.findClass own = some m.cls) (hE : EnvOK E s) (hM : MOK E M H) (hl : Cond.fieldLink own index RX3 "messageCount" "I" ∈ lw_G) (hg : gI 4 99 a M = some v) (hdg : decode cc pc = .ok (.getfield index, 3))
    (kk : W p l e R s m args below meth c H locs cells slots Q (F0 m (pc + 3) ls (.int v :: rest))) : W p l e R s m args below meth c H locs cells slots Q (F0 m pc ls (.ref a :: rest)) := by
  obtain ⟨hk, rfl⟩ := ifs hg
  exact r_get (v := .int _) hx hb hts inG3 hown hE hM hk (by decide) (mm_e4 hk) rfl 3 (by decide) hl rfl rfl hdg kk
theorem rp_3_3 {v : Int32} (hx : p.tables.exec = Jvm.exec) (hb : c.code = cc) (hts : ∀ w ∈ lw_G, w.before args s = true) (hown : s.vm.findClass own = some m.cls) (hE : EnvOK E s) (hM : MOK E M H) (hl : Cond.fieldLink own index RX3 "messageCount" "I" ∈ lw_G) (hS : va_S (eA E) s.heap H locs) (hg : sI 4 99 a v M = some M') (hdg : decode cc pc = .ok (.putfield index, 3))
    (kk : ∀ (H1 : Heap) (locs1 : List Loc), MOK E M' H1 → va_S (eA E) s.heap H1 locs1 → W p l e R s m args below meth c H1 locs1 cells slots Q (F0 m (pc + 3) ls rest)) : W p l e R s m args below meth c H locs cells slots Q (F0 m pc ls (.int v :: .ref a :: rest)) := by
  obtain ⟨hk, rfl⟩ := ifs hg
  refine r_put (ty := .int) (v := .int v) (M' := (mK M, mN M, up2 (mI M) 99 a v, mR M, mA M, mB M, mL M, mZ M)) hx hb hts inG3 tyX3 tyX3_ok nmX3 hown hE hM hS hk (by decide) (mm_e4 hk) rfl 3 (by decide) hl rfl (Or.inl rfl) rfl rfl rfl (Nat.le_of_ble_eq_true rfl) rfl rfl (fun b hb => mm_eq rfl rfl (fun f => up2_ne2 hb) (fun _ => rfl) rfl rfl rfl) ?_ hdg kk
  rw [mm_e4]; rotate_left; exact hk
  simp [up2, mR, mI]
theorem rgn_3_4 {v : Nat} (hx : p.tables.exec = Jvm.exec) (hb : c.code = cc) (hts : ∀ w ∈ lw_G, w.before args s = true) (hown : s.vm.findClass own = some m.cls) (hE : EnvOK E s) (hM : MOK E M H) (hl : Cond.fieldLink own index RX3 "replicas" "[LOfflineNotes$State;" ∈ lw_G) (hg : gRn 4 100 a M = some v) (hdg : decode cc pc = .ok (.getfield index, 3))
    (kk : W p l e R s m args below meth c H locs cells slots Q (F0 m (pc + 3) ls (.ref v :: rest))) : W p l e R s m args below meth c H locs cells slots Q (F0 m pc ls (.ref a :: rest)) := by
  obtain ⟨hk, h2⟩ := ifg hg
  refine r_get (v := .ref v) hx hb hts inG3 hown hE hM hk (by decide) (mm_e4 hk) rfl 4 (by decide) hl rfl ?_ hdg kk
  show some (va_rf (mR M 100 a)) = _
  rw [h2]; rfl
theorem rp_3_4 {v : Nat} (hx : p.tables.exec = Jvm.exec) (hb : c.code = cc) (hts : ∀ w ∈ lw_G, w.before args s = true) (hown : s.vm.findClass own = some m.cls) (hE : EnvOK E s) (hM : MOK E M H) (hl : Cond.fieldLink own index RX3 "replicas" "[LOfflineNotes$State;" ∈ lw_G) (hin2 : meth.name = "<init>") (hown2 : RX3 = own) (hS : va_S (eA E) s.heap H locs) (hg : sR 4 100 a (some v) M = some M') (hdg : decode cc pc = .ok (.putfield index, 3))
    (kk : ∀ (H1 : Heap) (locs1 : List Loc), MOK E M' H1 → va_S (eA E) s.heap H1 locs1 → W p l e R s m args below meth c H1 locs1 cells slots Q (F0 m (pc + 3) ls rest)) : W p l e R s m args below meth c H locs cells slots Q (F0 m pc ls (.ref v :: .ref a :: rest)) := by
  obtain ⟨hk, rfl⟩ := ifs hg
  refine r_put (ty := .array (.object "OfflineNotes$State")) (v := .ref v) (M' := (mK M, mN M, mI M, up2 (mR M) 100 a (some v), mA M, mB M, mL M, mZ M)) hx hb hts inG3 tyX3 tyX3_ok nmX3 hown hE hM hS hk (by decide) (mm_e4 hk) rfl 4 (by decide) hl rfl (Or.inr ⟨rfl, hin2, hown2⟩) rfl rfl rfl (Nat.le_of_ble_eq_true rfl) rfl rfl (fun b hb => mm_eq rfl rfl (fun _ => rfl) (fun f => up2_ne2 hb) rfl rfl rfl) ?_ hdg kk
  rw [mm_e4]; rotate_left; exact hk
  simp [up2, va_rf, mR, mI]
theorem rgn_3_5 {v : Nat} (hx : p.tables.exec = Jvm.exec) (hb : c.code = cc) (hts : ∀ w ∈ lw_G, w.before args s = true) (hown : s.vm.findClass own = some m.cls) (hE : EnvOK E s) (hM : MOK E M H) (hl : Cond.fieldLink own index RX3 "messages" "[LOfflineNotes$State;" ∈ lw_G) (hg : gRn 4 101 a M = some v) (hdg : decode cc pc = .ok (.getfield index, 3))
    (kk : W p l e R s m args below meth c H locs cells slots Q (F0 m (pc + 3) ls (.ref v :: rest))) : W p l e R s m args below meth c H locs cells slots Q (F0 m pc ls (.ref a :: rest)) := by
  obtain ⟨hk, h2⟩ := ifg hg
  refine r_get (v := .ref v) hx hb hts inG3 hown hE hM hk (by decide) (mm_e4 hk) rfl 5 (by decide) hl rfl ?_ hdg kk
  show some (va_rf (mR M 101 a)) = _
  rw [h2]; rfl
theorem rp_3_5 {v : Nat} (hx : p.tables.exec = Jvm.exec) (hb : c.code = cc) (hts : ∀ w ∈ lw_G, w.before args s = true) (hown : s.vm.findClass own = some m.cls) (hE : EnvOK E s) (hM : MOK E M H) (hl : Cond.fieldLink own index RX3 "messages" "[LOfflineNotes$State;" ∈ lw_G) (hin2 : meth.name = "<init>") (hown2 : RX3 = own) (hS : va_S (eA E) s.heap H locs) (hg : sR 4 101 a (some v) M = some M') (hdg : decode cc pc = .ok (.putfield index, 3))
    (kk : ∀ (H1 : Heap) (locs1 : List Loc), MOK E M' H1 → va_S (eA E) s.heap H1 locs1 → W p l e R s m args below meth c H1 locs1 cells slots Q (F0 m (pc + 3) ls rest)) : W p l e R s m args below meth c H locs cells slots Q (F0 m pc ls (.ref v :: .ref a :: rest)) := by
  obtain ⟨hk, rfl⟩ := ifs hg
  refine r_put (ty := .array (.object "OfflineNotes$State")) (v := .ref v) (M' := (mK M, mN M, mI M, up2 (mR M) 101 a (some v), mA M, mB M, mL M, mZ M)) hx hb hts inG3 tyX3 tyX3_ok nmX3 hown hE hM hS hk (by decide) (mm_e4 hk) rfl 5 (by decide) hl rfl (Or.inr ⟨rfl, hin2, hown2⟩) rfl rfl rfl (Nat.le_of_ble_eq_true rfl) rfl rfl (fun b hb => mm_eq rfl rfl (fun _ => rfl) (fun f => up2_ne2 hb) rfl rfl rfl) ?_ hdg kk
  rw [mm_e4]; rotate_left; exact hk
  simp [up2, va_rf, mR, mI]
theorem rgn_3_6 {v : Nat} (hx : p.tables.exec = Jvm.exec) (hb : c.code = cc) (hts : ∀ w ∈ lw_G, w.before args s = true) (hown : s.vm.findClass own = some m.cls) (hE : EnvOK E s) (hM : MOK E M H) (hl : Cond.fieldLink own index RX3 "senders" "[I" ∈ lw_G) (hg : gRn 4 102 a M = some v) (hdg : decode cc pc = .ok (.getfield index, 3))
    (kk : W p l e R s m args below meth c H locs cells slots Q (F0 m (pc + 3) ls (.ref v :: rest))) : W p l e R s m args below meth c H locs cells slots Q (F0 m pc ls (.ref a :: rest)) := by
  obtain ⟨hk, h2⟩ := ifg hg
  refine r_get (v := .ref v) hx hb hts inG3 hown hE hM hk (by decide) (mm_e4 hk) rfl 6 (by decide) hl rfl ?_ hdg kk
  show some (va_rf (mR M 102 a)) = _
  rw [h2]; rfl
theorem rp_3_6 {v : Nat} (hx : p.tables.exec = Jvm.exec) (hb : c.code = cc) (hts : ∀ w ∈ lw_G, w.before args s = true) (hown : s.vm.findClass own = some m.cls) (hE : EnvOK E s) (hM : MOK E M H) (hl : Cond.fieldLink own index RX3 "senders" "[I" ∈ lw_G) (hin2 : meth.name = "<init>") (hown2 : RX3 = own) (hS : va_S (eA E) s.heap H locs) (hg : sR 4 102 a (some v) M = some M') (hdg : decode cc pc = .ok (.putfield index, 3))
    (kk : ∀ (H1 : Heap) (locs1 : List Loc), MOK E M' H1 → va_S (eA E) s.heap H1 locs1 → W p l e R s m args below meth c H1 locs1 cells slots Q (F0 m (pc + 3) ls rest)) : W p l e R s m args below meth c H locs cells slots Q (F0 m pc ls (.ref v :: .ref a :: rest)) := by
  obtain ⟨hk, rfl⟩ := ifs hg
  refine r_put (ty := .array .int) (v := .ref v) (M' := (mK M, mN M, mI M, up2 (mR M) 102 a (some v), mA M, mB M, mL M, mZ M)) hx hb hts inG3 tyX3 tyX3_ok nmX3 hown hE hM hS hk (by decide) (mm_e4 hk) rfl 6 (by decide) hl rfl (Or.inr ⟨rfl, hin2, hown2⟩) rfl rfl rfl (Nat.le_of_ble_eq_true rfl) rfl rfl (fun b hb => mm_eq rfl rfl (fun _ => rfl) (fun f => up2_ne2 hb) rfl rfl rfl) ?_ hdg kk
  rw [mm_e4]; rotate_left; exact hk
  simp [up2, va_rf, mR, mI]
theorem rgn_4_0 {v : Nat} (hx : p.tables.exec = Jvm.exec) (hb : c.code = cc) (hts : ∀ w ∈ lw_G, w.before args s = true) (hown : s.vm.findClass own = some m.cls) (hE : EnvOK E s) (hM : MOK E M H) (hl : Cond.fieldLink own index RX4 "input" "[C" ∈ lw_G) (hg : gRn 5 128 a M = some v) (hdg : decode cc pc = .ok (.getfield index, 3))
    (kk : W p l e R s m args below meth c H locs cells slots Q (F0 m (pc + 3) ls (.ref v :: rest))) : W p l e R s m args below meth c H locs cells slots Q (F0 m pc ls (.ref a :: rest)) := by
  obtain ⟨hk, h2⟩ := ifg hg
  refine r_get (v := .ref v) hx hb hts inG4 hown hE hM hk (by decide) (mm_e5 hk) rfl 0 (by decide) hl rfl ?_ hdg kk
  show some (va_rf (mR M 128 a)) = _
  rw [h2]; rfl
theorem rp_4_0 {v : Nat} (hx : p.tables.exec = Jvm.exec) (hb : c.code = cc) (hts : ∀ w ∈ lw_G, w.before args s = true) (hown : s.vm.findClass own = some m.cls) (hE : EnvOK E s) (hM : MOK E M H) (hl : Cond.fieldLink own index RX4 "input" "[C" ∈ lw_G) (hin2 : meth.name = "<init>") (hown2 : RX4 = own) (hS : va_S (eA E) s.heap H locs) (hg : sR 5 128 a (some v) M = some M') (hdg : decode cc pc = .ok (.putfield index, 3))
    (kk : ∀ (H1 : Heap) (locs1 : List Loc), MOK E M' H1 → va_S (eA E) s.heap H1 locs1 → W p l e R s m args below meth c H1 locs1 cells slots Q (F0 m (pc + 3) ls rest)) : W p l e R s m args below meth c H locs cells slots Q (F0 m pc ls (.ref v :: .ref a :: rest)) := by
  obtain ⟨hk, rfl⟩ := ifs hg
  refine r_put (ty := .array .char) (v := .ref v) (M' := (mK M, mN M, mI M, up2 (mR M) 128 a (some v), mA M, mB M, mL M, mZ M)) hx hb hts inG4 tyX4 tyX4_ok nmX4 hown hE hM hS hk (by decide) (mm_e5 hk) rfl 0 (by decide) hl rfl (Or.inr ⟨rfl, hin2, hown2⟩) rfl rfl rfl (Nat.le_of_ble_eq_true rfl) rfl rfl (fun b hb => mm_eq rfl rfl (fun _ => rfl) (fun f => up2_ne2 hb) rfl rfl rfl) ?_ hdg kk
  rw [mm_e5]; rotate_left; exact hk
  simp [up2, va_rf, mR, mI]
theorem rg_4_1 {v : Int32} (hx : p.tables.exec = Jvm.exec) (hb : c.code = cc) (hts : ∀ w ∈ lw_G, w.before args s = true) (hown : s.vm.findClass own = some m.cls) (hE : EnvOK E s) (hM : MOK E M H) (hl : Cond.fieldLink own index RX4 "inputLength" "I" ∈ lw_G) (hg : gI 5 129 a M = some v) (hdg : decode cc pc = .ok (.getfield index, 3))
    (kk : W p l e R s m args below meth c H locs cells slots Q (F0 m (pc + 3) ls (.int v :: rest))) : W p l e R s m args below meth c H locs cells slots Q (F0 m pc ls (.ref a :: rest)) := by
  obtain ⟨hk, rfl⟩ := ifs hg
  exact r_get (v := .int _) hx hb hts inG4 hown hE hM hk (by decide) (mm_e5 hk) rfl 1 (by decide) hl rfl rfl hdg kk
theorem rp_4_1 {v : Int32} (hx : p.tables.exec = Jvm.exec) (hb : c.code = cc) (hts : ∀ w ∈ lw_G, w.before args s = true) (hown : s.vm.findClass own = some m.cls) (hE : EnvOK E s) (hM : MOK E M H) (hl : Cond.fieldLink own index RX4 "inputLength" "I" ∈ lw_G) (hS : va_S (eA E) s.heap H locs) (hg : sI 5 129 a v M = some M') (hdg : decode cc pc = .ok (.putfield index, 3))
    (kk : ∀ (H1 : Heap) (locs1 : List Loc), MOK E M' H1 → va_S (eA E) s.heap H1 locs1 → W p l e R s m args below meth c H1 locs1 cells slots Q (F0 m (pc + 3) ls rest)) : W p l e R s m args below meth c H locs cells slots Q (F0 m pc ls (.int v :: .ref a :: rest)) := by
  obtain ⟨hk, rfl⟩ := ifs hg
  refine r_put (ty := .int) (v := .int v) (M' := (mK M, mN M, up2 (mI M) 129 a v, mR M, mA M, mB M, mL M, mZ M)) hx hb hts inG4 tyX4 tyX4_ok nmX4 hown hE hM hS hk (by decide) (mm_e5 hk) rfl 1 (by decide) hl rfl (Or.inl rfl) rfl rfl rfl (Nat.le_of_ble_eq_true rfl) rfl rfl (fun b hb => mm_eq rfl rfl (fun f => up2_ne2 hb) (fun _ => rfl) rfl rfl rfl) ?_ hdg kk
  rw [mm_e5]; rotate_left; exact hk
  simp [up2, mR, mI]
theorem rg_4_2 {v : Int32} (hx : p.tables.exec = Jvm.exec) (hb : c.code = cc) (hts : ∀ w ∈ lw_G, w.before args s = true) (hown : s.vm.findClass own = some m.cls) (hE : EnvOK E s) (hM : MOK E M H) (hl : Cond.fieldLink own index RX4 "errorKind" "I" ∈ lw_G) (hg : gI 5 130 a M = some v) (hdg : decode cc pc = .ok (.getfield index, 3))
    (kk : W p l e R s m args below meth c H locs cells slots Q (F0 m (pc + 3) ls (.int v :: rest))) : W p l e R s m args below meth c H locs cells slots Q (F0 m pc ls (.ref a :: rest)) := by
  obtain ⟨hk, rfl⟩ := ifs hg
  exact r_get (v := .int _) hx hb hts inG4 hown hE hM hk (by decide) (mm_e5 hk) rfl 2 (by decide) hl rfl rfl hdg kk
theorem rp_4_2 {v : Int32} (hx : p.tables.exec = Jvm.exec) (hb : c.code = cc) (hts : ∀ w ∈ lw_G, w.before args s = true) (hown : s.vm.findClass own = some m.cls) (hE : EnvOK E s) (hM : MOK E M H) (hl : Cond.fieldLink own index RX4 "errorKind" "I" ∈ lw_G) (hS : va_S (eA E) s.heap H locs) (hg : sI 5 130 a v M = some M') (hdg : decode cc pc = .ok (.putfield index, 3))
    (kk : ∀ (H1 : Heap) (locs1 : List Loc), MOK E M' H1 → va_S (eA E) s.heap H1 locs1 → W p l e R s m args below meth c H1 locs1 cells slots Q (F0 m (pc + 3) ls rest)) : W p l e R s m args below meth c H locs cells slots Q (F0 m pc ls (.int v :: .ref a :: rest)) := by
  obtain ⟨hk, rfl⟩ := ifs hg
  refine r_put (ty := .int) (v := .int v) (M' := (mK M, mN M, up2 (mI M) 130 a v, mR M, mA M, mB M, mL M, mZ M)) hx hb hts inG4 tyX4 tyX4_ok nmX4 hown hE hM hS hk (by decide) (mm_e5 hk) rfl 2 (by decide) hl rfl (Or.inl rfl) rfl rfl rfl (Nat.le_of_ble_eq_true rfl) rfl rfl (fun b hb => mm_eq rfl rfl (fun f => up2_ne2 hb) (fun _ => rfl) rfl rfl rfl) ?_ hdg kk
  rw [mm_e5]; rotate_left; exact hk
  simp [up2, mR, mI]
theorem rg_4_3 {v : Int32} (hx : p.tables.exec = Jvm.exec) (hb : c.code = cc) (hts : ∀ w ∈ lw_G, w.before args s = true) (hown : s.vm.findClass own = some m.cls) (hE : EnvOK E s) (hM : MOK E M H) (hl : Cond.fieldLink own index RX4 "errorOffset" "I" ∈ lw_G) (hg : gI 5 131 a M = some v) (hdg : decode cc pc = .ok (.getfield index, 3))
    (kk : W p l e R s m args below meth c H locs cells slots Q (F0 m (pc + 3) ls (.int v :: rest))) : W p l e R s m args below meth c H locs cells slots Q (F0 m pc ls (.ref a :: rest)) := by
  obtain ⟨hk, rfl⟩ := ifs hg
  exact r_get (v := .int _) hx hb hts inG4 hown hE hM hk (by decide) (mm_e5 hk) rfl 3 (by decide) hl rfl rfl hdg kk
theorem rp_4_3 {v : Int32} (hx : p.tables.exec = Jvm.exec) (hb : c.code = cc) (hts : ∀ w ∈ lw_G, w.before args s = true) (hown : s.vm.findClass own = some m.cls) (hE : EnvOK E s) (hM : MOK E M H) (hl : Cond.fieldLink own index RX4 "errorOffset" "I" ∈ lw_G) (hS : va_S (eA E) s.heap H locs) (hg : sI 5 131 a v M = some M') (hdg : decode cc pc = .ok (.putfield index, 3))
    (kk : ∀ (H1 : Heap) (locs1 : List Loc), MOK E M' H1 → va_S (eA E) s.heap H1 locs1 → W p l e R s m args below meth c H1 locs1 cells slots Q (F0 m (pc + 3) ls rest)) : W p l e R s m args below meth c H locs cells slots Q (F0 m pc ls (.int v :: .ref a :: rest)) := by
  obtain ⟨hk, rfl⟩ := ifs hg
  refine r_put (ty := .int) (v := .int v) (M' := (mK M, mN M, up2 (mI M) 131 a v, mR M, mA M, mB M, mL M, mZ M)) hx hb hts inG4 tyX4 tyX4_ok nmX4 hown hE hM hS hk (by decide) (mm_e5 hk) rfl 3 (by decide) hl rfl (Or.inl rfl) rfl rfl rfl (Nat.le_of_ble_eq_true rfl) rfl rfl (fun b hb => mm_eq rfl rfl (fun f => up2_ne2 hb) (fun _ => rfl) rfl rfl rfl) ?_ hdg kk
  rw [mm_e5]; rotate_left; exact hk
  simp [up2, mR, mI]
theorem rgn_4_4 {v : Nat} (hx : p.tables.exec = Jvm.exec) (hb : c.code = cc) (hts : ∀ w ∈ lw_G, w.before args s = true) (hown : s.vm.findClass own = some m.cls) (hE : EnvOK E s) (hM : MOK E M H) (hl : Cond.fieldLink own index RX4 "output" "[C" ∈ lw_G) (hg : gRn 5 132 a M = some v) (hdg : decode cc pc = .ok (.getfield index, 3))
    (kk : W p l e R s m args below meth c H locs cells slots Q (F0 m (pc + 3) ls (.ref v :: rest))) : W p l e R s m args below meth c H locs cells slots Q (F0 m pc ls (.ref a :: rest)) := by
  obtain ⟨hk, h2⟩ := ifg hg
  refine r_get (v := .ref v) hx hb hts inG4 hown hE hM hk (by decide) (mm_e5 hk) rfl 4 (by decide) hl rfl ?_ hdg kk
  show some (va_rf (mR M 132 a)) = _
  rw [h2]; rfl
theorem rp_4_4 {v : Nat} (hx : p.tables.exec = Jvm.exec) (hb : c.code = cc) (hts : ∀ w ∈ lw_G, w.before args s = true) (hown : s.vm.findClass own = some m.cls) (hE : EnvOK E s) (hM : MOK E M H) (hl : Cond.fieldLink own index RX4 "output" "[C" ∈ lw_G) (hin2 : meth.name = "<init>") (hown2 : RX4 = own) (hS : va_S (eA E) s.heap H locs) (hg : sR 5 132 a (some v) M = some M') (hdg : decode cc pc = .ok (.putfield index, 3))
    (kk : ∀ (H1 : Heap) (locs1 : List Loc), MOK E M' H1 → va_S (eA E) s.heap H1 locs1 → W p l e R s m args below meth c H1 locs1 cells slots Q (F0 m (pc + 3) ls rest)) : W p l e R s m args below meth c H locs cells slots Q (F0 m pc ls (.ref v :: .ref a :: rest)) := by
  obtain ⟨hk, rfl⟩ := ifs hg
  refine r_put (ty := .array .char) (v := .ref v) (M' := (mK M, mN M, mI M, up2 (mR M) 132 a (some v), mA M, mB M, mL M, mZ M)) hx hb hts inG4 tyX4 tyX4_ok nmX4 hown hE hM hS hk (by decide) (mm_e5 hk) rfl 4 (by decide) hl rfl (Or.inr ⟨rfl, hin2, hown2⟩) rfl rfl rfl (Nat.le_of_ble_eq_true rfl) rfl rfl (fun b hb => mm_eq rfl rfl (fun _ => rfl) (fun f => up2_ne2 hb) rfl rfl rfl) ?_ hdg kk
  rw [mm_e5]; rotate_left; exact hk
  simp [up2, va_rf, mR, mI]
theorem rg_4_5 {v : Int32} (hx : p.tables.exec = Jvm.exec) (hb : c.code = cc) (hts : ∀ w ∈ lw_G, w.before args s = true) (hown : s.vm.findClass own = some m.cls) (hE : EnvOK E s) (hM : MOK E M H) (hl : Cond.fieldLink own index RX4 "outputLength" "I" ∈ lw_G) (hg : gI 5 133 a M = some v) (hdg : decode cc pc = .ok (.getfield index, 3))
    (kk : W p l e R s m args below meth c H locs cells slots Q (F0 m (pc + 3) ls (.int v :: rest))) : W p l e R s m args below meth c H locs cells slots Q (F0 m pc ls (.ref a :: rest)) := by
  obtain ⟨hk, rfl⟩ := ifs hg
  exact r_get (v := .int _) hx hb hts inG4 hown hE hM hk (by decide) (mm_e5 hk) rfl 5 (by decide) hl rfl rfl hdg kk
theorem rp_4_5 {v : Int32} (hx : p.tables.exec = Jvm.exec) (hb : c.code = cc) (hts : ∀ w ∈ lw_G, w.before args s = true) (hown : s.vm.findClass own = some m.cls) (hE : EnvOK E s) (hM : MOK E M H) (hl : Cond.fieldLink own index RX4 "outputLength" "I" ∈ lw_G) (hS : va_S (eA E) s.heap H locs) (hg : sI 5 133 a v M = some M') (hdg : decode cc pc = .ok (.putfield index, 3))
    (kk : ∀ (H1 : Heap) (locs1 : List Loc), MOK E M' H1 → va_S (eA E) s.heap H1 locs1 → W p l e R s m args below meth c H1 locs1 cells slots Q (F0 m (pc + 3) ls rest)) : W p l e R s m args below meth c H locs cells slots Q (F0 m pc ls (.int v :: .ref a :: rest)) := by
  obtain ⟨hk, rfl⟩ := ifs hg
  refine r_put (ty := .int) (v := .int v) (M' := (mK M, mN M, up2 (mI M) 133 a v, mR M, mA M, mB M, mL M, mZ M)) hx hb hts inG4 tyX4 tyX4_ok nmX4 hown hE hM hS hk (by decide) (mm_e5 hk) rfl 5 (by decide) hl rfl (Or.inl rfl) rfl rfl rfl (Nat.le_of_ble_eq_true rfl) rfl rfl (fun b hb => mm_eq rfl rfl (fun f => up2_ne2 hb) (fun _ => rfl) rfl rfl rfl) ?_ hdg kk
  rw [mm_e5]; rotate_left; exact hk
  simp [up2, mR, mI]
theorem rgn_4_6 {v : Nat} (hx : p.tables.exec = Jvm.exec) (hb : c.code = cc) (hts : ∀ w ∈ lw_G, w.before args s = true) (hown : s.vm.findClass own = some m.cls) (hE : EnvOK E s) (hM : MOK E M H) (hl : Cond.fieldLink own index RX4 "world" "LOfflineNotes$World;" ∈ lw_G) (hg : gRn 5 134 a M = some v) (hdg : decode cc pc = .ok (.getfield index, 3))
    (kk : W p l e R s m args below meth c H locs cells slots Q (F0 m (pc + 3) ls (.ref v :: rest))) : W p l e R s m args below meth c H locs cells slots Q (F0 m pc ls (.ref a :: rest)) := by
  obtain ⟨hk, h2⟩ := ifg hg
  refine r_get (v := .ref v) hx hb hts inG4 hown hE hM hk (by decide) (mm_e5 hk) rfl 6 (by decide) hl rfl ?_ hdg kk
  show some (va_rf (mR M 134 a)) = _
  rw [h2]; rfl
theorem rp_4_6 {v : Nat} (hx : p.tables.exec = Jvm.exec) (hb : c.code = cc) (hts : ∀ w ∈ lw_G, w.before args s = true) (hown : s.vm.findClass own = some m.cls) (hE : EnvOK E s) (hM : MOK E M H) (hl : Cond.fieldLink own index RX4 "world" "LOfflineNotes$World;" ∈ lw_G) (hS : va_S (eA E) s.heap H locs) (hg : sR 5 134 a (some v) M = some M') (hdg : decode cc pc = .ok (.putfield index, 3))
    (kk : ∀ (H1 : Heap) (locs1 : List Loc), MOK E M' H1 → va_S (eA E) s.heap H1 locs1 → W p l e R s m args below meth c H1 locs1 cells slots Q (F0 m (pc + 3) ls rest)) : W p l e R s m args below meth c H locs cells slots Q (F0 m pc ls (.ref v :: .ref a :: rest)) := by
  obtain ⟨hk, rfl⟩ := ifs hg
  refine r_put (ty := .object "OfflineNotes$World") (v := .ref v) (M' := (mK M, mN M, mI M, up2 (mR M) 134 a (some v), mA M, mB M, mL M, mZ M)) hx hb hts inG4 tyX4 tyX4_ok nmX4 hown hE hM hS hk (by decide) (mm_e5 hk) rfl 6 (by decide) hl rfl (Or.inl rfl) rfl rfl rfl (Nat.le_of_ble_eq_true rfl) rfl rfl (fun b hb => mm_eq rfl rfl (fun _ => rfl) (fun f => up2_ne2 hb) rfl rfl rfl) ?_ hdg kk
  rw [mm_e5]; rotate_left; exact hk
  simp [up2, va_rf, mR, mI]
theorem rgn_4_7 {v : Nat} (hx : p.tables.exec = Jvm.exec) (hb : c.code = cc) (hts : ∀ w ∈ lw_G, w.before args s = true) (hown : s.vm.findClass own = some m.cls) (hE : EnvOK E s) (hM : MOK E M H) (hl : Cond.fieldLink own index RX4 "spare" "LOfflineNotes$World;" ∈ lw_G) (hg : gRn 5 135 a M = some v) (hdg : decode cc pc = .ok (.getfield index, 3))
    (kk : W p l e R s m args below meth c H locs cells slots Q (F0 m (pc + 3) ls (.ref v :: rest))) : W p l e R s m args below meth c H locs cells slots Q (F0 m pc ls (.ref a :: rest)) := by
  obtain ⟨hk, h2⟩ := ifg hg
  refine r_get (v := .ref v) hx hb hts inG4 hown hE hM hk (by decide) (mm_e5 hk) rfl 7 (by decide) hl rfl ?_ hdg kk
  show some (va_rf (mR M 135 a)) = _
  rw [h2]; rfl
theorem rp_4_7 {v : Nat} (hx : p.tables.exec = Jvm.exec) (hb : c.code = cc) (hts : ∀ w ∈ lw_G, w.before args s = true) (hown : s.vm.findClass own = some m.cls) (hE : EnvOK E s) (hM : MOK E M H) (hl : Cond.fieldLink own index RX4 "spare" "LOfflineNotes$World;" ∈ lw_G) (hS : va_S (eA E) s.heap H locs) (hg : sR 5 135 a (some v) M = some M') (hdg : decode cc pc = .ok (.putfield index, 3))
    (kk : ∀ (H1 : Heap) (locs1 : List Loc), MOK E M' H1 → va_S (eA E) s.heap H1 locs1 → W p l e R s m args below meth c H1 locs1 cells slots Q (F0 m (pc + 3) ls rest)) : W p l e R s m args below meth c H locs cells slots Q (F0 m pc ls (.ref v :: .ref a :: rest)) := by
  obtain ⟨hk, rfl⟩ := ifs hg
  refine r_put (ty := .object "OfflineNotes$World") (v := .ref v) (M' := (mK M, mN M, mI M, up2 (mR M) 135 a (some v), mA M, mB M, mL M, mZ M)) hx hb hts inG4 tyX4 tyX4_ok nmX4 hown hE hM hS hk (by decide) (mm_e5 hk) rfl 7 (by decide) hl rfl (Or.inl rfl) rfl rfl rfl (Nat.le_of_ble_eq_true rfl) rfl rfl (fun b hb => mm_eq rfl rfl (fun _ => rfl) (fun f => up2_ne2 hb) rfl rfl rfl) ?_ hdg kk
  rw [mm_e5]; rotate_left; exact hk
  simp [up2, va_rf, mR, mI]
theorem rgn_4_8 {v : Nat} (hx : p.tables.exec = Jvm.exec) (hb : c.code = cc) (hts : ∀ w ∈ lw_G, w.before args s = true) (hown : s.vm.findClass own = some m.cls) (hE : EnvOK E s) (hM : MOK E M H) (hl : Cond.fieldLink own index RX4 "history" "LOfflineNotes$History;" ∈ lw_G) (hg : gRn 5 136 a M = some v) (hdg : decode cc pc = .ok (.getfield index, 3))
    (kk : W p l e R s m args below meth c H locs cells slots Q (F0 m (pc + 3) ls (.ref v :: rest))) : W p l e R s m args below meth c H locs cells slots Q (F0 m pc ls (.ref a :: rest)) := by
  obtain ⟨hk, h2⟩ := ifg hg
  refine r_get (v := .ref v) hx hb hts inG4 hown hE hM hk (by decide) (mm_e5 hk) rfl 8 (by decide) hl rfl ?_ hdg kk
  show some (va_rf (mR M 136 a)) = _
  rw [h2]; rfl
theorem rp_4_8 {v : Nat} (hx : p.tables.exec = Jvm.exec) (hb : c.code = cc) (hts : ∀ w ∈ lw_G, w.before args s = true) (hown : s.vm.findClass own = some m.cls) (hE : EnvOK E s) (hM : MOK E M H) (hl : Cond.fieldLink own index RX4 "history" "LOfflineNotes$History;" ∈ lw_G) (hin2 : meth.name = "<init>") (hown2 : RX4 = own) (hS : va_S (eA E) s.heap H locs) (hg : sR 5 136 a (some v) M = some M') (hdg : decode cc pc = .ok (.putfield index, 3))
    (kk : ∀ (H1 : Heap) (locs1 : List Loc), MOK E M' H1 → va_S (eA E) s.heap H1 locs1 → W p l e R s m args below meth c H1 locs1 cells slots Q (F0 m (pc + 3) ls rest)) : W p l e R s m args below meth c H locs cells slots Q (F0 m pc ls (.ref v :: .ref a :: rest)) := by
  obtain ⟨hk, rfl⟩ := ifs hg
  refine r_put (ty := .object "OfflineNotes$History") (v := .ref v) (M' := (mK M, mN M, mI M, up2 (mR M) 136 a (some v), mA M, mB M, mL M, mZ M)) hx hb hts inG4 tyX4 tyX4_ok nmX4 hown hE hM hS hk (by decide) (mm_e5 hk) rfl 8 (by decide) hl rfl (Or.inr ⟨rfl, hin2, hown2⟩) rfl rfl rfl (Nat.le_of_ble_eq_true rfl) rfl rfl (fun b hb => mm_eq rfl rfl (fun _ => rfl) (fun f => up2_ne2 hb) rfl rfl rfl) ?_ hdg kk
  rw [mm_e5]; rotate_left; exact hk
  simp [up2, va_rf, mR, mI]
theorem rgn_4_9 {v : Nat} (hx : p.tables.exec = Jvm.exec) (hb : c.code = cc) (hts : ∀ w ∈ lw_G, w.before args s = true) (hown : s.vm.findClass own = some m.cls) (hE : EnvOK E s) (hM : MOK E M H) (hl : Cond.fieldLink own index RX4 "saved" "[LOfflineNotes$World;" ∈ lw_G) (hg : gRn 5 137 a M = some v) (hdg : decode cc pc = .ok (.getfield index, 3))
    (kk : W p l e R s m args below meth c H locs cells slots Q (F0 m (pc + 3) ls (.ref v :: rest))) : W p l e R s m args below meth c H locs cells slots Q (F0 m pc ls (.ref a :: rest)) := by
  obtain ⟨hk, h2⟩ := ifg hg
  refine r_get (v := .ref v) hx hb hts inG4 hown hE hM hk (by decide) (mm_e5 hk) rfl 9 (by decide) hl rfl ?_ hdg kk
  show some (va_rf (mR M 137 a)) = _
  rw [h2]; rfl
theorem rp_4_9 {v : Nat} (hx : p.tables.exec = Jvm.exec) (hb : c.code = cc) (hts : ∀ w ∈ lw_G, w.before args s = true) (hown : s.vm.findClass own = some m.cls) (hE : EnvOK E s) (hM : MOK E M H) (hl : Cond.fieldLink own index RX4 "saved" "[LOfflineNotes$World;" ∈ lw_G) (hin2 : meth.name = "<init>") (hown2 : RX4 = own) (hS : va_S (eA E) s.heap H locs) (hg : sR 5 137 a (some v) M = some M') (hdg : decode cc pc = .ok (.putfield index, 3))
    (kk : ∀ (H1 : Heap) (locs1 : List Loc), MOK E M' H1 → va_S (eA E) s.heap H1 locs1 → W p l e R s m args below meth c H1 locs1 cells slots Q (F0 m (pc + 3) ls rest)) : W p l e R s m args below meth c H locs cells slots Q (F0 m pc ls (.ref v :: .ref a :: rest)) := by
  obtain ⟨hk, rfl⟩ := ifs hg
  refine r_put (ty := .array (.object "OfflineNotes$World")) (v := .ref v) (M' := (mK M, mN M, mI M, up2 (mR M) 137 a (some v), mA M, mB M, mL M, mZ M)) hx hb hts inG4 tyX4 tyX4_ok nmX4 hown hE hM hS hk (by decide) (mm_e5 hk) rfl 9 (by decide) hl rfl (Or.inr ⟨rfl, hin2, hown2⟩) rfl rfl rfl (Nat.le_of_ble_eq_true rfl) rfl rfl (fun b hb => mm_eq rfl rfl (fun _ => rfl) (fun f => up2_ne2 hb) rfl rfl rfl) ?_ hdg kk
  rw [mm_e5]; rotate_left; exact hk
  simp [up2, va_rf, mR, mI]
theorem rgn_4_10 {v : Nat} (hx : p.tables.exec = Jvm.exec) (hb : c.code = cc) (hts : ∀ w ∈ lw_G, w.before args s = true) (hown : s.vm.findClass own = some m.cls) (hE : EnvOK E s) (hM : MOK E M H) (hl : Cond.fieldLink own index RX4 "trial" "LOfflineNotes$State;" ∈ lw_G) (hg : gRn 5 138 a M = some v) (hdg : decode cc pc = .ok (.getfield index, 3))
    (kk : W p l e R s m args below meth c H locs cells slots Q (F0 m (pc + 3) ls (.ref v :: rest))) : W p l e R s m args below meth c H locs cells slots Q (F0 m pc ls (.ref a :: rest)) := by
  obtain ⟨hk, h2⟩ := ifg hg
  refine r_get (v := .ref v) hx hb hts inG4 hown hE hM hk (by decide) (mm_e5 hk) rfl 10 (by decide) hl rfl ?_ hdg kk
  show some (va_rf (mR M 138 a)) = _
  rw [h2]; rfl
theorem rp_4_10 {v : Nat} (hx : p.tables.exec = Jvm.exec) (hb : c.code = cc) (hts : ∀ w ∈ lw_G, w.before args s = true) (hown : s.vm.findClass own = some m.cls) (hE : EnvOK E s) (hM : MOK E M H) (hl : Cond.fieldLink own index RX4 "trial" "LOfflineNotes$State;" ∈ lw_G) (hin2 : meth.name = "<init>") (hown2 : RX4 = own) (hS : va_S (eA E) s.heap H locs) (hg : sR 5 138 a (some v) M = some M') (hdg : decode cc pc = .ok (.putfield index, 3))
    (kk : ∀ (H1 : Heap) (locs1 : List Loc), MOK E M' H1 → va_S (eA E) s.heap H1 locs1 → W p l e R s m args below meth c H1 locs1 cells slots Q (F0 m (pc + 3) ls rest)) : W p l e R s m args below meth c H locs cells slots Q (F0 m pc ls (.ref v :: .ref a :: rest)) := by
  obtain ⟨hk, rfl⟩ := ifs hg
  refine r_put (ty := .object "OfflineNotes$State") (v := .ref v) (M' := (mK M, mN M, mI M, up2 (mR M) 138 a (some v), mA M, mB M, mL M, mZ M)) hx hb hts inG4 tyX4 tyX4_ok nmX4 hown hE hM hS hk (by decide) (mm_e5 hk) rfl 10 (by decide) hl rfl (Or.inr ⟨rfl, hin2, hown2⟩) rfl rfl rfl (Nat.le_of_ble_eq_true rfl) rfl rfl (fun b hb => mm_eq rfl rfl (fun _ => rfl) (fun f => up2_ne2 hb) rfl rfl rfl) ?_ hdg kk
  rw [mm_e5]; rotate_left; exact hk
  simp [up2, va_rf, mR, mI]
theorem rgn_4_11 {v : Nat} (hx : p.tables.exec = Jvm.exec) (hb : c.code = cc) (hts : ∀ w ∈ lw_G, w.before args s = true) (hown : s.vm.findClass own = some m.cls) (hE : EnvOK E s) (hM : MOK E M H) (hl : Cond.fieldLink own index RX4 "secondTrial" "LOfflineNotes$State;" ∈ lw_G) (hg : gRn 5 139 a M = some v) (hdg : decode cc pc = .ok (.getfield index, 3))
    (kk : W p l e R s m args below meth c H locs cells slots Q (F0 m (pc + 3) ls (.ref v :: rest))) : W p l e R s m args below meth c H locs cells slots Q (F0 m pc ls (.ref a :: rest)) := by
  obtain ⟨hk, h2⟩ := ifg hg
  refine r_get (v := .ref v) hx hb hts inG4 hown hE hM hk (by decide) (mm_e5 hk) rfl 11 (by decide) hl rfl ?_ hdg kk
  show some (va_rf (mR M 139 a)) = _
  rw [h2]; rfl
theorem rp_4_11 {v : Nat} (hx : p.tables.exec = Jvm.exec) (hb : c.code = cc) (hts : ∀ w ∈ lw_G, w.before args s = true) (hown : s.vm.findClass own = some m.cls) (hE : EnvOK E s) (hM : MOK E M H) (hl : Cond.fieldLink own index RX4 "secondTrial" "LOfflineNotes$State;" ∈ lw_G) (hin2 : meth.name = "<init>") (hown2 : RX4 = own) (hS : va_S (eA E) s.heap H locs) (hg : sR 5 139 a (some v) M = some M') (hdg : decode cc pc = .ok (.putfield index, 3))
    (kk : ∀ (H1 : Heap) (locs1 : List Loc), MOK E M' H1 → va_S (eA E) s.heap H1 locs1 → W p l e R s m args below meth c H1 locs1 cells slots Q (F0 m (pc + 3) ls rest)) : W p l e R s m args below meth c H locs cells slots Q (F0 m pc ls (.ref v :: .ref a :: rest)) := by
  obtain ⟨hk, rfl⟩ := ifs hg
  refine r_put (ty := .object "OfflineNotes$State") (v := .ref v) (M' := (mK M, mN M, mI M, up2 (mR M) 139 a (some v), mA M, mB M, mL M, mZ M)) hx hb hts inG4 tyX4 tyX4_ok nmX4 hown hE hM hS hk (by decide) (mm_e5 hk) rfl 11 (by decide) hl rfl (Or.inr ⟨rfl, hin2, hown2⟩) rfl rfl rfl (Nat.le_of_ble_eq_true rfl) rfl rfl (fun b hb => mm_eq rfl rfl (fun _ => rfl) (fun f => up2_ne2 hb) rfl rfl rfl) ?_ hdg kk
  rw [mm_e5]; rotate_left; exact hk
  simp [up2, va_rf, mR, mI]
theorem rgn_5_0 {v : Nat} (hx : p.tables.exec = Jvm.exec) (hb : c.code = cc) (hts : ∀ w ∈ lw_G, w.before args s = true) (hown : s.vm.findClass own = some m.cls) (hE : EnvOK E s) (hM : MOK E M H) (hl : Cond.fieldLink own index RJ0 "value" "[B" ∈ lw_G) (hg : gRn 6 160 a M = some v) (hdg : decode cc pc = .ok (.getfield index, 3))
    (kk : W p l e R s m args below meth c H locs cells slots Q (F0 m (pc + 3) ls (.ref v :: rest))) : W p l e R s m args below meth c H locs cells slots Q (F0 m pc ls (.ref a :: rest)) := by
  obtain ⟨hk, h2⟩ := ifg hg
  refine r_get (v := .ref v) hx hb hts inG5 hown hE hM hk (by decide) (mm_e6 hk) rfl 0 (by decide) hl rfl ?_ hdg kk
  show some (va_rf (mR M 160 a)) = _
  rw [h2]; rfl
theorem rp_5_0 {v : Nat} (hx : p.tables.exec = Jvm.exec) (hb : c.code = cc) (hts : ∀ w ∈ lw_G, w.before args s = true) (hown : s.vm.findClass own = some m.cls) (hE : EnvOK E s) (hM : MOK E M H) (hl : Cond.fieldLink own index RJ0 "value" "[B" ∈ lw_G) (hin2 : meth.name = "<init>") (hown2 : RJ0 = own) (hS : va_S (eA E) s.heap H locs) (hg : sR 6 160 a (some v) M = some M') (hdg : decode cc pc = .ok (.putfield index, 3))
    (kk : ∀ (H1 : Heap) (locs1 : List Loc), MOK E M' H1 → va_S (eA E) s.heap H1 locs1 → W p l e R s m args below meth c H1 locs1 cells slots Q (F0 m (pc + 3) ls rest)) : W p l e R s m args below meth c H locs cells slots Q (F0 m pc ls (.ref v :: .ref a :: rest)) := by
  obtain ⟨hk, rfl⟩ := ifs hg
  refine r_put (ty := .array .byte) (v := .ref v) (M' := (mK M, mN M, mI M, up2 (mR M) 160 a (some v), mA M, mB M, mL M, mZ M)) hx hb hts inG5 tyJ0 tyJ0_ok nmJ0 hown hE hM hS hk (by decide) (mm_e6 hk) rfl 0 (by decide) hl rfl (Or.inr ⟨rfl, hin2, hown2⟩) rfl rfl rfl (Nat.le_of_ble_eq_true rfl) rfl rfl (fun b hb => mm_eq rfl rfl (fun _ => rfl) (fun f => up2_ne2 hb) rfl rfl rfl) ?_ hdg kk
  rw [mm_e6]; rotate_left; exact hk
  simp [up2, va_rf, mR, mI]
theorem rg_5_1 {v : Int32} (hx : p.tables.exec = Jvm.exec) (hb : c.code = cc) (hts : ∀ w ∈ lw_G, w.before args s = true) (hown : s.vm.findClass own = some m.cls) (hE : EnvOK E s) (hM : MOK E M H) (hl : Cond.fieldLink own index RJ0 "coder" "B" ∈ lw_G) (hg : gI 6 161 a M = some v) (hdg : decode cc pc = .ok (.getfield index, 3))
    (kk : W p l e R s m args below meth c H locs cells slots Q (F0 m (pc + 3) ls (.int v :: rest))) : W p l e R s m args below meth c H locs cells slots Q (F0 m pc ls (.ref a :: rest)) := by
  obtain ⟨hk, rfl⟩ := ifs hg
  exact r_get (v := .int _) hx hb hts inG5 hown hE hM hk (by decide) (mm_e6 hk) rfl 1 (by decide) hl rfl rfl hdg kk
theorem rp_5_1 {v : Int32} (hx : p.tables.exec = Jvm.exec) (hb : c.code = cc) (hts : ∀ w ∈ lw_G, w.before args s = true) (hown : s.vm.findClass own = some m.cls) (hE : EnvOK E s) (hM : MOK E M H) (hl : Cond.fieldLink own index RJ0 "coder" "B" ∈ lw_G) (hin2 : meth.name = "<init>") (hown2 : RJ0 = own) (hnar : narrow .byte (.int v) = .int v ∧ fits .byte (.int v) = true) (hS : va_S (eA E) s.heap H locs) (hg : sI 6 161 a v M = some M') (hdg : decode cc pc = .ok (.putfield index, 3))
    (kk : ∀ (H1 : Heap) (locs1 : List Loc), MOK E M' H1 → va_S (eA E) s.heap H1 locs1 → W p l e R s m args below meth c H1 locs1 cells slots Q (F0 m (pc + 3) ls rest)) : W p l e R s m args below meth c H locs cells slots Q (F0 m pc ls (.int v :: .ref a :: rest)) := by
  obtain ⟨hk, rfl⟩ := ifs hg
  refine r_put (ty := .byte) (v := .int v) (M' := (mK M, mN M, up2 (mI M) 161 a v, mR M, mA M, mB M, mL M, mZ M)) hx hb hts inG5 tyJ0 tyJ0_ok nmJ0 hown hE hM hS hk (by decide) (mm_e6 hk) rfl 1 (by decide) hl rfl (Or.inr ⟨rfl, hin2, hown2⟩) rfl hnar.1 hnar.2 (Nat.le_of_ble_eq_true rfl) rfl rfl (fun b hb => mm_eq rfl rfl (fun f => up2_ne2 hb) (fun _ => rfl) rfl rfl rfl) ?_ hdg kk
  rw [mm_e6]; rotate_left; exact hk
  simp [up2, mR, mI]
theorem rg_5_2 {v : Int32} (hx : p.tables.exec = Jvm.exec) (hb : c.code = cc) (hts : ∀ w ∈ lw_G, w.before args s = true) (hown : s.vm.findClass own = some m.cls) (hE : EnvOK E s) (hM : MOK E M H) (hl : Cond.fieldLink own index RJ0 "hash" "I" ∈ lw_G) (hg : gI 6 162 a M = some v) (hdg : decode cc pc = .ok (.getfield index, 3))
    (kk : W p l e R s m args below meth c H locs cells slots Q (F0 m (pc + 3) ls (.int v :: rest))) : W p l e R s m args below meth c H locs cells slots Q (F0 m pc ls (.ref a :: rest)) := by
  obtain ⟨hk, rfl⟩ := ifs hg
  exact r_get (v := .int _) hx hb hts inG5 hown hE hM hk (by decide) (mm_e6 hk) rfl 2 (by decide) hl rfl rfl hdg kk
theorem rp_5_2 {v : Int32} (hx : p.tables.exec = Jvm.exec) (hb : c.code = cc) (hts : ∀ w ∈ lw_G, w.before args s = true) (hown : s.vm.findClass own = some m.cls) (hE : EnvOK E s) (hM : MOK E M H) (hl : Cond.fieldLink own index RJ0 "hash" "I" ∈ lw_G) (hS : va_S (eA E) s.heap H locs) (hg : sI 6 162 a v M = some M') (hdg : decode cc pc = .ok (.putfield index, 3))
    (kk : ∀ (H1 : Heap) (locs1 : List Loc), MOK E M' H1 → va_S (eA E) s.heap H1 locs1 → W p l e R s m args below meth c H1 locs1 cells slots Q (F0 m (pc + 3) ls rest)) : W p l e R s m args below meth c H locs cells slots Q (F0 m pc ls (.int v :: .ref a :: rest)) := by
  obtain ⟨hk, rfl⟩ := ifs hg
  refine r_put (ty := .int) (v := .int v) (M' := (mK M, mN M, up2 (mI M) 162 a v, mR M, mA M, mB M, mL M, mZ M)) hx hb hts inG5 tyJ0 tyJ0_ok nmJ0 hown hE hM hS hk (by decide) (mm_e6 hk) rfl 2 (by decide) hl rfl (Or.inl rfl) rfl rfl rfl (Nat.le_of_ble_eq_true rfl) rfl rfl (fun b hb => mm_eq rfl rfl (fun f => up2_ne2 hb) (fun _ => rfl) rfl rfl rfl) ?_ hdg kk
  rw [mm_e6]; rotate_left; exact hk
  simp [up2, mR, mI]
theorem rg_5_3 {v : Int32} (hx : p.tables.exec = Jvm.exec) (hb : c.code = cc) (hts : ∀ w ∈ lw_G, w.before args s = true) (hown : s.vm.findClass own = some m.cls) (hE : EnvOK E s) (hM : MOK E M H) (hl : Cond.fieldLink own index RJ0 "hashIsZero" "Z" ∈ lw_G) (hg : gI 6 163 a M = some v) (hdg : decode cc pc = .ok (.getfield index, 3))
    (kk : W p l e R s m args below meth c H locs cells slots Q (F0 m (pc + 3) ls (.int v :: rest))) : W p l e R s m args below meth c H locs cells slots Q (F0 m pc ls (.ref a :: rest)) := by
  obtain ⟨hk, rfl⟩ := ifs hg
  exact r_get (v := .int _) hx hb hts inG5 hown hE hM hk (by decide) (mm_e6 hk) rfl 3 (by decide) hl rfl rfl hdg kk
theorem rp_5_3 {v : Int32} (hx : p.tables.exec = Jvm.exec) (hb : c.code = cc) (hts : ∀ w ∈ lw_G, w.before args s = true) (hown : s.vm.findClass own = some m.cls) (hE : EnvOK E s) (hM : MOK E M H) (hl : Cond.fieldLink own index RJ0 "hashIsZero" "Z" ∈ lw_G) (hnar : narrow .boolean (.int v) = .int v ∧ fits .boolean (.int v) = true) (hS : va_S (eA E) s.heap H locs) (hg : sI 6 163 a v M = some M') (hdg : decode cc pc = .ok (.putfield index, 3))
    (kk : ∀ (H1 : Heap) (locs1 : List Loc), MOK E M' H1 → va_S (eA E) s.heap H1 locs1 → W p l e R s m args below meth c H1 locs1 cells slots Q (F0 m (pc + 3) ls rest)) : W p l e R s m args below meth c H locs cells slots Q (F0 m pc ls (.int v :: .ref a :: rest)) := by
  obtain ⟨hk, rfl⟩ := ifs hg
  refine r_put (ty := .boolean) (v := .int v) (M' := (mK M, mN M, up2 (mI M) 163 a v, mR M, mA M, mB M, mL M, mZ M)) hx hb hts inG5 tyJ0 tyJ0_ok nmJ0 hown hE hM hS hk (by decide) (mm_e6 hk) rfl 3 (by decide) hl rfl (Or.inl rfl) rfl hnar.1 hnar.2 (Nat.le_of_ble_eq_true rfl) rfl rfl (fun b hb => mm_eq rfl rfl (fun f => up2_ne2 hb) (fun _ => rfl) rfl rfl rfl) ?_ hdg kk
  rw [mm_e6]; rotate_left; exact hk
  simp [up2, mR, mI]
theorem rgn_6_0 {v : Nat} (hx : p.tables.exec = Jvm.exec) (hb : c.code = cc) (hts : ∀ w ∈ lw_G, w.before args s = true) (hown : s.vm.findClass own = some m.cls) (hE : EnvOK E s) (hM : MOK E M H) (hl : Cond.fieldLink own index RJ5 "value" "[B" ∈ lw_G) (hg : gRn 12 192 a M = some v) (hdg : decode cc pc = .ok (.getfield index, 3))
    (kk : W p l e R s m args below meth c H locs cells slots Q (F0 m (pc + 3) ls (.ref v :: rest))) : W p l e R s m args below meth c H locs cells slots Q (F0 m pc ls (.ref a :: rest)) := by
  obtain ⟨hk, h2⟩ := ifg hg
  refine r_getU (v := .ref v) hx hb hts inG6 hown hE hM hk (by decide) (mm_e12 hk) rfl 0 (by decide) hl ?_ hdg kk
  show some (va_rf (mR M 192 a)) = _
  rw [h2]; rfl
theorem rp_6_0 {v : Nat} (hx : p.tables.exec = Jvm.exec) (hb : c.code = cc) (hts : ∀ w ∈ lw_G, w.before args s = true) (hown : s.vm.findClass own = some m.cls) (hE : EnvOK E s) (hM : MOK E M H) (hl : Cond.fieldLink own index RJ5 "value" "[B" ∈ lw_G) (hS : va_S (eA E) s.heap H locs) (hg : sR 12 192 a (some v) M = some M') (hdg : decode cc pc = .ok (.putfield index, 3))
    (kk : ∀ (H1 : Heap) (locs1 : List Loc), MOK E M' H1 → va_S (eA E) s.heap H1 locs1 → W p l e R s m args below meth c H1 locs1 cells slots Q (F0 m (pc + 3) ls rest)) : W p l e R s m args below meth c H locs cells slots Q (F0 m pc ls (.ref v :: .ref a :: rest)) := by
  obtain ⟨hk, rfl⟩ := ifs hg
  refine r_putU (ty := .array .byte) (v := .ref v) (M' := (mK M, mN M, mI M, up2 (mR M) 192 a (some v), mA M, mB M, mL M, mZ M)) hx hb hts inG6 tyJ4 tyJ4_ok nmJ4 hown hE hM hS hk (by decide) (mm_e12 hk) rfl 0 (by decide) hl (Or.inl rfl) rfl rfl rfl (Nat.le_of_ble_eq_true rfl) rfl rfl (fun b hb => mm_eq rfl rfl (fun _ => rfl) (fun f => up2_ne2 hb) rfl rfl rfl) ?_ hdg kk
  rw [mm_e12]; rotate_left; exact hk
  simp [up2, va_rf, mR, mI]
theorem rg_6_1 {v : Int32} (hx : p.tables.exec = Jvm.exec) (hb : c.code = cc) (hts : ∀ w ∈ lw_G, w.before args s = true) (hown : s.vm.findClass own = some m.cls) (hE : EnvOK E s) (hM : MOK E M H) (hl : Cond.fieldLink own index RJ5 "coder" "B" ∈ lw_G) (hg : gI 12 193 a M = some v) (hdg : decode cc pc = .ok (.getfield index, 3))
    (kk : W p l e R s m args below meth c H locs cells slots Q (F0 m (pc + 3) ls (.int v :: rest))) : W p l e R s m args below meth c H locs cells slots Q (F0 m pc ls (.ref a :: rest)) := by
  obtain ⟨hk, rfl⟩ := ifs hg
  exact r_getU (v := .int _) hx hb hts inG6 hown hE hM hk (by decide) (mm_e12 hk) rfl 1 (by decide) hl rfl hdg kk
theorem rp_6_1 {v : Int32} (hx : p.tables.exec = Jvm.exec) (hb : c.code = cc) (hts : ∀ w ∈ lw_G, w.before args s = true) (hown : s.vm.findClass own = some m.cls) (hE : EnvOK E s) (hM : MOK E M H) (hl : Cond.fieldLink own index RJ5 "coder" "B" ∈ lw_G) (hnar : narrow .byte (.int v) = .int v ∧ fits .byte (.int v) = true) (hS : va_S (eA E) s.heap H locs) (hg : sI 12 193 a v M = some M') (hdg : decode cc pc = .ok (.putfield index, 3))
    (kk : ∀ (H1 : Heap) (locs1 : List Loc), MOK E M' H1 → va_S (eA E) s.heap H1 locs1 → W p l e R s m args below meth c H1 locs1 cells slots Q (F0 m (pc + 3) ls rest)) : W p l e R s m args below meth c H locs cells slots Q (F0 m pc ls (.int v :: .ref a :: rest)) := by
  obtain ⟨hk, rfl⟩ := ifs hg
  refine r_putU (ty := .byte) (v := .int v) (M' := (mK M, mN M, up2 (mI M) 193 a v, mR M, mA M, mB M, mL M, mZ M)) hx hb hts inG6 tyJ4 tyJ4_ok nmJ4 hown hE hM hS hk (by decide) (mm_e12 hk) rfl 1 (by decide) hl (Or.inl rfl) rfl hnar.1 hnar.2 (Nat.le_of_ble_eq_true rfl) rfl rfl (fun b hb => mm_eq rfl rfl (fun f => up2_ne2 hb) (fun _ => rfl) rfl rfl rfl) ?_ hdg kk
  rw [mm_e12]; rotate_left; exact hk
  simp [up2, mR, mI]
theorem rg_6_2 {v : Int32} (hx : p.tables.exec = Jvm.exec) (hb : c.code = cc) (hts : ∀ w ∈ lw_G, w.before args s = true) (hown : s.vm.findClass own = some m.cls) (hE : EnvOK E s) (hM : MOK E M H) (hl : Cond.fieldLink own index RJ5 "maybeLatin1" "Z" ∈ lw_G) (hg : gI 12 194 a M = some v) (hdg : decode cc pc = .ok (.getfield index, 3))
    (kk : W p l e R s m args below meth c H locs cells slots Q (F0 m (pc + 3) ls (.int v :: rest))) : W p l e R s m args below meth c H locs cells slots Q (F0 m pc ls (.ref a :: rest)) := by
  obtain ⟨hk, rfl⟩ := ifs hg
  exact r_getU (v := .int _) hx hb hts inG6 hown hE hM hk (by decide) (mm_e12 hk) rfl 2 (by decide) hl rfl hdg kk
theorem rp_6_2 {v : Int32} (hx : p.tables.exec = Jvm.exec) (hb : c.code = cc) (hts : ∀ w ∈ lw_G, w.before args s = true) (hown : s.vm.findClass own = some m.cls) (hE : EnvOK E s) (hM : MOK E M H) (hl : Cond.fieldLink own index RJ5 "maybeLatin1" "Z" ∈ lw_G) (hnar : narrow .boolean (.int v) = .int v ∧ fits .boolean (.int v) = true) (hS : va_S (eA E) s.heap H locs) (hg : sI 12 194 a v M = some M') (hdg : decode cc pc = .ok (.putfield index, 3))
    (kk : ∀ (H1 : Heap) (locs1 : List Loc), MOK E M' H1 → va_S (eA E) s.heap H1 locs1 → W p l e R s m args below meth c H1 locs1 cells slots Q (F0 m (pc + 3) ls rest)) : W p l e R s m args below meth c H locs cells slots Q (F0 m pc ls (.int v :: .ref a :: rest)) := by
  obtain ⟨hk, rfl⟩ := ifs hg
  refine r_putU (ty := .boolean) (v := .int v) (M' := (mK M, mN M, up2 (mI M) 194 a v, mR M, mA M, mB M, mL M, mZ M)) hx hb hts inG6 tyJ4 tyJ4_ok nmJ4 hown hE hM hS hk (by decide) (mm_e12 hk) rfl 2 (by decide) hl (Or.inl rfl) rfl hnar.1 hnar.2 (Nat.le_of_ble_eq_true rfl) rfl rfl (fun b hb => mm_eq rfl rfl (fun f => up2_ne2 hb) (fun _ => rfl) rfl rfl rfl) ?_ hdg kk
  rw [mm_e12]; rotate_left; exact hk
  simp [up2, mR, mI]
theorem rg_6_3 {v : Int32} (hx : p.tables.exec = Jvm.exec) (hb : c.code = cc) (hts : ∀ w ∈ lw_G, w.before args s = true) (hown : s.vm.findClass own = some m.cls) (hE : EnvOK E s) (hM : MOK E M H) (hl : Cond.fieldLink own index RJ5 "count" "I" ∈ lw_G) (hg : gI 12 195 a M = some v) (hdg : decode cc pc = .ok (.getfield index, 3))
    (kk : W p l e R s m args below meth c H locs cells slots Q (F0 m (pc + 3) ls (.int v :: rest))) : W p l e R s m args below meth c H locs cells slots Q (F0 m pc ls (.ref a :: rest)) := by
  obtain ⟨hk, rfl⟩ := ifs hg
  exact r_getU (v := .int _) hx hb hts inG6 hown hE hM hk (by decide) (mm_e12 hk) rfl 3 (by decide) hl rfl hdg kk
theorem rp_6_3 {v : Int32} (hx : p.tables.exec = Jvm.exec) (hb : c.code = cc) (hts : ∀ w ∈ lw_G, w.before args s = true) (hown : s.vm.findClass own = some m.cls) (hE : EnvOK E s) (hM : MOK E M H) (hl : Cond.fieldLink own index RJ5 "count" "I" ∈ lw_G) (hS : va_S (eA E) s.heap H locs) (hg : sI 12 195 a v M = some M') (hdg : decode cc pc = .ok (.putfield index, 3))
    (kk : ∀ (H1 : Heap) (locs1 : List Loc), MOK E M' H1 → va_S (eA E) s.heap H1 locs1 → W p l e R s m args below meth c H1 locs1 cells slots Q (F0 m (pc + 3) ls rest)) : W p l e R s m args below meth c H locs cells slots Q (F0 m pc ls (.int v :: .ref a :: rest)) := by
  obtain ⟨hk, rfl⟩ := ifs hg
  refine r_putU (ty := .int) (v := .int v) (M' := (mK M, mN M, up2 (mI M) 195 a v, mR M, mA M, mB M, mL M, mZ M)) hx hb hts inG6 tyJ4 tyJ4_ok nmJ4 hown hE hM hS hk (by decide) (mm_e12 hk) rfl 3 (by decide) hl (Or.inl rfl) rfl rfl rfl (Nat.le_of_ble_eq_true rfl) rfl rfl (fun b hb => mm_eq rfl rfl (fun f => up2_ne2 hb) (fun _ => rfl) rfl rfl rfl) ?_ hdg kk
  rw [mm_e12]; rotate_left; exact hk
  simp [up2, mR, mI]
end FR
