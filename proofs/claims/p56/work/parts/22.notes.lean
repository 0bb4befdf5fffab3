/-! printed by wip/p56/gen2.py: methods as functions over the memory, and that the code does what they say -/
theorem dd_L_notes : yL_notes.cls ≠ "java/lang/invoke/MethodHandle" ∧ yL_notes.cls ≠ "java/lang/invoke/VarHandle" ∧ (parseMethodDescriptor yL_notes.desc).map (fun d => d.parameters.length) = some 4 := by decide +kernel
abbrev rm_L_notes : Room := ({ frames := 9, cells := 142, slots := 59496, locals := 214 } : Room)
noncomputable def fj_L_notes_332 (x4 : Nat) (M : Mem) : Option (Nat × Mem) :=
  bn (cK 12 x4 M (f_J4_toString_0e30d x4 M)) fun v17 M18 =>
  some (v17, M18)
set_option maxHeartbeats 4000000 in
set_option maxRecDepth 100000 in
theorem tj_L_notes_332 {p : Program} {l : Launch} {e : Env} {s : State} {m : MethodId} {args : Array Value} {below : List Frame} {meth : Method} {c : Code} {E : KEnv} {H : Heap} {locs : List Loc} {ls : Array Slot} {cells slots : Nat} {x4 : Nat} {M : Mem} {v : Nat} {M' : Mem} (hC : CallFix p m c cL_notes 7 s args lw_G RL) (hr : meth.sig.returnType = (some (.object "java/lang/String"))) (hlocks : meth.locks = false) (hE : EnvOK E s) (hcs : cells + (2) ≤ 142 ∧ slots + (516) ≤ 59496) (h : fj_L_notes_332 x4 M = some (v, M')) (hM : MOK E M H) (hS : va_S (eA E) s.heap H locs) (hl : lv_has ls 7 [(4, .ref x4)]) : W p l e rm_L_notes s m args below meth c H locs cells slots (MQ below (cQ E (some (.ref v)) M') args s 142 59496 (eA E)) (F0 m 332 ls []) := by
  obtain ⟨hx, hb, hml, hown, hts⟩ := id hC
  unfold fj_L_notes_332 at h
  refine lv_aload hx hb dL_notes_332 (lv_at hl 0 rfl) ?_
  obtain ⟨v17, M18, h1, h⟩ := ob2 h
  obtain ⟨hk1, h1⟩ := ifg h1
  refine kV1 (ci := 6) (As := []) (rest := []) hC hE hS hM (mt_J4_toString_0e30d _ E x4 _ _ _ h1) (gwV qw_912 qw_913 qw_914 qw_51 qw_915) ⟨rfl, rfl, (Nat.le_of_ble_eq_true rfl), (Nat.le_of_ble_eq_true rfl)⟩ dd_J4_toString_0e30d rfl hk1 rfl rfl hl.1 (Nat.le_of_ble_eq_true rfl) dL_notes_334 ⟨(Nat.le_trans (m := 142) (by omega) (Nat.le_refl _)), (Nat.le_trans (m := 59496) (by omega) (Nat.le_refl _))⟩ (fun H locs hM hS => ?_)
  cases h
  exact eR hx hb hr (by first | exact Or.inl ⟨_, rfl⟩ | exact Or.inr ⟨_, rfl⟩) hlocks hM hS dL_notes_337 (by omega) (by omega)
noncomputable def fj_L_notes_326 (x0 : Int32) (x1 : Int32) (x2 : Int32) (x3 : Nat) (x4 : Nat) (x5 : Int32) (M : Mem) : Option ((Int32 × Mem) ⊕ (Nat × Mem)) :=
  some (.inl (x5 + (-1), M))
set_option maxHeartbeats 4000000 in
set_option maxRecDepth 100000 in
theorem tj_L_notes_326 {p : Program} {l : Launch} {e : Env} {s : State} {m : MethodId} {args : Array Value} {below : List Frame} {meth : Method} {c : Code} {E : KEnv} {H : Heap} {locs : List Loc} {ls : Array Slot} {cells slots : Nat} {x0 : Int32} {x1 : Int32} {x2 : Int32} {x3 : Nat} {x4 : Nat} {x5 : Int32} {y1 : ((Int32 × Mem) ⊕ (Nat × Mem))} {n42 : Nat} {M : Mem} {v : Nat} {M' : Mem} (hC : CallFix p m c cL_notes 7 s args lw_G RL) (hr : meth.sig.returnType = (some (.object "java/lang/String"))) (hlocks : meth.locks = false) (hE : EnvOK E s) (hy1 : (∀ q : (Int32 × Mem), y1 = .inl q → ∀ (H : Heap) (locs : List Loc) (ls : Array Slot) (cells slots : Nat), (cells + (2 + n42 * 11) ≤ 142 ∧ slots + (516 + n42 * 4616) ≤ 59496) → MOK E (q.2) H → va_S (eA E) s.heap H locs → lv_has ls 7 [(0, .int x0), (1, .int x1), (2, .int x2), (3, .ref x3), (4, .ref x4), (5, .int q.1)] → W p l e rm_L_notes s m args below meth c H locs cells slots (MQ below (cQ E (some (.ref v)) M') args s 142 59496 (eA E)) (F0 m 42 ls [])) ∧ ∀ z, y1 = .inr z → z = (v, M')) (hcs : cells + (2 + n42 * 11) ≤ 142 ∧ slots + (516 + n42 * 4616) ≤ 59496) (h : fj_L_notes_326 x0 x1 x2 x3 x4 x5 M = some y1) (hM : MOK E M H) (hS : va_S (eA E) s.heap H locs) (hl : lv_has ls 7 [(0, .int x0), (1, .int x1), (2, .int x2), (3, .ref x3), (4, .ref x4), (5, .int x5)]) : W p l e rm_L_notes s m args below meth c H locs cells slots (MQ below (cQ E (some (.ref v)) M') args s 142 59496 (eA E)) (F0 m 326 ls []) := by
  obtain ⟨hx, hb, hml, hown, hts⟩ := id hC
  unfold fj_L_notes_326 at h
  refine lv_iinc (v := x5 + (-1)) (lv' := [(5, .int (x5 + (-1))), (0, .int x0), (1, .int x1), (2, .int x2), (3, .ref x3), (4, .ref x4)]) hx hb dL_notes_326 hl (k := 5) rfl rfl (by decide) rfl (fun ls hl => ?_)
  refine lv_goto (tgt := 42) hx hb dL_notes_329 (by decide) ?_
  cases h
  exact hy1.1 _ rfl _ _ _ _ _ ⟨by omega, by omega⟩ hM hS (lv_sub hl [1, 2, 3, 4, 5, 0] rfl)
noncomputable def fj_L_notes_173 (x0 : Int32) (x1 : Int32) (x2 : Int32) (x3 : Nat) (x4 : Nat) (x5 : Int32) (s0 : Nat) (s1 : Nat) (M : Mem) : Option ((Int32 × Mem) ⊕ (Nat × Mem)) :=
  bn (cK 12 s0 M (f_J4_append_15ec4 s0 s1 M)) fun v45 M46 =>
  fj_L_notes_326 x0 x1 x2 x3 x4 x5 M46
set_option maxHeartbeats 4000000 in
set_option maxRecDepth 100000 in
theorem tj_L_notes_173 {p : Program} {l : Launch} {e : Env} {s : State} {m : MethodId} {args : Array Value} {below : List Frame} {meth : Method} {c : Code} {E : KEnv} {H : Heap} {locs : List Loc} {ls : Array Slot} {cells slots : Nat} {x0 : Int32} {x1 : Int32} {x2 : Int32} {x3 : Nat} {x4 : Nat} {x5 : Int32} {s0 : Nat} {s1 : Nat} {y1 : ((Int32 × Mem) ⊕ (Nat × Mem))} {n42 : Nat} {M : Mem} {v : Nat} {M' : Mem} (hC : CallFix p m c cL_notes 7 s args lw_G RL) (hr : meth.sig.returnType = (some (.object "java/lang/String"))) (hlocks : meth.locks = false) (hE : EnvOK E s) (hy1 : (∀ q : (Int32 × Mem), y1 = .inl q → ∀ (H : Heap) (locs : List Loc) (ls : Array Slot) (cells slots : Nat), (cells + (2 + n42 * 11) ≤ 142 ∧ slots + (516 + n42 * 4616) ≤ 59496) → MOK E (q.2) H → va_S (eA E) s.heap H locs → lv_has ls 7 [(0, .int x0), (1, .int x1), (2, .int x2), (3, .ref x3), (4, .ref x4), (5, .int q.1)] → W p l e rm_L_notes s m args below meth c H locs cells slots (MQ below (cQ E (some (.ref v)) M') args s 142 59496 (eA E)) (F0 m 42 ls [])) ∧ ∀ z, y1 = .inr z → z = (v, M')) (hcs : cells + (3 + n42 * 11) ≤ 142 ∧ slots + (1028 + n42 * 4616) ≤ 59496) (h : fj_L_notes_173 x0 x1 x2 x3 x4 x5 s0 s1 M = some y1) (hM : MOK E M H) (hS : va_S (eA E) s.heap H locs) (hl : lv_has ls 7 [(0, .int x0), (1, .int x1), (2, .int x2), (3, .ref x3), (4, .ref x4), (5, .int x5)]) : W p l e rm_L_notes s m args below meth c H locs cells slots (MQ below (cQ E (some (.ref v)) M') args s 142 59496 (eA E)) (F0 m 173 ls [.ref s1, .ref s0]) := by
  obtain ⟨hx, hb, hml, hown, hts⟩ := id hC
  unfold fj_L_notes_173 at h
  obtain ⟨v45, M46, h1, h⟩ := ob2 h
  obtain ⟨hk1, h1⟩ := ifg h1
  refine kV1 (ci := 6) (As := [.ref s1]) (rest := []) hC hE hS hM (mt_J4_append_15ec4 _ E s0 s1 _ _ _ h1) (gwV qw_910 qw_770 qw_771 qw_51 qw_772) ⟨rfl, rfl, (Nat.le_of_ble_eq_true rfl), (Nat.le_of_ble_eq_true rfl)⟩ dd_J4_append_15ec4 rfl hk1 rfl rfl hl.1 (Nat.le_of_ble_eq_true rfl) dL_notes_173 ⟨(Nat.le_trans (m := 142) (by omega) (Nat.le_refl _)), (Nat.le_trans (m := 59496) (by omega) (Nat.le_refl _))⟩ (fun H locs hM hS => ?_)
  refine lv_pop hx hb dL_notes_176 rfl ?_
  refine lv_goto (tgt := 326) hx hb dL_notes_177 (by decide) ?_
  exact tj_L_notes_326 hC hr hlocks hE hy1 ⟨by omega, by omega⟩ h hM hS (lv_sub hl [0, 1, 2, 3, 4, 5] rfl)
noncomputable def fj_L_notes_258 (x0 : Int32) (x1 : Int32) (x2 : Int32) (x3 : Nat) (x4 : Nat) (x5 : Int32) (s0 : Nat) (s1 : Nat) (M : Mem) : Option ((Int32 × Mem) ⊕ (Nat × Mem)) :=
  bn (cK 12 s0 M (f_J4_append_15ec4 s0 s1 M)) fun v81 M82 =>
  fj_L_notes_326 x0 x1 x2 x3 x4 x5 M82
set_option maxHeartbeats 4000000 in
set_option maxRecDepth 100000 in
theorem tj_L_notes_258 {p : Program} {l : Launch} {e : Env} {s : State} {m : MethodId} {args : Array Value} {below : List Frame} {meth : Method} {c : Code} {E : KEnv} {H : Heap} {locs : List Loc} {ls : Array Slot} {cells slots : Nat} {x0 : Int32} {x1 : Int32} {x2 : Int32} {x3 : Nat} {x4 : Nat} {x5 : Int32} {s0 : Nat} {s1 : Nat} {y1 : ((Int32 × Mem) ⊕ (Nat × Mem))} {n42 : Nat} {M : Mem} {v : Nat} {M' : Mem} (hC : CallFix p m c cL_notes 7 s args lw_G RL) (hr : meth.sig.returnType = (some (.object "java/lang/String"))) (hlocks : meth.locks = false) (hE : EnvOK E s) (hy1 : (∀ q : (Int32 × Mem), y1 = .inl q → ∀ (H : Heap) (locs : List Loc) (ls : Array Slot) (cells slots : Nat), (cells + (2 + n42 * 11) ≤ 142 ∧ slots + (516 + n42 * 4616) ≤ 59496) → MOK E (q.2) H → va_S (eA E) s.heap H locs → lv_has ls 7 [(0, .int x0), (1, .int x1), (2, .int x2), (3, .ref x3), (4, .ref x4), (5, .int q.1)] → W p l e rm_L_notes s m args below meth c H locs cells slots (MQ below (cQ E (some (.ref v)) M') args s 142 59496 (eA E)) (F0 m 42 ls [])) ∧ ∀ z, y1 = .inr z → z = (v, M')) (hcs : cells + (3 + n42 * 11) ≤ 142 ∧ slots + (1028 + n42 * 4616) ≤ 59496) (h : fj_L_notes_258 x0 x1 x2 x3 x4 x5 s0 s1 M = some y1) (hM : MOK E M H) (hS : va_S (eA E) s.heap H locs) (hl : lv_has ls 7 [(0, .int x0), (1, .int x1), (2, .int x2), (3, .ref x3), (4, .ref x4), (5, .int x5)]) : W p l e rm_L_notes s m args below meth c H locs cells slots (MQ below (cQ E (some (.ref v)) M') args s 142 59496 (eA E)) (F0 m 258 ls [.ref s1, .ref s0]) := by
  obtain ⟨hx, hb, hml, hown, hts⟩ := id hC
  unfold fj_L_notes_258 at h
  obtain ⟨v81, M82, h1, h⟩ := ob2 h
  obtain ⟨hk1, h1⟩ := ifg h1
  refine kV1 (ci := 6) (As := [.ref s1]) (rest := []) hC hE hS hM (mt_J4_append_15ec4 _ E s0 s1 _ _ _ h1) (gwV qw_910 qw_770 qw_771 qw_51 qw_772) ⟨rfl, rfl, (Nat.le_of_ble_eq_true rfl), (Nat.le_of_ble_eq_true rfl)⟩ dd_J4_append_15ec4 rfl hk1 rfl rfl hl.1 (Nat.le_of_ble_eq_true rfl) dL_notes_258 ⟨(Nat.le_trans (m := 142) (by omega) (Nat.le_refl _)), (Nat.le_trans (m := 59496) (by omega) (Nat.le_refl _))⟩ (fun H locs hM hS => ?_)
  refine lv_pop hx hb dL_notes_261 rfl ?_
  refine lv_goto (tgt := 326) hx hb dL_notes_262 (by decide) ?_
  exact tj_L_notes_326 hC hr hlocks hE hy1 ⟨by omega, by omega⟩ h hM hS (lv_sub hl [0, 1, 2, 3, 4, 5] rfl)
noncomputable def fc_L_notes_42 (x0 : Int32) (x1 : Int32) (x2 : Int32) (x3 : Nat) (x4 : Nat) (x5 : Int32) (M : Mem) : Option ((Int32 × Mem) ⊕ (Nat × Mem)) :=
  (if x5 ≤ 0 then
  (fj_L_notes_332 x4 M).map Sum.inr
  else
  bn (f_L_next x3 M) fun v19 M20 =>
  (gz x0).bind fun _ =>
  bn (f_L_next x3 M20) fun v21 M22 =>
  (if (v21 - v21 / 4 * 4) = 0 then
  (if x1 = 0 then
  bnew 12 M22 fun v47 M48 =>
  (f_J4_init_da8c8 v47 M48).bind fun M50 =>
  bn (cK 12 v47 M50 (f_J4_append_15ec4_c v47 11 M50)) fun v51 M52 =>
  bn (cK 12 v51 M52 (f_J4_append_bf812 v51 (v19 - v19 / x0 * x0) M52)) fun v53 M54 =>
  bn (cK 12 v53 M54 (f_J4_append_15ec4_c v53 12 M54)) fun v55 M56 =>
  bn (cK 12 v55 M56 (f_J4_toString_0e30d v55 M56)) fun v57 M58 =>
  fj_L_notes_173 x0 x1 x2 x3 x4 x5 x4 v57 M58
  else
  bnew 12 M22 fun v23 M24 =>
  (f_J4_init_da8c8 v23 M24).bind fun M26 =>
  bn (cK 12 v23 M26 (f_J4_append_15ec4_c v23 13 M26)) fun v27 M28 =>
  bn (cK 12 v27 M28 (f_J4_append_bf812 v27 (v19 - v19 / x0 * x0) M28)) fun v29 M30 =>
  bn (cK 12 v29 M30 (f_J4_append_15ec4_c v29 14 M30)) fun v31 M32 =>
  bn (f_L_next x3 M32) fun v33 M34 =>
  (gz x1).bind fun _ =>
  bn (cK 12 v31 M34 (f_J4_append_bf812 v31 (v33 - v33 / x1 * x1) M34)) fun v35 M36 =>
  bn (cK 12 v35 M36 (f_J4_append_15ec4_c v35 14 M36)) fun v37 M38 =>
  bn (f_L_next x3 M38) fun v39 M40 =>
  bn (cK 12 v37 M40 (f_J4_append_bf812 v37 (1 + (v39 - v39 / 9 * 9)) M40)) fun v41 M42 =>
  bn (cK 12 v41 M42 (f_J4_toString_0e30d v41 M42)) fun v43 M44 =>
  fj_L_notes_173 x0 x1 x2 x3 x4 x5 x4 v43 M44)
  else
  (if (v21 - v21 / 4 * 4) = 1 then
  (if x2 = 0 then
  bnew 12 M22 fun v83 M84 =>
  (f_J4_init_da8c8 v83 M84).bind fun M86 =>
  bn (cK 12 v83 M86 (f_J4_append_15ec4_c v83 15 M86)) fun v87 M88 =>
  bn (cK 12 v87 M88 (f_J4_append_bf812 v87 (v19 - v19 / x0 * x0) M88)) fun v89 M90 =>
  bn (cK 12 v89 M90 (f_J4_toString_0e30d v89 M90)) fun v91 M92 =>
  fj_L_notes_258 x0 x1 x2 x3 x4 x5 x4 v91 M92
  else
  bnew 12 M22 fun v59 M60 =>
  (f_J4_init_da8c8 v59 M60).bind fun M62 =>
  bn (cK 12 v59 M62 (f_J4_append_15ec4_c v59 16 M62)) fun v63 M64 =>
  bn (cK 12 v63 M64 (f_J4_append_bf812 v63 (v19 - v19 / x0 * x0) M64)) fun v65 M66 =>
  bn (cK 12 v65 M66 (f_J4_append_15ec4_c v65 14 M66)) fun v67 M68 =>
  bn (f_L_next x3 M68) fun v69 M70 =>
  (gz x2).bind fun _ =>
  bn (cK 12 v67 M70 (f_J4_append_bf812 v67 (v69 - v69 / x2 * x2) M70)) fun v71 M72 =>
  bn (cK 12 v71 M72 (f_J4_append_15ec4_c v71 14 M72)) fun v73 M74 =>
  bn (f_L_next x3 M74) fun v75 M76 =>
  bn (cK 12 v73 M76 (f_J4_append_bf812 v73 (v75 - v75 / 100 * 100) M76)) fun v77 M78 =>
  bn (cK 12 v77 M78 (f_J4_toString_0e30d v77 M78)) fun v79 M80 =>
  fj_L_notes_258 x0 x1 x2 x3 x4 x5 x4 v79 M80)
  else
  (if (v21 - v21 / 4 * 4) = 2 then
  bn (cK 12 x4 M22 (f_J4_append_15ec4_c x4 11 M22)) fun v93 M94 =>
  bn (cK 12 v93 M94 (f_J4_append_bf812 v93 (v19 - v19 / x0 * x0) M94)) fun v95 M96 =>
  bn (cK 12 v95 M96 (f_J4_append_cf468 v95 32 M96)) fun v97 M98 =>
  bn (f_L_next x3 M98) fun v99 M100 =>
  (gz x0).bind fun _ =>
  bn (cK 12 v97 M100 (f_J4_append_bf812 v97 (v99 - v99 / x0 * x0) M100)) fun v101 M102 =>
  fj_L_notes_326 x0 x1 x2 x3 x4 x5 M102
  else
  bn (cK 12 x4 M22 (f_J4_append_15ec4_c x4 17 M22)) fun v103 M104 =>
  bn (cK 12 v103 M104 (f_J4_append_bf812 v103 (v19 - v19 / x0 * x0) M104)) fun v105 M106 =>
  bn (cK 12 v105 M106 (f_J4_append_cf468 v105 32 M106)) fun v107 M108 =>
  bn (f_L_next x3 M108) fun v109 M110 =>
  bn (cK 12 v107 M110 (f_J4_append_cf468 v107 (((97 + (v109 - v109 / 5 * 5)).toUInt32 % 65536).toInt32) M110)) fun v111 M112 =>
  fj_L_notes_326 x0 x1 x2 x3 x4 x5 M112))))
noncomputable def fj_L_notes_42 (x0 : Int32) (x1 : Int32) (x2 : Int32) (x3 : Nat) (x4 : Nat) (x5 : Int32) (M : Mem) : Option (Nat × Mem) := loopM (fun q : (Int32 × Mem) => fc_L_notes_42 x0 x1 x2 x3 x4 q.1 q.2) 12 (x5, M)
set_option maxHeartbeats 4000000 in
set_option maxRecDepth 100000 in
theorem tj_L_notes_42 {p : Program} {l : Launch} {e : Env} {s : State} {m : MethodId} {args : Array Value} {below : List Frame} {meth : Method} {c : Code} {E : KEnv} {H : Heap} {locs : List Loc} {ls : Array Slot} {cells slots : Nat} {x0 : Int32} {x1 : Int32} {x2 : Int32} {x3 : Nat} {x4 : Nat} {x5 : Int32} {M : Mem} {v : Nat} {M' : Mem} (hC : CallFix p m c cL_notes 7 s args lw_G RL) (hr : meth.sig.returnType = (some (.object "java/lang/String"))) (hlocks : meth.locks = false) (hE : EnvOK E s) (hcs : cells + (2 + 12 * 11) ≤ 142 ∧ slots + (516 + 12 * 4616) ≤ 59496) (h : fj_L_notes_42 x0 x1 x2 x3 x4 x5 M = some (v, M')) (hM : MOK E M H) (hS : va_S (eA E) s.heap H locs) (hl : lv_has ls 7 [(0, .int x0), (1, .int x1), (2, .int x2), (3, .ref x3), (4, .ref x4), (5, .int x5)]) : W p l e rm_L_notes s m args below meth c H locs cells slots (MQ below (cQ E (some (.ref v)) M') args s 142 59496 (eA E)) (F0 m 42 ls []) := by
  refine loopM_indF (body := fun q : (Int32 × Mem) => fc_L_notes_42 x0 x1 x2 x3 x4 q.1 q.2) (x0 := (v, M')) (Wd := fun n42 q => ∀ (H : Heap) (locs : List Loc) (ls : Array Slot) (cells slots : Nat), (cells + (2 + n42 * 11) ≤ 142 ∧ slots + (516 + n42 * 4616) ≤ 59496) → MOK E (q.2) H → va_S (eA E) s.heap H locs → lv_has ls 7 [(0, .int x0), (1, .int x1), (2, .int x2), (3, .ref x3), (4, .ref x4), (5, .int q.1)] → W p l e rm_L_notes s m args below meth c H locs cells slots (MQ below (cQ E (some (.ref v)) M') args s 142 59496 (eA E)) (F0 m 42 ls [])) ?_ 12 (x5, M) h H locs ls cells slots hcs hM hS hl
  clear h hM hS hl hcs H locs ls M cells slots x5
  obtain ⟨hx, hb, hml, hown, hts⟩ := id hC
  intro n42 q y1 h hy1 H locs ls cells slots hcs hM hS hl
  obtain ⟨x5, M⟩ := q
  have h : fc_L_notes_42 x0 x1 x2 x3 x4 x5 M = some y1 := h
  have hM : MOK E M H := hM
  have hl : lv_has ls 7 [(0, .int x0), (1, .int x1), (2, .int x2), (3, .ref x3), (4, .ref x4), (5, .int x5)] := hl
  have hcs : cells + (2 + (n42 + 1) * 11) ≤ 142 ∧ slots + (516 + (n42 + 1) * 4616) ≤ 59496 := hcs
  unfold fc_L_notes_42 at h
  show W p l e rm_L_notes s m args below meth c H locs cells slots _ _
  refine lv_iload hx hb dL_notes_42 (lv_at hl 5 rfl) ?_
  refine lv_if_le (tgt := 332) hx hb dL_notes_44 (by decide) (fun c1 => ?_) (fun c1 => ?_)
  · have h := ifp c1 h
    obtain ⟨z0, h9, rfl⟩ := om h
    have e0 := hy1.2 _ rfl
    subst e0
    have h := h9
    exact tj_L_notes_332 hC hr hlocks hE ⟨by omega, by omega⟩ h hM hS (lv_sub hl [4] rfl)
  · have h := ifn c1 h
    refine lv_aload_n hx hb dL_notes_47 rfl (lv_at hl 3 rfl) ?_
    obtain ⟨v19, M20, h1, h⟩ := ob2 h
    refine kS1 (As := [.ref x3]) (rest := []) hC hE hS hM (mt_L_next _ E x3 _ _ _ h1) (gwS qw_547 qw_548 qw_38 qw_549) ⟨rfl, rfl, (Nat.le_of_ble_eq_true rfl), (Nat.le_of_ble_eq_true rfl)⟩ dd_L_next rfl rfl hl.1 (Nat.le_of_ble_eq_true rfl) dL_notes_48 ⟨(Nat.le_trans (m := 142) (by omega) (Nat.le_refl _)), (Nat.le_trans (m := 59496) (by omega) (Nat.le_refl _))⟩ (fun H locs hM hS => ?_)
    refine lv_iload_n hx hb dL_notes_51 rfl (lv_at hl 0 rfl) ?_
    obtain ⟨_, h1, h⟩ := ob h
    have hne := (ifs h1).1
    refine lv_irem hx hb dL_notes_52 hne ?_
    refine lv_istore (lv' := [(6, .int (v19 - v19 / x0 * x0)), (0, .int x0), (1, .int x1), (2, .int x2), (3, .ref x3), (4, .ref x4), (5, .int x5)]) hx hb dL_notes_53 hl (by decide) rfl (fun ls hl => ?_)
    refine lv_aload_n hx hb dL_notes_55 rfl (lv_at hl 4 rfl) ?_
    obtain ⟨v21, M22, h1, h⟩ := ob2 h
    refine kS1 (As := [.ref x3]) (rest := []) hC hE hS hM (mt_L_next _ E x3 _ _ _ h1) (gwS qw_547 qw_548 qw_38 qw_549) ⟨rfl, rfl, (Nat.le_of_ble_eq_true rfl), (Nat.le_of_ble_eq_true rfl)⟩ dd_L_next rfl rfl hl.1 (Nat.le_of_ble_eq_true rfl) dL_notes_56 ⟨(Nat.le_trans (m := 142) (by omega) (Nat.le_refl _)), (Nat.le_trans (m := 59496) (by omega) (Nat.le_refl _))⟩ (fun H locs hM hS => ?_)
    refine lv_iconst (v := 4) hx hb dL_notes_59 (by decide) ?_
    refine lv_irem hx hb dL_notes_60 (by decide) ?_
    by_cases c0 : (v21 - v21 / 4 * 4) = 0
    · have h := ifp c0 h
      refine lv_tableIn (off := 27) (tgt := 88) hx hb dL_notes_61 (by rw [c0]; decide) (by rw [c0]; decide) (by rw [c0]; rfl) (by decide) ?_
      refine lv_aload hx hb dL_notes_88 (lv_at hl 5 rfl) ?_
      refine lv_iload_n hx hb dL_notes_90 rfl (lv_at hl 2 rfl) ?_
      refine lv_if_ne (tgt := 122) hx hb dL_notes_91 (by decide) (fun c1 => ?_) (fun c1 => ?_)
      · have h := ifn c1 h
        obtain ⟨v23, M24, eq, eM, h⟩ := obnew h
        refine rn_6 hx hb hts hown hE hM hS qw_742 qw_743 qw_51 eq eM (Nat.le_trans (m := 142) (by omega) (Nat.le_refl _)) (Nat.le_trans (m := 59496) (by omega) (Nat.le_refl _)) dL_notes_122 (fun H hM hS => ?_)
        refine lv_dup hx hb dL_notes_125 rfl ?_
        obtain ⟨M26, h1, h⟩ := ob h
        refine kI (As := []) (rest := [.ref v23, .ref x4]) hC hE hS hM (mt_J4_init_da8c8 _ E v23 _ _ h1) qw_905 qw_903 qw_904 qw_51 ⟨rfl, rfl, (Nat.le_of_ble_eq_true rfl), (Nat.le_of_ble_eq_true rfl)⟩ dd_J4_init_da8c8.2 rfl rfl rfl hl.1 (Nat.le_of_ble_eq_true rfl) dL_notes_126 ⟨(Nat.le_trans (m := 142) (by omega) (Nat.le_refl _)), (Nat.le_trans (m := 59496) (by omega) (Nat.le_refl _))⟩ (fun H locs hM hS => ?_)
        refine va_ldcS hx hb hown (sr_13 hE) dL_notes_129 ?_
        obtain ⟨v27, M28, h1, h⟩ := ob2 h
        obtain ⟨hk1, h1⟩ := ifg h1
        refine kV1 (ci := 6) (As := [.ref (eS E 13)]) (rest := [.ref x4]) hC hE hS hM (mt_J4_append_15ec4_c _ E v23 13 _ _ _ h1) (gwV qw_910 qw_770 qw_771 qw_51 qw_772) ⟨rfl, rfl, (Nat.le_of_ble_eq_true rfl), (Nat.le_of_ble_eq_true rfl)⟩ dd_J4_append_15ec4_c rfl hk1 rfl rfl hl.1 (Nat.le_of_ble_eq_true rfl) dL_notes_131 ⟨(Nat.le_trans (m := 142) (by omega) (Nat.le_refl _)), (Nat.le_trans (m := 59496) (by omega) (Nat.le_refl _))⟩ (fun H locs hM hS => ?_)
        refine lv_iload hx hb dL_notes_134 (lv_at hl 0 rfl) ?_
        obtain ⟨v29, M30, h1, h⟩ := ob2 h
        obtain ⟨hk1, h1⟩ := ifg h1
        refine kV1 (ci := 6) (As := [.int (v19 - v19 / x0 * x0)]) (rest := [.ref x4]) hC hE hS hM (mt_J4_append_bf812 _ E v27 (v19 - v19 / x0 * x0) _ _ _ h1) (gwV qw_865 qw_866 qw_867 qw_51 qw_868) ⟨rfl, rfl, (Nat.le_of_ble_eq_true rfl), (Nat.le_of_ble_eq_true rfl)⟩ dd_J4_append_bf812 rfl hk1 rfl rfl hl.1 (Nat.le_of_ble_eq_true rfl) dL_notes_136 ⟨(Nat.le_trans (m := 142) (by omega) (Nat.le_refl _)), (Nat.le_trans (m := 59496) (by omega) (Nat.le_refl _))⟩ (fun H locs hM hS => ?_)
        refine va_ldcS hx hb hown (sr_14 hE) dL_notes_139 ?_
        obtain ⟨v31, M32, h1, h⟩ := ob2 h
        obtain ⟨hk1, h1⟩ := ifg h1
        refine kV1 (ci := 6) (As := [.ref (eS E 14)]) (rest := [.ref x4]) hC hE hS hM (mt_J4_append_15ec4_c _ E v29 14 _ _ _ h1) (gwV qw_910 qw_770 qw_771 qw_51 qw_772) ⟨rfl, rfl, (Nat.le_of_ble_eq_true rfl), (Nat.le_of_ble_eq_true rfl)⟩ dd_J4_append_15ec4_c rfl hk1 rfl rfl hl.1 (Nat.le_of_ble_eq_true rfl) dL_notes_141 ⟨(Nat.le_trans (m := 142) (by omega) (Nat.le_refl _)), (Nat.le_trans (m := 59496) (by omega) (Nat.le_refl _))⟩ (fun H locs hM hS => ?_)
        refine lv_aload_n hx hb dL_notes_144 rfl (lv_at hl 4 rfl) ?_
        obtain ⟨v33, M34, h1, h⟩ := ob2 h
        refine kS1 (As := [.ref x3]) (rest := [.ref v31, .ref x4]) hC hE hS hM (mt_L_next _ E x3 _ _ _ h1) (gwS qw_547 qw_548 qw_38 qw_549) ⟨rfl, rfl, (Nat.le_of_ble_eq_true rfl), (Nat.le_of_ble_eq_true rfl)⟩ dd_L_next rfl rfl hl.1 (Nat.le_of_ble_eq_true rfl) dL_notes_145 ⟨(Nat.le_trans (m := 142) (by omega) (Nat.le_refl _)), (Nat.le_trans (m := 59496) (by omega) (Nat.le_refl _))⟩ (fun H locs hM hS => ?_)
        refine lv_iload_n hx hb dL_notes_148 rfl (lv_at hl 2 rfl) ?_
        obtain ⟨_, h1, h⟩ := ob h
        have hne := (ifs h1).1
        refine lv_irem hx hb dL_notes_149 hne ?_
        obtain ⟨v35, M36, h1, h⟩ := ob2 h
        obtain ⟨hk1, h1⟩ := ifg h1
        refine kV1 (ci := 6) (As := [.int (v33 - v33 / x1 * x1)]) (rest := [.ref x4]) hC hE hS hM (mt_J4_append_bf812 _ E v31 (v33 - v33 / x1 * x1) _ _ _ h1) (gwV qw_865 qw_866 qw_867 qw_51 qw_868) ⟨rfl, rfl, (Nat.le_of_ble_eq_true rfl), (Nat.le_of_ble_eq_true rfl)⟩ dd_J4_append_bf812 rfl hk1 rfl rfl hl.1 (Nat.le_of_ble_eq_true rfl) dL_notes_150 ⟨(Nat.le_trans (m := 142) (by omega) (Nat.le_refl _)), (Nat.le_trans (m := 59496) (by omega) (Nat.le_refl _))⟩ (fun H locs hM hS => ?_)
        refine va_ldcS hx hb hown (sr_14 hE) dL_notes_153 ?_
        obtain ⟨v37, M38, h1, h⟩ := ob2 h
        obtain ⟨hk1, h1⟩ := ifg h1
        refine kV1 (ci := 6) (As := [.ref (eS E 14)]) (rest := [.ref x4]) hC hE hS hM (mt_J4_append_15ec4_c _ E v35 14 _ _ _ h1) (gwV qw_910 qw_770 qw_771 qw_51 qw_772) ⟨rfl, rfl, (Nat.le_of_ble_eq_true rfl), (Nat.le_of_ble_eq_true rfl)⟩ dd_J4_append_15ec4_c rfl hk1 rfl rfl hl.1 (Nat.le_of_ble_eq_true rfl) dL_notes_155 ⟨(Nat.le_trans (m := 142) (by omega) (Nat.le_refl _)), (Nat.le_trans (m := 59496) (by omega) (Nat.le_refl _))⟩ (fun H locs hM hS => ?_)
        refine lv_iconst (v := 1) hx hb dL_notes_158 (by decide) ?_
        refine lv_aload_n hx hb dL_notes_159 rfl (lv_at hl 4 rfl) ?_
        obtain ⟨v39, M40, h1, h⟩ := ob2 h
        refine kS1 (As := [.ref x3]) (rest := [.int 1, .ref v37, .ref x4]) hC hE hS hM (mt_L_next _ E x3 _ _ _ h1) (gwS qw_547 qw_548 qw_38 qw_549) ⟨rfl, rfl, (Nat.le_of_ble_eq_true rfl), (Nat.le_of_ble_eq_true rfl)⟩ dd_L_next rfl rfl hl.1 (Nat.le_of_ble_eq_true rfl) dL_notes_160 ⟨(Nat.le_trans (m := 142) (by omega) (Nat.le_refl _)), (Nat.le_trans (m := 59496) (by omega) (Nat.le_refl _))⟩ (fun H locs hM hS => ?_)
        refine lv_bipush (v := 9) hx hb dL_notes_163 (by decide) ?_
        refine lv_irem hx hb dL_notes_165 (by decide) ?_
        refine lv_iadd hx hb dL_notes_166 ?_
        obtain ⟨v41, M42, h1, h⟩ := ob2 h
        obtain ⟨hk1, h1⟩ := ifg h1
        refine kV1 (ci := 6) (As := [.int (1 + (v39 - v39 / 9 * 9))]) (rest := [.ref x4]) hC hE hS hM (mt_J4_append_bf812 _ E v37 (1 + (v39 - v39 / 9 * 9)) _ _ _ h1) (gwV qw_865 qw_866 qw_867 qw_51 qw_868) ⟨rfl, rfl, (Nat.le_of_ble_eq_true rfl), (Nat.le_of_ble_eq_true rfl)⟩ dd_J4_append_bf812 rfl hk1 rfl rfl hl.1 (Nat.le_of_ble_eq_true rfl) dL_notes_167 ⟨(Nat.le_trans (m := 142) (by omega) (Nat.le_refl _)), (Nat.le_trans (m := 59496) (by omega) (Nat.le_refl _))⟩ (fun H locs hM hS => ?_)
        obtain ⟨v43, M44, h1, h⟩ := ob2 h
        obtain ⟨hk1, h1⟩ := ifg h1
        refine kV1 (ci := 6) (As := []) (rest := [.ref x4]) hC hE hS hM (mt_J4_toString_0e30d _ E v41 _ _ _ h1) (gwV qw_912 qw_913 qw_914 qw_51 qw_915) ⟨rfl, rfl, (Nat.le_of_ble_eq_true rfl), (Nat.le_of_ble_eq_true rfl)⟩ dd_J4_toString_0e30d rfl hk1 rfl rfl hl.1 (Nat.le_of_ble_eq_true rfl) dL_notes_170 ⟨(Nat.le_trans (m := 142) (by omega) (Nat.le_refl _)), (Nat.le_trans (m := 59496) (by omega) (Nat.le_refl _))⟩ (fun H locs hM hS => ?_)
        exact tj_L_notes_173 hC hr hlocks hE hy1 ⟨by omega, by omega⟩ h hM hS (lv_sub hl [1, 2, 3, 4, 5, 6] rfl)
      · have h := ifp c1 h
        obtain ⟨v47, M48, eq, eM, h⟩ := obnew h
        refine rn_6 hx hb hts hown hE hM hS qw_742 qw_743 qw_51 eq eM (Nat.le_trans (m := 142) (by omega) (Nat.le_refl _)) (Nat.le_trans (m := 59496) (by omega) (Nat.le_refl _)) dL_notes_94 (fun H hM hS => ?_)
        refine lv_dup hx hb dL_notes_97 rfl ?_
        obtain ⟨M50, h1, h⟩ := ob h
        refine kI (As := []) (rest := [.ref v47, .ref x4]) hC hE hS hM (mt_J4_init_da8c8 _ E v47 _ _ h1) qw_905 qw_903 qw_904 qw_51 ⟨rfl, rfl, (Nat.le_of_ble_eq_true rfl), (Nat.le_of_ble_eq_true rfl)⟩ dd_J4_init_da8c8.2 rfl rfl rfl hl.1 (Nat.le_of_ble_eq_true rfl) dL_notes_98 ⟨(Nat.le_trans (m := 142) (by omega) (Nat.le_refl _)), (Nat.le_trans (m := 59496) (by omega) (Nat.le_refl _))⟩ (fun H locs hM hS => ?_)
        refine va_ldcS hx hb hown (sr_11 hE) dL_notes_101 ?_
        obtain ⟨v51, M52, h1, h⟩ := ob2 h
        obtain ⟨hk1, h1⟩ := ifg h1
        refine kV1 (ci := 6) (As := [.ref (eS E 11)]) (rest := [.ref x4]) hC hE hS hM (mt_J4_append_15ec4_c _ E v47 11 _ _ _ h1) (gwV qw_910 qw_770 qw_771 qw_51 qw_772) ⟨rfl, rfl, (Nat.le_of_ble_eq_true rfl), (Nat.le_of_ble_eq_true rfl)⟩ dd_J4_append_15ec4_c rfl hk1 rfl rfl hl.1 (Nat.le_of_ble_eq_true rfl) dL_notes_103 ⟨(Nat.le_trans (m := 142) (by omega) (Nat.le_refl _)), (Nat.le_trans (m := 59496) (by omega) (Nat.le_refl _))⟩ (fun H locs hM hS => ?_)
        refine lv_iload hx hb dL_notes_106 (lv_at hl 0 rfl) ?_
        obtain ⟨v53, M54, h1, h⟩ := ob2 h
        obtain ⟨hk1, h1⟩ := ifg h1
        refine kV1 (ci := 6) (As := [.int (v19 - v19 / x0 * x0)]) (rest := [.ref x4]) hC hE hS hM (mt_J4_append_bf812 _ E v51 (v19 - v19 / x0 * x0) _ _ _ h1) (gwV qw_865 qw_866 qw_867 qw_51 qw_868) ⟨rfl, rfl, (Nat.le_of_ble_eq_true rfl), (Nat.le_of_ble_eq_true rfl)⟩ dd_J4_append_bf812 rfl hk1 rfl rfl hl.1 (Nat.le_of_ble_eq_true rfl) dL_notes_108 ⟨(Nat.le_trans (m := 142) (by omega) (Nat.le_refl _)), (Nat.le_trans (m := 59496) (by omega) (Nat.le_refl _))⟩ (fun H locs hM hS => ?_)
        refine va_ldcS hx hb hown (sr_12 hE) dL_notes_111 ?_
        obtain ⟨v55, M56, h1, h⟩ := ob2 h
        obtain ⟨hk1, h1⟩ := ifg h1
        refine kV1 (ci := 6) (As := [.ref (eS E 12)]) (rest := [.ref x4]) hC hE hS hM (mt_J4_append_15ec4_c _ E v53 12 _ _ _ h1) (gwV qw_910 qw_770 qw_771 qw_51 qw_772) ⟨rfl, rfl, (Nat.le_of_ble_eq_true rfl), (Nat.le_of_ble_eq_true rfl)⟩ dd_J4_append_15ec4_c rfl hk1 rfl rfl hl.1 (Nat.le_of_ble_eq_true rfl) dL_notes_113 ⟨(Nat.le_trans (m := 142) (by omega) (Nat.le_refl _)), (Nat.le_trans (m := 59496) (by omega) (Nat.le_refl _))⟩ (fun H locs hM hS => ?_)
        obtain ⟨v57, M58, h1, h⟩ := ob2 h
        obtain ⟨hk1, h1⟩ := ifg h1
        refine kV1 (ci := 6) (As := []) (rest := [.ref x4]) hC hE hS hM (mt_J4_toString_0e30d _ E v55 _ _ _ h1) (gwV qw_912 qw_913 qw_914 qw_51 qw_915) ⟨rfl, rfl, (Nat.le_of_ble_eq_true rfl), (Nat.le_of_ble_eq_true rfl)⟩ dd_J4_toString_0e30d rfl hk1 rfl rfl hl.1 (Nat.le_of_ble_eq_true rfl) dL_notes_116 ⟨(Nat.le_trans (m := 142) (by omega) (Nat.le_refl _)), (Nat.le_trans (m := 59496) (by omega) (Nat.le_refl _))⟩ (fun H locs hM hS => ?_)
        refine lv_goto (tgt := 173) hx hb dL_notes_119 (by decide) ?_
        exact tj_L_notes_173 hC hr hlocks hE hy1 ⟨by omega, by omega⟩ h hM hS (lv_sub hl [1, 2, 3, 4, 5, 6] rfl)
    · have h := ifn c0 h
      by_cases c1 : (v21 - v21 / 4 * 4) = 1
      · have h := ifp c1 h
        refine lv_tableIn (off := 119) (tgt := 180) hx hb dL_notes_61 (by rw [c1]; decide) (by rw [c1]; decide) (by rw [c1]; rfl) (by decide) ?_
        refine lv_aload hx hb dL_notes_180 (lv_at hl 5 rfl) ?_
        refine lv_iload_n hx hb dL_notes_182 rfl (lv_at hl 3 rfl) ?_
        refine lv_if_ne (tgt := 209) hx hb dL_notes_183 (by decide) (fun c1 => ?_) (fun c1 => ?_)
        · have h := ifn c1 h
          obtain ⟨v59, M60, eq, eM, h⟩ := obnew h
          refine rn_6 hx hb hts hown hE hM hS qw_742 qw_743 qw_51 eq eM (Nat.le_trans (m := 142) (by omega) (Nat.le_refl _)) (Nat.le_trans (m := 59496) (by omega) (Nat.le_refl _)) dL_notes_209 (fun H hM hS => ?_)
          refine lv_dup hx hb dL_notes_212 rfl ?_
          obtain ⟨M62, h1, h⟩ := ob h
          refine kI (As := []) (rest := [.ref v59, .ref x4]) hC hE hS hM (mt_J4_init_da8c8 _ E v59 _ _ h1) qw_905 qw_903 qw_904 qw_51 ⟨rfl, rfl, (Nat.le_of_ble_eq_true rfl), (Nat.le_of_ble_eq_true rfl)⟩ dd_J4_init_da8c8.2 rfl rfl rfl hl.1 (Nat.le_of_ble_eq_true rfl) dL_notes_213 ⟨(Nat.le_trans (m := 142) (by omega) (Nat.le_refl _)), (Nat.le_trans (m := 59496) (by omega) (Nat.le_refl _))⟩ (fun H locs hM hS => ?_)
          refine va_ldcS hx hb hown (sr_16 hE) dL_notes_216 ?_
          obtain ⟨v63, M64, h1, h⟩ := ob2 h
          obtain ⟨hk1, h1⟩ := ifg h1
          refine kV1 (ci := 6) (As := [.ref (eS E 16)]) (rest := [.ref x4]) hC hE hS hM (mt_J4_append_15ec4_c _ E v59 16 _ _ _ h1) (gwV qw_910 qw_770 qw_771 qw_51 qw_772) ⟨rfl, rfl, (Nat.le_of_ble_eq_true rfl), (Nat.le_of_ble_eq_true rfl)⟩ dd_J4_append_15ec4_c rfl hk1 rfl rfl hl.1 (Nat.le_of_ble_eq_true rfl) dL_notes_218 ⟨(Nat.le_trans (m := 142) (by omega) (Nat.le_refl _)), (Nat.le_trans (m := 59496) (by omega) (Nat.le_refl _))⟩ (fun H locs hM hS => ?_)
          refine lv_iload hx hb dL_notes_221 (lv_at hl 0 rfl) ?_
          obtain ⟨v65, M66, h1, h⟩ := ob2 h
          obtain ⟨hk1, h1⟩ := ifg h1
          refine kV1 (ci := 6) (As := [.int (v19 - v19 / x0 * x0)]) (rest := [.ref x4]) hC hE hS hM (mt_J4_append_bf812 _ E v63 (v19 - v19 / x0 * x0) _ _ _ h1) (gwV qw_865 qw_866 qw_867 qw_51 qw_868) ⟨rfl, rfl, (Nat.le_of_ble_eq_true rfl), (Nat.le_of_ble_eq_true rfl)⟩ dd_J4_append_bf812 rfl hk1 rfl rfl hl.1 (Nat.le_of_ble_eq_true rfl) dL_notes_223 ⟨(Nat.le_trans (m := 142) (by omega) (Nat.le_refl _)), (Nat.le_trans (m := 59496) (by omega) (Nat.le_refl _))⟩ (fun H locs hM hS => ?_)
          refine va_ldcS hx hb hown (sr_14 hE) dL_notes_226 ?_
          obtain ⟨v67, M68, h1, h⟩ := ob2 h
          obtain ⟨hk1, h1⟩ := ifg h1
          refine kV1 (ci := 6) (As := [.ref (eS E 14)]) (rest := [.ref x4]) hC hE hS hM (mt_J4_append_15ec4_c _ E v65 14 _ _ _ h1) (gwV qw_910 qw_770 qw_771 qw_51 qw_772) ⟨rfl, rfl, (Nat.le_of_ble_eq_true rfl), (Nat.le_of_ble_eq_true rfl)⟩ dd_J4_append_15ec4_c rfl hk1 rfl rfl hl.1 (Nat.le_of_ble_eq_true rfl) dL_notes_228 ⟨(Nat.le_trans (m := 142) (by omega) (Nat.le_refl _)), (Nat.le_trans (m := 59496) (by omega) (Nat.le_refl _))⟩ (fun H locs hM hS => ?_)
          refine lv_aload_n hx hb dL_notes_231 rfl (lv_at hl 4 rfl) ?_
          obtain ⟨v69, M70, h1, h⟩ := ob2 h
          refine kS1 (As := [.ref x3]) (rest := [.ref v67, .ref x4]) hC hE hS hM (mt_L_next _ E x3 _ _ _ h1) (gwS qw_547 qw_548 qw_38 qw_549) ⟨rfl, rfl, (Nat.le_of_ble_eq_true rfl), (Nat.le_of_ble_eq_true rfl)⟩ dd_L_next rfl rfl hl.1 (Nat.le_of_ble_eq_true rfl) dL_notes_232 ⟨(Nat.le_trans (m := 142) (by omega) (Nat.le_refl _)), (Nat.le_trans (m := 59496) (by omega) (Nat.le_refl _))⟩ (fun H locs hM hS => ?_)
          refine lv_iload_n hx hb dL_notes_235 rfl (lv_at hl 3 rfl) ?_
          obtain ⟨_, h1, h⟩ := ob h
          have hne := (ifs h1).1
          refine lv_irem hx hb dL_notes_236 hne ?_
          obtain ⟨v71, M72, h1, h⟩ := ob2 h
          obtain ⟨hk1, h1⟩ := ifg h1
          refine kV1 (ci := 6) (As := [.int (v69 - v69 / x2 * x2)]) (rest := [.ref x4]) hC hE hS hM (mt_J4_append_bf812 _ E v67 (v69 - v69 / x2 * x2) _ _ _ h1) (gwV qw_865 qw_866 qw_867 qw_51 qw_868) ⟨rfl, rfl, (Nat.le_of_ble_eq_true rfl), (Nat.le_of_ble_eq_true rfl)⟩ dd_J4_append_bf812 rfl hk1 rfl rfl hl.1 (Nat.le_of_ble_eq_true rfl) dL_notes_237 ⟨(Nat.le_trans (m := 142) (by omega) (Nat.le_refl _)), (Nat.le_trans (m := 59496) (by omega) (Nat.le_refl _))⟩ (fun H locs hM hS => ?_)
          refine va_ldcS hx hb hown (sr_14 hE) dL_notes_240 ?_
          obtain ⟨v73, M74, h1, h⟩ := ob2 h
          obtain ⟨hk1, h1⟩ := ifg h1
          refine kV1 (ci := 6) (As := [.ref (eS E 14)]) (rest := [.ref x4]) hC hE hS hM (mt_J4_append_15ec4_c _ E v71 14 _ _ _ h1) (gwV qw_910 qw_770 qw_771 qw_51 qw_772) ⟨rfl, rfl, (Nat.le_of_ble_eq_true rfl), (Nat.le_of_ble_eq_true rfl)⟩ dd_J4_append_15ec4_c rfl hk1 rfl rfl hl.1 (Nat.le_of_ble_eq_true rfl) dL_notes_242 ⟨(Nat.le_trans (m := 142) (by omega) (Nat.le_refl _)), (Nat.le_trans (m := 59496) (by omega) (Nat.le_refl _))⟩ (fun H locs hM hS => ?_)
          refine lv_aload_n hx hb dL_notes_245 rfl (lv_at hl 4 rfl) ?_
          obtain ⟨v75, M76, h1, h⟩ := ob2 h
          refine kS1 (As := [.ref x3]) (rest := [.ref v73, .ref x4]) hC hE hS hM (mt_L_next _ E x3 _ _ _ h1) (gwS qw_547 qw_548 qw_38 qw_549) ⟨rfl, rfl, (Nat.le_of_ble_eq_true rfl), (Nat.le_of_ble_eq_true rfl)⟩ dd_L_next rfl rfl hl.1 (Nat.le_of_ble_eq_true rfl) dL_notes_246 ⟨(Nat.le_trans (m := 142) (by omega) (Nat.le_refl _)), (Nat.le_trans (m := 59496) (by omega) (Nat.le_refl _))⟩ (fun H locs hM hS => ?_)
          refine lv_bipush (v := 100) hx hb dL_notes_249 (by decide) ?_
          refine lv_irem hx hb dL_notes_251 (by decide) ?_
          obtain ⟨v77, M78, h1, h⟩ := ob2 h
          obtain ⟨hk1, h1⟩ := ifg h1
          refine kV1 (ci := 6) (As := [.int (v75 - v75 / 100 * 100)]) (rest := [.ref x4]) hC hE hS hM (mt_J4_append_bf812 _ E v73 (v75 - v75 / 100 * 100) _ _ _ h1) (gwV qw_865 qw_866 qw_867 qw_51 qw_868) ⟨rfl, rfl, (Nat.le_of_ble_eq_true rfl), (Nat.le_of_ble_eq_true rfl)⟩ dd_J4_append_bf812 rfl hk1 rfl rfl hl.1 (Nat.le_of_ble_eq_true rfl) dL_notes_252 ⟨(Nat.le_trans (m := 142) (by omega) (Nat.le_refl _)), (Nat.le_trans (m := 59496) (by omega) (Nat.le_refl _))⟩ (fun H locs hM hS => ?_)
          obtain ⟨v79, M80, h1, h⟩ := ob2 h
          obtain ⟨hk1, h1⟩ := ifg h1
          refine kV1 (ci := 6) (As := []) (rest := [.ref x4]) hC hE hS hM (mt_J4_toString_0e30d _ E v77 _ _ _ h1) (gwV qw_912 qw_913 qw_914 qw_51 qw_915) ⟨rfl, rfl, (Nat.le_of_ble_eq_true rfl), (Nat.le_of_ble_eq_true rfl)⟩ dd_J4_toString_0e30d rfl hk1 rfl rfl hl.1 (Nat.le_of_ble_eq_true rfl) dL_notes_255 ⟨(Nat.le_trans (m := 142) (by omega) (Nat.le_refl _)), (Nat.le_trans (m := 59496) (by omega) (Nat.le_refl _))⟩ (fun H locs hM hS => ?_)
          exact tj_L_notes_258 hC hr hlocks hE hy1 ⟨by omega, by omega⟩ h hM hS (lv_sub hl [1, 2, 3, 4, 5, 6] rfl)
        · have h := ifp c1 h
          obtain ⟨v83, M84, eq, eM, h⟩ := obnew h
          refine rn_6 hx hb hts hown hE hM hS qw_742 qw_743 qw_51 eq eM (Nat.le_trans (m := 142) (by omega) (Nat.le_refl _)) (Nat.le_trans (m := 59496) (by omega) (Nat.le_refl _)) dL_notes_186 (fun H hM hS => ?_)
          refine lv_dup hx hb dL_notes_189 rfl ?_
          obtain ⟨M86, h1, h⟩ := ob h
          refine kI (As := []) (rest := [.ref v83, .ref x4]) hC hE hS hM (mt_J4_init_da8c8 _ E v83 _ _ h1) qw_905 qw_903 qw_904 qw_51 ⟨rfl, rfl, (Nat.le_of_ble_eq_true rfl), (Nat.le_of_ble_eq_true rfl)⟩ dd_J4_init_da8c8.2 rfl rfl rfl hl.1 (Nat.le_of_ble_eq_true rfl) dL_notes_190 ⟨(Nat.le_trans (m := 142) (by omega) (Nat.le_refl _)), (Nat.le_trans (m := 59496) (by omega) (Nat.le_refl _))⟩ (fun H locs hM hS => ?_)
          refine va_ldcS hx hb hown (sr_15 hE) dL_notes_193 ?_
          obtain ⟨v87, M88, h1, h⟩ := ob2 h
          obtain ⟨hk1, h1⟩ := ifg h1
          refine kV1 (ci := 6) (As := [.ref (eS E 15)]) (rest := [.ref x4]) hC hE hS hM (mt_J4_append_15ec4_c _ E v83 15 _ _ _ h1) (gwV qw_910 qw_770 qw_771 qw_51 qw_772) ⟨rfl, rfl, (Nat.le_of_ble_eq_true rfl), (Nat.le_of_ble_eq_true rfl)⟩ dd_J4_append_15ec4_c rfl hk1 rfl rfl hl.1 (Nat.le_of_ble_eq_true rfl) dL_notes_195 ⟨(Nat.le_trans (m := 142) (by omega) (Nat.le_refl _)), (Nat.le_trans (m := 59496) (by omega) (Nat.le_refl _))⟩ (fun H locs hM hS => ?_)
          refine lv_iload hx hb dL_notes_198 (lv_at hl 0 rfl) ?_
          obtain ⟨v89, M90, h1, h⟩ := ob2 h
          obtain ⟨hk1, h1⟩ := ifg h1
          refine kV1 (ci := 6) (As := [.int (v19 - v19 / x0 * x0)]) (rest := [.ref x4]) hC hE hS hM (mt_J4_append_bf812 _ E v87 (v19 - v19 / x0 * x0) _ _ _ h1) (gwV qw_865 qw_866 qw_867 qw_51 qw_868) ⟨rfl, rfl, (Nat.le_of_ble_eq_true rfl), (Nat.le_of_ble_eq_true rfl)⟩ dd_J4_append_bf812 rfl hk1 rfl rfl hl.1 (Nat.le_of_ble_eq_true rfl) dL_notes_200 ⟨(Nat.le_trans (m := 142) (by omega) (Nat.le_refl _)), (Nat.le_trans (m := 59496) (by omega) (Nat.le_refl _))⟩ (fun H locs hM hS => ?_)
          obtain ⟨v91, M92, h1, h⟩ := ob2 h
          obtain ⟨hk1, h1⟩ := ifg h1
          refine kV1 (ci := 6) (As := []) (rest := [.ref x4]) hC hE hS hM (mt_J4_toString_0e30d _ E v89 _ _ _ h1) (gwV qw_912 qw_913 qw_914 qw_51 qw_915) ⟨rfl, rfl, (Nat.le_of_ble_eq_true rfl), (Nat.le_of_ble_eq_true rfl)⟩ dd_J4_toString_0e30d rfl hk1 rfl rfl hl.1 (Nat.le_of_ble_eq_true rfl) dL_notes_203 ⟨(Nat.le_trans (m := 142) (by omega) (Nat.le_refl _)), (Nat.le_trans (m := 59496) (by omega) (Nat.le_refl _))⟩ (fun H locs hM hS => ?_)
          refine lv_goto (tgt := 258) hx hb dL_notes_206 (by decide) ?_
          exact tj_L_notes_258 hC hr hlocks hE hy1 ⟨by omega, by omega⟩ h hM hS (lv_sub hl [1, 2, 3, 4, 5, 6] rfl)
      · have h := ifn c1 h
        by_cases c2 : (v21 - v21 / 4 * 4) = 2
        · have h := ifp c2 h
          refine lv_tableIn (off := 204) (tgt := 265) hx hb dL_notes_61 (by rw [c2]; decide) (by rw [c2]; decide) (by rw [c2]; rfl) (by decide) ?_
          refine lv_aload hx hb dL_notes_265 (lv_at hl 5 rfl) ?_
          refine va_ldcS hx hb hown (sr_11 hE) dL_notes_267 ?_
          obtain ⟨v93, M94, h1, h⟩ := ob2 h
          obtain ⟨hk1, h1⟩ := ifg h1
          refine kV1 (ci := 6) (As := [.ref (eS E 11)]) (rest := []) hC hE hS hM (mt_J4_append_15ec4_c _ E x4 11 _ _ _ h1) (gwV qw_910 qw_770 qw_771 qw_51 qw_772) ⟨rfl, rfl, (Nat.le_of_ble_eq_true rfl), (Nat.le_of_ble_eq_true rfl)⟩ dd_J4_append_15ec4_c rfl hk1 rfl rfl hl.1 (Nat.le_of_ble_eq_true rfl) dL_notes_269 ⟨(Nat.le_trans (m := 142) (by omega) (Nat.le_refl _)), (Nat.le_trans (m := 59496) (by omega) (Nat.le_refl _))⟩ (fun H locs hM hS => ?_)
          refine lv_iload hx hb dL_notes_272 (lv_at hl 0 rfl) ?_
          obtain ⟨v95, M96, h1, h⟩ := ob2 h
          obtain ⟨hk1, h1⟩ := ifg h1
          refine kV1 (ci := 6) (As := [.int (v19 - v19 / x0 * x0)]) (rest := []) hC hE hS hM (mt_J4_append_bf812 _ E v93 (v19 - v19 / x0 * x0) _ _ _ h1) (gwV qw_865 qw_866 qw_867 qw_51 qw_868) ⟨rfl, rfl, (Nat.le_of_ble_eq_true rfl), (Nat.le_of_ble_eq_true rfl)⟩ dd_J4_append_bf812 rfl hk1 rfl rfl hl.1 (Nat.le_of_ble_eq_true rfl) dL_notes_274 ⟨(Nat.le_trans (m := 142) (by omega) (Nat.le_refl _)), (Nat.le_trans (m := 59496) (by omega) (Nat.le_refl _))⟩ (fun H locs hM hS => ?_)
          refine lv_bipush (v := 32) hx hb dL_notes_277 (by decide) ?_
          obtain ⟨v97, M98, h1, h⟩ := ob2 h
          obtain ⟨hk1, h1⟩ := ifg h1
          refine kV1 (ci := 6) (As := [.int 32]) (rest := []) hC hE hS hM (mt_J4_append_cf468 _ E v95 32 _ _ _ h1) (gwV qw_890 qw_891 qw_892 qw_51 qw_893) ⟨rfl, rfl, (Nat.le_of_ble_eq_true rfl), (Nat.le_of_ble_eq_true rfl)⟩ dd_J4_append_cf468 rfl hk1 rfl rfl hl.1 (Nat.le_of_ble_eq_true rfl) dL_notes_279 ⟨(Nat.le_trans (m := 142) (by omega) (Nat.le_refl _)), (Nat.le_trans (m := 59496) (by omega) (Nat.le_refl _))⟩ (fun H locs hM hS => ?_)
          refine lv_aload_n hx hb dL_notes_282 rfl (lv_at hl 4 rfl) ?_
          obtain ⟨v99, M100, h1, h⟩ := ob2 h
          refine kS1 (As := [.ref x3]) (rest := [.ref v97]) hC hE hS hM (mt_L_next _ E x3 _ _ _ h1) (gwS qw_547 qw_548 qw_38 qw_549) ⟨rfl, rfl, (Nat.le_of_ble_eq_true rfl), (Nat.le_of_ble_eq_true rfl)⟩ dd_L_next rfl rfl hl.1 (Nat.le_of_ble_eq_true rfl) dL_notes_283 ⟨(Nat.le_trans (m := 142) (by omega) (Nat.le_refl _)), (Nat.le_trans (m := 59496) (by omega) (Nat.le_refl _))⟩ (fun H locs hM hS => ?_)
          refine lv_iload_n hx hb dL_notes_286 rfl (lv_at hl 1 rfl) ?_
          obtain ⟨_, h1, h⟩ := ob h
          have hne := (ifs h1).1
          refine lv_irem hx hb dL_notes_287 hne ?_
          obtain ⟨v101, M102, h1, h⟩ := ob2 h
          obtain ⟨hk1, h1⟩ := ifg h1
          refine kV1 (ci := 6) (As := [.int (v99 - v99 / x0 * x0)]) (rest := []) hC hE hS hM (mt_J4_append_bf812 _ E v97 (v99 - v99 / x0 * x0) _ _ _ h1) (gwV qw_865 qw_866 qw_867 qw_51 qw_868) ⟨rfl, rfl, (Nat.le_of_ble_eq_true rfl), (Nat.le_of_ble_eq_true rfl)⟩ dd_J4_append_bf812 rfl hk1 rfl rfl hl.1 (Nat.le_of_ble_eq_true rfl) dL_notes_288 ⟨(Nat.le_trans (m := 142) (by omega) (Nat.le_refl _)), (Nat.le_trans (m := 59496) (by omega) (Nat.le_refl _))⟩ (fun H locs hM hS => ?_)
          refine lv_pop hx hb dL_notes_291 rfl ?_
          refine lv_goto (tgt := 326) hx hb dL_notes_292 (by decide) ?_
          exact tj_L_notes_326 hC hr hlocks hE hy1 ⟨by omega, by omega⟩ h hM hS (lv_sub hl [1, 2, 3, 4, 5, 6] rfl)
        · have h := ifn c2 h
          refine lv_tableOut (tgt := 295) hx hb dL_notes_61 (t_out3 c0 c1 c2) (by decide) ?_
          refine lv_aload hx hb dL_notes_295 (lv_at hl 5 rfl) ?_
          refine va_ldcS hx hb hown (sr_17 hE) dL_notes_297 ?_
          obtain ⟨v103, M104, h1, h⟩ := ob2 h
          obtain ⟨hk1, h1⟩ := ifg h1
          refine kV1 (ci := 6) (As := [.ref (eS E 17)]) (rest := []) hC hE hS hM (mt_J4_append_15ec4_c _ E x4 17 _ _ _ h1) (gwV qw_910 qw_770 qw_771 qw_51 qw_772) ⟨rfl, rfl, (Nat.le_of_ble_eq_true rfl), (Nat.le_of_ble_eq_true rfl)⟩ dd_J4_append_15ec4_c rfl hk1 rfl rfl hl.1 (Nat.le_of_ble_eq_true rfl) dL_notes_299 ⟨(Nat.le_trans (m := 142) (by omega) (Nat.le_refl _)), (Nat.le_trans (m := 59496) (by omega) (Nat.le_refl _))⟩ (fun H locs hM hS => ?_)
          refine lv_iload hx hb dL_notes_302 (lv_at hl 0 rfl) ?_
          obtain ⟨v105, M106, h1, h⟩ := ob2 h
          obtain ⟨hk1, h1⟩ := ifg h1
          refine kV1 (ci := 6) (As := [.int (v19 - v19 / x0 * x0)]) (rest := []) hC hE hS hM (mt_J4_append_bf812 _ E v103 (v19 - v19 / x0 * x0) _ _ _ h1) (gwV qw_865 qw_866 qw_867 qw_51 qw_868) ⟨rfl, rfl, (Nat.le_of_ble_eq_true rfl), (Nat.le_of_ble_eq_true rfl)⟩ dd_J4_append_bf812 rfl hk1 rfl rfl hl.1 (Nat.le_of_ble_eq_true rfl) dL_notes_304 ⟨(Nat.le_trans (m := 142) (by omega) (Nat.le_refl _)), (Nat.le_trans (m := 59496) (by omega) (Nat.le_refl _))⟩ (fun H locs hM hS => ?_)
          refine lv_bipush (v := 32) hx hb dL_notes_307 (by decide) ?_
          obtain ⟨v107, M108, h1, h⟩ := ob2 h
          obtain ⟨hk1, h1⟩ := ifg h1
          refine kV1 (ci := 6) (As := [.int 32]) (rest := []) hC hE hS hM (mt_J4_append_cf468 _ E v105 32 _ _ _ h1) (gwV qw_890 qw_891 qw_892 qw_51 qw_893) ⟨rfl, rfl, (Nat.le_of_ble_eq_true rfl), (Nat.le_of_ble_eq_true rfl)⟩ dd_J4_append_cf468 rfl hk1 rfl rfl hl.1 (Nat.le_of_ble_eq_true rfl) dL_notes_309 ⟨(Nat.le_trans (m := 142) (by omega) (Nat.le_refl _)), (Nat.le_trans (m := 59496) (by omega) (Nat.le_refl _))⟩ (fun H locs hM hS => ?_)
          refine lv_bipush (v := 97) hx hb dL_notes_312 (by decide) ?_
          refine lv_aload_n hx hb dL_notes_314 rfl (lv_at hl 4 rfl) ?_
          obtain ⟨v109, M110, h1, h⟩ := ob2 h
          refine kS1 (As := [.ref x3]) (rest := [.int 97, .ref v107]) hC hE hS hM (mt_L_next _ E x3 _ _ _ h1) (gwS qw_547 qw_548 qw_38 qw_549) ⟨rfl, rfl, (Nat.le_of_ble_eq_true rfl), (Nat.le_of_ble_eq_true rfl)⟩ dd_L_next rfl rfl hl.1 (Nat.le_of_ble_eq_true rfl) dL_notes_315 ⟨(Nat.le_trans (m := 142) (by omega) (Nat.le_refl _)), (Nat.le_trans (m := 59496) (by omega) (Nat.le_refl _))⟩ (fun H locs hM hS => ?_)
          refine lv_iconst (v := 5) hx hb dL_notes_318 (by decide) ?_
          refine lv_irem hx hb dL_notes_319 (by decide) ?_
          refine lv_iadd hx hb dL_notes_320 ?_
          refine lv_i2c (v := ((97 + (v109 - v109 / 5 * 5)).toUInt32 % 65536).toInt32) hx hb dL_notes_321 rfl ?_
          obtain ⟨v111, M112, h1, h⟩ := ob2 h
          obtain ⟨hk1, h1⟩ := ifg h1
          refine kV1 (ci := 6) (As := [.int (((97 + (v109 - v109 / 5 * 5)).toUInt32 % 65536).toInt32)]) (rest := []) hC hE hS hM (mt_J4_append_cf468 _ E v107 (((97 + (v109 - v109 / 5 * 5)).toUInt32 % 65536).toInt32) _ _ _ h1) (gwV qw_890 qw_891 qw_892 qw_51 qw_893) ⟨rfl, rfl, (Nat.le_of_ble_eq_true rfl), (Nat.le_of_ble_eq_true rfl)⟩ dd_J4_append_cf468 rfl hk1 rfl rfl hl.1 (Nat.le_of_ble_eq_true rfl) dL_notes_322 ⟨(Nat.le_trans (m := 142) (by omega) (Nat.le_refl _)), (Nat.le_trans (m := 59496) (by omega) (Nat.le_refl _))⟩ (fun H locs hM hS => ?_)
          refine lv_pop hx hb dL_notes_325 rfl ?_
          exact tj_L_notes_326 hC hr hlocks hE hy1 ⟨by omega, by omega⟩ h hM hS (lv_sub hl [1, 2, 3, 4, 5, 6] rfl)
noncomputable def f_L_notes (a1 : Int32) (a2 : Int32) (a3 : Int32) (a4 : Nat) (M : Mem) : Option (Nat × Mem) :=
  bnew 12 M fun v1 M2 =>
  (f_J4_init_a7421_c v1 10 M2).bind fun M4 =>
  bn (cK 12 v1 M4 (f_J4_append_bf812 v1 a1 M4)) fun v5 M6 =>
  bn (cK 12 v5 M6 (f_J4_append_cf468 v5 32 M6)) fun v7 M8 =>
  bn (cK 12 v7 M8 (f_J4_append_bf812 v7 a2 M8)) fun v9 M10 =>
  bn (cK 12 v9 M10 (f_J4_append_cf468 v9 32 M10)) fun v11 M12 =>
  bn (cK 12 v11 M12 (f_J4_append_bf812 v11 a3 M12)) fun v13 M14 =>
  bn (f_L_next a4 M14) fun v15 M16 =>
  fj_L_notes_42 a1 a2 a3 a4 v13 (v15 - v15 / 12 * 12) M16
set_option maxHeartbeats 4000000 in
set_option maxRecDepth 100000 in
theorem mt_L_notes (l : Launch) (E : KEnv) (a1 : Int32) (a2 : Int32) (a3 : Int32) (a4 : Nat) (M M' : Mem) (v : Nat) (h : f_L_notes a1 a2 a3 a4 M = some (v, M')) : Met l yL_notes (Cond.code yL_notes cL_notes 7 (some (.object "java/lang/String")) :: lw_G) rm_L_notes (cPc E [.int a1, .int a2, .int a3, .ref a4] M) (cQ E (some (.ref v)) M') 142 59496 (eA E) := by
  refine Met.ofW (cc := cL_notes) (maxL := 7) (ret := (some (.object "java/lang/String"))) (by decide) rfl ?_
  intro p e s m args below meth c s₁ B hml hv
  obtain ⟨rfl, hE, hM⟩ := hv
  have hx := B.exec
  have hb := B.bytes
  have hr := B.returns
  have hts0 := atoms_spec (ws := Cond.code yL_notes cL_notes 7 (some (.object "java/lang/String")) :: lw_G) B.pre
  have hts : ∀ w ∈ lw_G, w.before _ s = true := fun w hw => hts0 w (List.mem_cons_of_mem _ hw)
  have hown : s.vm.findClass RL = some m.cls := findClass_of_methodNamed B.named
  have hlocks := B.notSynchronized
  have hC : CallFix p m c cL_notes 7 s _ lw_G RL := ⟨hx, hb, hml, hown, hts⟩
  have hS : va_S (eA E) s.heap s.heap [] := va_S.rf
  have hl := lv_entry ([.int a1, .int a2, .int a3, .ref a4]) (n := 7) (Nat.le_of_ble_eq_true rfl)
  rw [lg_entry_eq]
  generalize (lg_sl ([.int a1, .int a2, .int a3, .ref a4]) ++ List.replicate (7 - (lg_sl ([.int a1, .int a2, .int a3, .ref a4])).length) Slot.unset).toArray = ls at hl ⊢
  have hl : lv_has ls 7 [(0, .int a1), (1, .int a2), (2, .int a3), (3, .ref a4)] := hl
  unfold f_L_notes at h
  show W p l e rm_L_notes s m _ below meth c s.heap [] 0 0 _ _
  obtain ⟨v1, M2, eq, eM, h⟩ := obnew h
  refine rn_6 hx hb hts hown hE hM hS qw_742 qw_743 qw_51 eq eM (Nat.le_trans (m := 142) (by omega) (Nat.le_refl _)) (Nat.le_trans (m := 59496) (by omega) (Nat.le_refl _)) dL_notes_0 (fun H hM hS => ?_)
  refine lv_dup hx hb dL_notes_3 rfl ?_
  refine va_ldcS hx hb hown (sr_10 hE) dL_notes_4 ?_
  obtain ⟨M4, h1, h⟩ := ob h
  refine kI (As := [.ref (eS E 10)]) (rest := [.ref v1]) hC hE hS hM (mt_J4_init_a7421_c _ E v1 10 _ _ h1) qw_747 qw_745 qw_746 qw_51 ⟨rfl, rfl, (Nat.le_of_ble_eq_true rfl), (Nat.le_of_ble_eq_true rfl)⟩ dd_J4_init_a7421_c.2 rfl rfl rfl hl.1 (Nat.le_of_ble_eq_true rfl) dL_notes_6 ⟨(Nat.le_trans (m := 142) (by omega) (Nat.le_refl _)), (Nat.le_trans (m := 59496) (by omega) (Nat.le_refl _))⟩ (fun H locs hM hS => ?_)
  refine lv_iload_n hx hb dL_notes_9 rfl (lv_at hl 0 rfl) ?_
  obtain ⟨v5, M6, h1, h⟩ := ob2 h
  obtain ⟨hk1, h1⟩ := ifg h1
  refine kV1 (ci := 6) (As := [.int a1]) (rest := []) hC hE hS hM (mt_J4_append_bf812 _ E v1 a1 _ _ _ h1) (gwV qw_865 qw_866 qw_867 qw_51 qw_868) ⟨rfl, rfl, (Nat.le_of_ble_eq_true rfl), (Nat.le_of_ble_eq_true rfl)⟩ dd_J4_append_bf812 rfl hk1 rfl rfl hl.1 (Nat.le_of_ble_eq_true rfl) dL_notes_10 ⟨(Nat.le_trans (m := 142) (by omega) (Nat.le_refl _)), (Nat.le_trans (m := 59496) (by omega) (Nat.le_refl _))⟩ (fun H locs hM hS => ?_)
  refine lv_bipush (v := 32) hx hb dL_notes_13 (by decide) ?_
  obtain ⟨v7, M8, h1, h⟩ := ob2 h
  obtain ⟨hk1, h1⟩ := ifg h1
  refine kV1 (ci := 6) (As := [.int 32]) (rest := []) hC hE hS hM (mt_J4_append_cf468 _ E v5 32 _ _ _ h1) (gwV qw_890 qw_891 qw_892 qw_51 qw_893) ⟨rfl, rfl, (Nat.le_of_ble_eq_true rfl), (Nat.le_of_ble_eq_true rfl)⟩ dd_J4_append_cf468 rfl hk1 rfl rfl hl.1 (Nat.le_of_ble_eq_true rfl) dL_notes_15 ⟨(Nat.le_trans (m := 142) (by omega) (Nat.le_refl _)), (Nat.le_trans (m := 59496) (by omega) (Nat.le_refl _))⟩ (fun H locs hM hS => ?_)
  refine lv_iload_n hx hb dL_notes_18 rfl (lv_at hl 1 rfl) ?_
  obtain ⟨v9, M10, h1, h⟩ := ob2 h
  obtain ⟨hk1, h1⟩ := ifg h1
  refine kV1 (ci := 6) (As := [.int a2]) (rest := []) hC hE hS hM (mt_J4_append_bf812 _ E v7 a2 _ _ _ h1) (gwV qw_865 qw_866 qw_867 qw_51 qw_868) ⟨rfl, rfl, (Nat.le_of_ble_eq_true rfl), (Nat.le_of_ble_eq_true rfl)⟩ dd_J4_append_bf812 rfl hk1 rfl rfl hl.1 (Nat.le_of_ble_eq_true rfl) dL_notes_19 ⟨(Nat.le_trans (m := 142) (by omega) (Nat.le_refl _)), (Nat.le_trans (m := 59496) (by omega) (Nat.le_refl _))⟩ (fun H locs hM hS => ?_)
  refine lv_bipush (v := 32) hx hb dL_notes_22 (by decide) ?_
  obtain ⟨v11, M12, h1, h⟩ := ob2 h
  obtain ⟨hk1, h1⟩ := ifg h1
  refine kV1 (ci := 6) (As := [.int 32]) (rest := []) hC hE hS hM (mt_J4_append_cf468 _ E v9 32 _ _ _ h1) (gwV qw_890 qw_891 qw_892 qw_51 qw_893) ⟨rfl, rfl, (Nat.le_of_ble_eq_true rfl), (Nat.le_of_ble_eq_true rfl)⟩ dd_J4_append_cf468 rfl hk1 rfl rfl hl.1 (Nat.le_of_ble_eq_true rfl) dL_notes_24 ⟨(Nat.le_trans (m := 142) (by omega) (Nat.le_refl _)), (Nat.le_trans (m := 59496) (by omega) (Nat.le_refl _))⟩ (fun H locs hM hS => ?_)
  refine lv_iload_n hx hb dL_notes_27 rfl (lv_at hl 2 rfl) ?_
  obtain ⟨v13, M14, h1, h⟩ := ob2 h
  obtain ⟨hk1, h1⟩ := ifg h1
  refine kV1 (ci := 6) (As := [.int a3]) (rest := []) hC hE hS hM (mt_J4_append_bf812 _ E v11 a3 _ _ _ h1) (gwV qw_865 qw_866 qw_867 qw_51 qw_868) ⟨rfl, rfl, (Nat.le_of_ble_eq_true rfl), (Nat.le_of_ble_eq_true rfl)⟩ dd_J4_append_bf812 rfl hk1 rfl rfl hl.1 (Nat.le_of_ble_eq_true rfl) dL_notes_28 ⟨(Nat.le_trans (m := 142) (by omega) (Nat.le_refl _)), (Nat.le_trans (m := 59496) (by omega) (Nat.le_refl _))⟩ (fun H locs hM hS => ?_)
  refine lv_astore (lv' := [(4, .ref v13), (0, .int a1), (1, .int a2), (2, .int a3), (3, .ref a4)]) hx hb dL_notes_31 hl (by decide) rfl (fun ls hl => ?_)
  refine lv_aload_n hx hb dL_notes_33 rfl (lv_at hl 4 rfl) ?_
  obtain ⟨v15, M16, h1, h⟩ := ob2 h
  refine kS1 (As := [.ref a4]) (rest := []) hC hE hS hM (mt_L_next _ E a4 _ _ _ h1) (gwS qw_547 qw_548 qw_38 qw_549) ⟨rfl, rfl, (Nat.le_of_ble_eq_true rfl), (Nat.le_of_ble_eq_true rfl)⟩ dd_L_next rfl rfl hl.1 (Nat.le_of_ble_eq_true rfl) dL_notes_34 ⟨(Nat.le_trans (m := 142) (by omega) (Nat.le_refl _)), (Nat.le_trans (m := 59496) (by omega) (Nat.le_refl _))⟩ (fun H locs hM hS => ?_)
  refine lv_bipush (v := 12) hx hb dL_notes_37 (by decide) ?_
  refine lv_irem hx hb dL_notes_39 (by decide) ?_
  refine lv_istore (lv' := [(5, .int (v15 - v15 / 12 * 12)), (4, .ref v13), (0, .int a1), (1, .int a2), (2, .int a3), (3, .ref a4)]) hx hb dL_notes_40 hl (by decide) rfl (fun ls hl => ?_)
  exact tj_L_notes_42 hC hr hlocks hE ⟨by omega, by omega⟩ h hM hS (lv_sub hl [2, 3, 4, 5, 1, 0] rfl)
