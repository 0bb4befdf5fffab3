/-! printed by wip/p56/gen2.py: methods as functions over the memory, and that the code does what they say -/
theorem dd_L_sum : yL_sum.cls ≠ "java/lang/invoke/MethodHandle" ∧ yL_sum.cls ≠ "java/lang/invoke/VarHandle" ∧ (parseMethodDescriptor yL_sum.desc).map (fun d => d.parameters.length) = some 1 := by decide +kernel
abbrev rm_L_sum : Room := ({ frames := 6, cells := 0, slots := 0, locals := 147 } : Room)
noncomputable def fj_L_sum_250 (x2 : Int64) (M : Mem) : Option (Int64 × Mem) :=
  some (x2, M)
set_option maxHeartbeats 4000000 in
set_option maxRecDepth 100000 in
theorem tj_L_sum_250 {p : Program} {l : Launch} {e : Env} {s : State} {m : MethodId} {args : Array Value} {below : List Frame} {meth : Method} {c : Code} {E : KEnv} {H : Heap} {locs : List Loc} {ls : Array Slot} {x2 : Int64} {M : Mem} {v : Int64} {M' : Mem} (hC : CallFix p m c cL_sum 7 s args lw_G RL) (hr : meth.sig.returnType = (some .long)) (hlocks : meth.locks = false) (hE : EnvOK E s) (h : fj_L_sum_250 x2 M = some (v, M')) (hM : MOK E M H) (hS : va_S (eA E) s.heap H locs) (hl : lv_has ls 7 [(2, .long x2)]) : W p l e rm_L_sum s m args below meth c H locs 0 0 (MQ below (cQ E (some (.long v)) M') args s 0 0 (eA E)) (F0 m 250 ls []) := by
  obtain ⟨hx, hb, hml, hown, hts⟩ := id hC
  unfold fj_L_sum_250 at h
  refine lv_lload_n hx hb dL_sum_250 rfl (lv_at hl 0 rfl) ?_
  cases h
  exact eL hx hb hr hlocks hM hS dL_sum_251 (Nat.le_of_ble_eq_true rfl) (Nat.le_of_ble_eq_true rfl)
noncomputable def fj_L_sum_244 (x0 : Nat) (x1 : Int32) (x2 : Int64) (x4 : Int32) (M : Mem) : Option ((Int64 × Int32 × Mem) ⊕ (Int64 × Mem)) :=
  some (.inl (x2, x4 + 1, M))
set_option maxHeartbeats 4000000 in
set_option maxRecDepth 100000 in
theorem tj_L_sum_244 {p : Program} {l : Launch} {e : Env} {s : State} {m : MethodId} {args : Array Value} {below : List Frame} {meth : Method} {c : Code} {E : KEnv} {H : Heap} {locs : List Loc} {ls : Array Slot} {x0 : Nat} {x1 : Int32} {x2 : Int64} {x4 : Int32} {y1 : ((Int64 × Int32 × Mem) ⊕ (Int64 × Mem))} {M : Mem} {v : Int64} {M' : Mem} (hC : CallFix p m c cL_sum 7 s args lw_G RL) (hr : meth.sig.returnType = (some .long)) (hlocks : meth.locks = false) (hE : EnvOK E s) (hy1 : (∀ q : (Int64 × Int32 × Mem), y1 = .inl q → ∀ (H : Heap) (locs : List Loc) (ls : Array Slot), MOK E (q.2.2) H → va_S (eA E) s.heap H locs → lv_has ls 7 [(0, .ref x0), (1, .int x1), (2, .long q.1), (4, .int q.2.1)] → W p l e rm_L_sum s m args below meth c H locs 0 0 (MQ below (cQ E (some (.long v)) M') args s 0 0 (eA E)) (F0 m 182 ls [])) ∧ ∀ z, y1 = .inr z → z = (v, M')) (h : fj_L_sum_244 x0 x1 x2 x4 M = some y1) (hM : MOK E M H) (hS : va_S (eA E) s.heap H locs) (hl : lv_has ls 7 [(0, .ref x0), (1, .int x1), (2, .long x2), (4, .int x4)]) : W p l e rm_L_sum s m args below meth c H locs 0 0 (MQ below (cQ E (some (.long v)) M') args s 0 0 (eA E)) (F0 m 244 ls []) := by
  obtain ⟨hx, hb, hml, hown, hts⟩ := id hC
  unfold fj_L_sum_244 at h
  refine lv_iinc (v := x4 + 1) (lv' := [(4, .int (x4 + 1)), (0, .ref x0), (1, .int x1), (2, .long x2)]) hx hb dL_sum_244 hl (k := 3) rfl rfl (by decide) rfl (fun ls hl => ?_)
  refine lv_goto (tgt := 182) hx hb dL_sum_247 (by decide) ?_
  cases h
  exact hy1.1 _ rfl _ _ _ hM hS (lv_sub hl [1, 2, 3, 0] rfl)
noncomputable def fj_L_sum_235 (x0 : Nat) (x1 : Int32) (x4 : Int32) (x5 : Int32) (s0 : Int64) (s1 : Int32) (M : Mem) : Option ((Int64 × Int32 × Mem) ⊕ ((Int64 × Int32 × Mem) ⊕ (Int64 × Mem))) :=
  some (.inl (s0 + s1.toInt64, x5 + 1, M))
set_option maxHeartbeats 4000000 in
set_option maxRecDepth 100000 in
theorem tj_L_sum_235 {p : Program} {l : Launch} {e : Env} {s : State} {m : MethodId} {args : Array Value} {below : List Frame} {meth : Method} {c : Code} {E : KEnv} {H : Heap} {locs : List Loc} {ls : Array Slot} {x0 : Nat} {x1 : Int32} {x4 : Int32} {x5 : Int32} {s0 : Int64} {s1 : Int32} {y1 : ((Int64 × Int32 × Mem) ⊕ (Int64 × Mem))} {y2 : ((Int64 × Int32 × Mem) ⊕ ((Int64 × Int32 × Mem) ⊕ (Int64 × Mem)))} {M : Mem} {v : Int64} {M' : Mem} (hC : CallFix p m c cL_sum 7 s args lw_G RL) (hr : meth.sig.returnType = (some .long)) (hlocks : meth.locks = false) (hE : EnvOK E s) (hy1 : (∀ q : (Int64 × Int32 × Mem), y1 = .inl q → ∀ (H : Heap) (locs : List Loc) (ls : Array Slot), MOK E (q.2.2) H → va_S (eA E) s.heap H locs → lv_has ls 7 [(0, .ref x0), (1, .int x1), (2, .long q.1), (4, .int q.2.1)] → W p l e rm_L_sum s m args below meth c H locs 0 0 (MQ below (cQ E (some (.long v)) M') args s 0 0 (eA E)) (F0 m 182 ls [])) ∧ ∀ z, y1 = .inr z → z = (v, M')) (hy2 : (∀ q : (Int64 × Int32 × Mem), y2 = .inl q → ∀ (H : Heap) (locs : List Loc) (ls : Array Slot), MOK E (q.2.2) H → va_S (eA E) s.heap H locs → lv_has ls 7 [(0, .ref x0), (1, .int x1), (4, .int x4), (2, .long q.1), (5, .int q.2.1)] → W p l e rm_L_sum s m args below meth c H locs 0 0 (MQ below (cQ E (some (.long v)) M') args s 0 0 (eA E)) (F0 m 208 ls [])) ∧ ∀ z, y2 = .inr z → z = y1) (h : fj_L_sum_235 x0 x1 x4 x5 s0 s1 M = some y2) (hM : MOK E M H) (hS : va_S (eA E) s.heap H locs) (hl : lv_has ls 7 [(0, .ref x0), (1, .int x1), (4, .int x4), (5, .int x5)]) : W p l e rm_L_sum s m args below meth c H locs 0 0 (MQ below (cQ E (some (.long v)) M') args s 0 0 (eA E)) (F0 m 235 ls [.int s1, .long s0]) := by
  obtain ⟨hx, hb, hml, hown, hts⟩ := id hC
  unfold fj_L_sum_235 at h
  refine lv_i2l (v := s1.toInt64) hx hb dL_sum_235 rfl ?_
  refine lv_ladd hx hb dL_sum_236 ?_
  refine lv_lstore_n (lv' := [(2, .long (s0 + s1.toInt64)), (0, .ref x0), (1, .int x1), (4, .int x4), (5, .int x5)]) hx hb dL_sum_237 rfl hl (by decide) rfl (fun ls hl => ?_)
  refine lv_iinc (v := x5 + 1) (lv' := [(5, .int (x5 + 1)), (2, .long (s0 + s1.toInt64)), (0, .ref x0), (1, .int x1), (4, .int x4)]) hx hb dL_sum_238 hl (k := 4) rfl rfl (by decide) rfl (fun ls hl => ?_)
  refine lv_goto (tgt := 208) hx hb dL_sum_241 (by decide) ?_
  cases h
  exact hy2.1 _ rfl _ _ _ hM hS (lv_sub hl [2, 3, 4, 1, 0] rfl)
noncomputable def fc_L_sum_208 (x0 : Nat) (x1 : Int32) (x4 : Int32) (x2 : Int64) (x5 : Int32) (M : Mem) : Option ((Int64 × Int32 × Mem) ⊕ ((Int64 × Int32 × Mem) ⊕ (Int64 × Mem))) :=
  (if x1 ≤ x5 then
  (fj_L_sum_244 x0 x1 x2 x4 M).map Sum.inr
  else
  bq (cK 5 x0 M (f_X4_isNews x0 x4 x5 M)) fun v9 M10 =>
  (if v9 = 0 then
  fj_L_sum_235 x0 x1 x4 x5 (2 * x2) 0 M10
  else
  fj_L_sum_235 x0 x1 x4 x5 (2 * x2) 1 M10))
noncomputable def fj_L_sum_208 (x0 : Nat) (x1 : Int32) (x4 : Int32) (x2 : Int64) (x5 : Int32) (M : Mem) : Option ((Int64 × Int32 × Mem) ⊕ (Int64 × Mem)) := loopM (fun q : (Int64 × Int32 × Mem) => fc_L_sum_208 x0 x1 x4 q.1 q.2.1 q.2.2) FU (x2, x5, M)
set_option maxHeartbeats 4000000 in
set_option maxRecDepth 100000 in
theorem tj_L_sum_208 {p : Program} {l : Launch} {e : Env} {s : State} {m : MethodId} {args : Array Value} {below : List Frame} {meth : Method} {c : Code} {E : KEnv} {H : Heap} {locs : List Loc} {ls : Array Slot} {x0 : Nat} {x1 : Int32} {x4 : Int32} {x2 : Int64} {x5 : Int32} {y1 : ((Int64 × Int32 × Mem) ⊕ (Int64 × Mem))} {M : Mem} {v : Int64} {M' : Mem} (hC : CallFix p m c cL_sum 7 s args lw_G RL) (hr : meth.sig.returnType = (some .long)) (hlocks : meth.locks = false) (hE : EnvOK E s) (hy1 : (∀ q : (Int64 × Int32 × Mem), y1 = .inl q → ∀ (H : Heap) (locs : List Loc) (ls : Array Slot), MOK E (q.2.2) H → va_S (eA E) s.heap H locs → lv_has ls 7 [(0, .ref x0), (1, .int x1), (2, .long q.1), (4, .int q.2.1)] → W p l e rm_L_sum s m args below meth c H locs 0 0 (MQ below (cQ E (some (.long v)) M') args s 0 0 (eA E)) (F0 m 182 ls [])) ∧ ∀ z, y1 = .inr z → z = (v, M')) (h : fj_L_sum_208 x0 x1 x4 x2 x5 M = some y1) (hM : MOK E M H) (hS : va_S (eA E) s.heap H locs) (hl : lv_has ls 7 [(0, .ref x0), (1, .int x1), (4, .int x4), (2, .long x2), (5, .int x5)]) : W p l e rm_L_sum s m args below meth c H locs 0 0 (MQ below (cQ E (some (.long v)) M') args s 0 0 (eA E)) (F0 m 208 ls []) := by
  refine loopM_ind (body := fun q : (Int64 × Int32 × Mem) => fc_L_sum_208 x0 x1 x4 q.1 q.2.1 q.2.2) (x0 := y1) (Wd := fun q : (Int64 × Int32 × Mem) => ∀ (H : Heap) (locs : List Loc) (ls : Array Slot), MOK E (q.2.2) H → va_S (eA E) s.heap H locs → lv_has ls 7 [(0, .ref x0), (1, .int x1), (4, .int x4), (2, .long q.1), (5, .int q.2.1)] → W p l e rm_L_sum s m args below meth c H locs 0 0 (MQ below (cQ E (some (.long v)) M') args s 0 0 (eA E)) (F0 m 208 ls [])) ?_ FU (x2, x5, M) h H locs ls hM hS hl
  clear h hM hS hl H locs ls M x2 x5
  obtain ⟨hx, hb, hml, hown, hts⟩ := id hC
  intro q y2 h hy2 H locs ls hM hS hl
  obtain ⟨x2, x5, M⟩ := q
  have h : fc_L_sum_208 x0 x1 x4 x2 x5 M = some y2 := h
  have hM : MOK E M H := hM
  have hl : lv_has ls 7 [(0, .ref x0), (1, .int x1), (4, .int x4), (2, .long x2), (5, .int x5)] := hl
  unfold fc_L_sum_208 at h
  show W p l e rm_L_sum s m args below meth c H locs _ _ _ _
  refine lv_iload hx hb dL_sum_208 (lv_at hl 4 rfl) ?_
  refine lv_iload_n hx hb dL_sum_210 rfl (lv_at hl 1 rfl) ?_
  refine lv_icmp_ge (tgt := 244) hx hb dL_sum_211 (by decide) (fun c1 => ?_) (fun c1 => ?_)
  · have h := ifp c1 h
    obtain ⟨z0, h9, rfl⟩ := om h
    have e0 := hy2.2 _ rfl
    subst e0
    have h := h9
    refine W.widen (k := 0) (n := 0) (Nat.le_of_ble_eq_true rfl) (Nat.le_of_ble_eq_true rfl) ?_
    exact tj_L_sum_244  hC hr hlocks hE hy1  h hM hS (lv_sub hl [0, 1, 3, 2] rfl)
  · have h := ifn c1 h
    refine lv_ldc2 (v := 2) hx hb hown (hts _ qw_1039) dL_sum_214 ?_
    refine lv_lload_n hx hb dL_sum_217 rfl (lv_at hl 3 rfl) ?_
    refine lv_lmul hx hb dL_sum_218 ?_
    refine lv_aload_n hx hb dL_sum_219 rfl (lv_at hl 0 rfl) ?_
    refine lv_iload hx hb dL_sum_220 (lv_at hl 2 rfl) ?_
    refine lv_iload hx hb dL_sum_222 (lv_at hl 4 rfl) ?_
    obtain ⟨v9, M10, h1, h⟩ := obq h
    obtain ⟨hk1, h1⟩ := ifg h1
    refine kV1 (ci := 4) (As := [.int x4, .int x5]) (rest := [.long (2 * x2)]) hC hE hS hM (mq_X4_isNews _ E x0 x4 x5 _ _ _ h1) (gwV qw_1040 qw_1041 qw_1042 qw_39 qw_1043) ⟨rfl, rfl, (Nat.le_of_ble_eq_true rfl), (Nat.le_of_ble_eq_true rfl)⟩ dd_X4_isNews rfl hk1 rfl rfl hl.1 (Nat.le_of_ble_eq_true rfl) dL_sum_224 ⟨(Nat.le_of_ble_eq_true rfl), (Nat.le_of_ble_eq_true rfl)⟩ (fun H locs hM hS => ?_)
    refine lv_if_eq (tgt := 234) hx hb dL_sum_227 (by decide) (fun c1 => ?_) (fun c1 => ?_)
    · have h := ifp c1 h
      refine lv_iconst (v := 0) hx hb dL_sum_234 (by decide) ?_
      refine W.widen (k := 0) (n := 0) (Nat.le_of_ble_eq_true rfl) (Nat.le_of_ble_eq_true rfl) ?_
      exact tj_L_sum_235  hC hr hlocks hE hy1 hy2  h hM hS (lv_sub hl [0, 1, 2, 4] rfl)
    · have h := ifn c1 h
      refine lv_iconst (v := 1) hx hb dL_sum_230 (by decide) ?_
      refine lv_goto (tgt := 235) hx hb dL_sum_231 (by decide) ?_
      refine W.widen (k := 0) (n := 0) (Nat.le_of_ble_eq_true rfl) (Nat.le_of_ble_eq_true rfl) ?_
      exact tj_L_sum_235  hC hr hlocks hE hy1 hy2  h hM hS (lv_sub hl [0, 1, 2, 4] rfl)
noncomputable def fc_L_sum_182 (x0 : Nat) (x1 : Int32) (x2 : Int64) (x4 : Int32) (M : Mem) : Option ((Int64 × Int32 × Mem) ⊕ (Int64 × Mem)) :=
  bn (cK 5 x0 M (f_X4_messageCount x0 M)) fun v5 M6 =>
  (if v5 ≤ x4 then
  (fj_L_sum_250 x2 M6).map Sum.inr
  else
  bq (cK 5 x0 M6 (f_X4_senderOf x0 x4 M6)) fun v7 M8 =>
  fj_L_sum_208 x0 x1 x4 ((31 * x2) + v7.toInt64) 0 M8)
noncomputable def fj_L_sum_182 (x0 : Nat) (x1 : Int32) (x2 : Int64) (x4 : Int32) (M : Mem) : Option (Int64 × Mem) := loopM (fun q : (Int64 × Int32 × Mem) => fc_L_sum_182 x0 x1 q.1 q.2.1 q.2.2) FU (x2, x4, M)
set_option maxHeartbeats 4000000 in
set_option maxRecDepth 100000 in
theorem tj_L_sum_182 {p : Program} {l : Launch} {e : Env} {s : State} {m : MethodId} {args : Array Value} {below : List Frame} {meth : Method} {c : Code} {E : KEnv} {H : Heap} {locs : List Loc} {ls : Array Slot} {x0 : Nat} {x1 : Int32} {x2 : Int64} {x4 : Int32} {M : Mem} {v : Int64} {M' : Mem} (hC : CallFix p m c cL_sum 7 s args lw_G RL) (hr : meth.sig.returnType = (some .long)) (hlocks : meth.locks = false) (hE : EnvOK E s) (h : fj_L_sum_182 x0 x1 x2 x4 M = some (v, M')) (hM : MOK E M H) (hS : va_S (eA E) s.heap H locs) (hl : lv_has ls 7 [(0, .ref x0), (1, .int x1), (2, .long x2), (4, .int x4)]) : W p l e rm_L_sum s m args below meth c H locs 0 0 (MQ below (cQ E (some (.long v)) M') args s 0 0 (eA E)) (F0 m 182 ls []) := by
  refine loopM_ind (body := fun q : (Int64 × Int32 × Mem) => fc_L_sum_182 x0 x1 q.1 q.2.1 q.2.2) (x0 := (v, M')) (Wd := fun q : (Int64 × Int32 × Mem) => ∀ (H : Heap) (locs : List Loc) (ls : Array Slot), MOK E (q.2.2) H → va_S (eA E) s.heap H locs → lv_has ls 7 [(0, .ref x0), (1, .int x1), (2, .long q.1), (4, .int q.2.1)] → W p l e rm_L_sum s m args below meth c H locs 0 0 (MQ below (cQ E (some (.long v)) M') args s 0 0 (eA E)) (F0 m 182 ls [])) ?_ FU (x2, x4, M) h H locs ls hM hS hl
  clear h hM hS hl H locs ls M x2 x4
  obtain ⟨hx, hb, hml, hown, hts⟩ := id hC
  intro q y1 h hy1 H locs ls hM hS hl
  obtain ⟨x2, x4, M⟩ := q
  have h : fc_L_sum_182 x0 x1 x2 x4 M = some y1 := h
  have hM : MOK E M H := hM
  have hl : lv_has ls 7 [(0, .ref x0), (1, .int x1), (2, .long x2), (4, .int x4)] := hl
  unfold fc_L_sum_182 at h
  show W p l e rm_L_sum s m args below meth c H locs _ _ _ _
  refine lv_iload hx hb dL_sum_182 (lv_at hl 3 rfl) ?_
  refine lv_aload_n hx hb dL_sum_184 rfl (lv_at hl 0 rfl) ?_
  obtain ⟨v5, M6, h1, h⟩ := ob2 h
  obtain ⟨hk1, h1⟩ := ifg h1
  refine kV1 (ci := 4) (As := []) (rest := [.int x4]) hC hE hS hM (mt_X4_messageCount _ E x0 _ _ _ h1) (gwV qw_989 qw_990 qw_991 qw_39 qw_992) ⟨rfl, rfl, (Nat.le_of_ble_eq_true rfl), (Nat.le_of_ble_eq_true rfl)⟩ dd_X4_messageCount rfl hk1 rfl rfl hl.1 (Nat.le_of_ble_eq_true rfl) dL_sum_185 ⟨(Nat.le_of_ble_eq_true rfl), (Nat.le_of_ble_eq_true rfl)⟩ (fun H locs hM hS => ?_)
  refine lv_icmp_ge (tgt := 250) hx hb dL_sum_188 (by decide) (fun c1 => ?_) (fun c1 => ?_)
  · have h := ifp c1 h
    obtain ⟨z0, h9, rfl⟩ := om h
    have e0 := hy1.2 _ rfl
    subst e0
    have h := h9
    refine W.widen (k := 0) (n := 0) (Nat.le_of_ble_eq_true rfl) (Nat.le_of_ble_eq_true rfl) ?_
    exact tj_L_sum_250  hC hr hlocks hE  h hM hS (lv_sub hl [2] rfl)
  · have h := ifn c1 h
    refine lv_ldc2 (v := 31) hx hb hown (hts _ qw_993) dL_sum_191 ?_
    refine lv_lload_n hx hb dL_sum_194 rfl (lv_at hl 2 rfl) ?_
    refine lv_lmul hx hb dL_sum_195 ?_
    refine lv_aload_n hx hb dL_sum_196 rfl (lv_at hl 0 rfl) ?_
    refine lv_iload hx hb dL_sum_197 (lv_at hl 3 rfl) ?_
    obtain ⟨v7, M8, h1, h⟩ := obq h
    obtain ⟨hk1, h1⟩ := ifg h1
    refine kV1 (ci := 4) (As := [.int x4]) (rest := [.long (31 * x2)]) hC hE hS hM (mq_X4_senderOf _ E x0 x4 _ _ _ h1) (gwV qw_1035 qw_1036 qw_1037 qw_39 qw_1038) ⟨rfl, rfl, (Nat.le_of_ble_eq_true rfl), (Nat.le_of_ble_eq_true rfl)⟩ dd_X4_senderOf rfl hk1 rfl rfl hl.1 (Nat.le_of_ble_eq_true rfl) dL_sum_199 ⟨(Nat.le_of_ble_eq_true rfl), (Nat.le_of_ble_eq_true rfl)⟩ (fun H locs hM hS => ?_)
    refine lv_i2l (v := v7.toInt64) hx hb dL_sum_202 rfl ?_
    refine lv_ladd hx hb dL_sum_203 ?_
    refine lv_lstore_n (lv' := [(2, .long ((31 * x2) + v7.toInt64)), (0, .ref x0), (1, .int x1), (4, .int x4)]) hx hb dL_sum_204 rfl hl (by decide) rfl (fun ls hl => ?_)
    refine lv_iconst (v := 0) hx hb dL_sum_205 (by decide) ?_
    refine lv_istore (lv' := [(5, .int 0), (2, .long ((31 * x2) + v7.toInt64)), (0, .ref x0), (1, .int x1), (4, .int x4)]) hx hb dL_sum_206 hl (by decide) rfl (fun ls hl => ?_)
    refine W.widen (k := 0) (n := 0) (Nat.le_of_ble_eq_true rfl) (Nat.le_of_ble_eq_true rfl) ?_
    exact tj_L_sum_208  hC hr hlocks hE hy1  h hM hS (lv_sub hl [2, 3, 4, 1, 0] rfl)
noncomputable def fj_L_sum_179 (x0 : Nat) (x1 : Int32) (x2 : Int64) (M : Mem) : Option (Int64 × Mem) :=
  fj_L_sum_182 x0 x1 x2 0 M
set_option maxHeartbeats 4000000 in
set_option maxRecDepth 100000 in
theorem tj_L_sum_179 {p : Program} {l : Launch} {e : Env} {s : State} {m : MethodId} {args : Array Value} {below : List Frame} {meth : Method} {c : Code} {E : KEnv} {H : Heap} {locs : List Loc} {ls : Array Slot} {x0 : Nat} {x1 : Int32} {x2 : Int64} {M : Mem} {v : Int64} {M' : Mem} (hC : CallFix p m c cL_sum 7 s args lw_G RL) (hr : meth.sig.returnType = (some .long)) (hlocks : meth.locks = false) (hE : EnvOK E s) (h : fj_L_sum_179 x0 x1 x2 M = some (v, M')) (hM : MOK E M H) (hS : va_S (eA E) s.heap H locs) (hl : lv_has ls 7 [(0, .ref x0), (1, .int x1), (2, .long x2)]) : W p l e rm_L_sum s m args below meth c H locs 0 0 (MQ below (cQ E (some (.long v)) M') args s 0 0 (eA E)) (F0 m 179 ls []) := by
  obtain ⟨hx, hb, hml, hown, hts⟩ := id hC
  unfold fj_L_sum_179 at h
  refine lv_iconst (v := 0) hx hb dL_sum_179 (by decide) ?_
  refine lv_istore (lv' := [(4, .int 0), (0, .ref x0), (1, .int x1), (2, .long x2)]) hx hb dL_sum_180 hl (by decide) rfl (fun ls hl => ?_)
  refine W.widen (k := 0) (n := 0) (Nat.le_of_ble_eq_true rfl) (Nat.le_of_ble_eq_true rfl) ?_
  exact tj_L_sum_182  hC hr hlocks hE  h hM hS (lv_sub hl [1, 2, 3, 0] rfl)
noncomputable def fj_L_sum_173 (x0 : Nat) (x1 : Int32) (x2 : Int64) (x4 : Int32) (M : Mem) : Option ((Int64 × Int32 × Mem) ⊕ (Int64 × Mem)) :=
  some (.inl (x2, x4 + 1, M))
set_option maxHeartbeats 4000000 in
set_option maxRecDepth 100000 in
theorem tj_L_sum_173 {p : Program} {l : Launch} {e : Env} {s : State} {m : MethodId} {args : Array Value} {below : List Frame} {meth : Method} {c : Code} {E : KEnv} {H : Heap} {locs : List Loc} {ls : Array Slot} {x0 : Nat} {x1 : Int32} {x2 : Int64} {x4 : Int32} {y1 : ((Int64 × Int32 × Mem) ⊕ (Int64 × Mem))} {M : Mem} {v : Int64} {M' : Mem} (hC : CallFix p m c cL_sum 7 s args lw_G RL) (hr : meth.sig.returnType = (some .long)) (hlocks : meth.locks = false) (hE : EnvOK E s) (hy1 : (∀ q : (Int64 × Int32 × Mem), y1 = .inl q → ∀ (H : Heap) (locs : List Loc) (ls : Array Slot), MOK E (q.2.2) H → va_S (eA E) s.heap H locs → lv_has ls 7 [(0, .ref x0), (1, .int x1), (2, .long q.1), (4, .int q.2.1)] → W p l e rm_L_sum s m args below meth c H locs 0 0 (MQ below (cQ E (some (.long v)) M') args s 0 0 (eA E)) (F0 m 14 ls [])) ∧ ∀ z, y1 = .inr z → z = (v, M')) (h : fj_L_sum_173 x0 x1 x2 x4 M = some y1) (hM : MOK E M H) (hS : va_S (eA E) s.heap H locs) (hl : lv_has ls 7 [(0, .ref x0), (1, .int x1), (2, .long x2), (4, .int x4)]) : W p l e rm_L_sum s m args below meth c H locs 0 0 (MQ below (cQ E (some (.long v)) M') args s 0 0 (eA E)) (F0 m 173 ls []) := by
  obtain ⟨hx, hb, hml, hown, hts⟩ := id hC
  unfold fj_L_sum_173 at h
  refine lv_iinc (v := x4 + 1) (lv' := [(4, .int (x4 + 1)), (0, .ref x0), (1, .int x1), (2, .long x2)]) hx hb dL_sum_173 hl (k := 3) rfl rfl (by decide) rfl (fun ls hl => ?_)
  refine lv_goto (tgt := 14) hx hb dL_sum_176 (by decide) ?_
  cases h
  exact hy1.1 _ rfl _ _ _ hM hS (lv_sub hl [1, 2, 3, 0] rfl)
noncomputable def fj_L_sum_167 (x0 : Nat) (x1 : Int32) (x2 : Int64) (x4 : Int32) (x5 : Int32) (M : Mem) : Option ((Int64 × Int32 × Mem) ⊕ ((Int64 × Int32 × Mem) ⊕ (Int64 × Mem))) :=
  some (.inl (x2, x5 + 1, M))
set_option maxHeartbeats 4000000 in
set_option maxRecDepth 100000 in
theorem tj_L_sum_167 {p : Program} {l : Launch} {e : Env} {s : State} {m : MethodId} {args : Array Value} {below : List Frame} {meth : Method} {c : Code} {E : KEnv} {H : Heap} {locs : List Loc} {ls : Array Slot} {x0 : Nat} {x1 : Int32} {x2 : Int64} {x4 : Int32} {x5 : Int32} {y1 : ((Int64 × Int32 × Mem) ⊕ (Int64 × Mem))} {y2 : ((Int64 × Int32 × Mem) ⊕ ((Int64 × Int32 × Mem) ⊕ (Int64 × Mem)))} {M : Mem} {v : Int64} {M' : Mem} (hC : CallFix p m c cL_sum 7 s args lw_G RL) (hr : meth.sig.returnType = (some .long)) (hlocks : meth.locks = false) (hE : EnvOK E s) (hy1 : (∀ q : (Int64 × Int32 × Mem), y1 = .inl q → ∀ (H : Heap) (locs : List Loc) (ls : Array Slot), MOK E (q.2.2) H → va_S (eA E) s.heap H locs → lv_has ls 7 [(0, .ref x0), (1, .int x1), (2, .long q.1), (4, .int q.2.1)] → W p l e rm_L_sum s m args below meth c H locs 0 0 (MQ below (cQ E (some (.long v)) M') args s 0 0 (eA E)) (F0 m 14 ls [])) ∧ ∀ z, y1 = .inr z → z = (v, M')) (hy2 : (∀ q : (Int64 × Int32 × Mem), y2 = .inl q → ∀ (H : Heap) (locs : List Loc) (ls : Array Slot), MOK E (q.2.2) H → va_S (eA E) s.heap H locs → lv_has ls 7 [(0, .ref x0), (1, .int x1), (4, .int x4), (2, .long q.1), (5, .int q.2.1)] → W p l e rm_L_sum s m args below meth c H locs 0 0 (MQ below (cQ E (some (.long v)) M') args s 0 0 (eA E)) (F0 m 23 ls [])) ∧ ∀ z, y2 = .inr z → z = y1) (h : fj_L_sum_167 x0 x1 x2 x4 x5 M = some y2) (hM : MOK E M H) (hS : va_S (eA E) s.heap H locs) (hl : lv_has ls 7 [(0, .ref x0), (1, .int x1), (2, .long x2), (4, .int x4), (5, .int x5)]) : W p l e rm_L_sum s m args below meth c H locs 0 0 (MQ below (cQ E (some (.long v)) M') args s 0 0 (eA E)) (F0 m 167 ls []) := by
  obtain ⟨hx, hb, hml, hown, hts⟩ := id hC
  unfold fj_L_sum_167 at h
  refine lv_iinc (v := x5 + 1) (lv' := [(5, .int (x5 + 1)), (0, .ref x0), (1, .int x1), (2, .long x2), (4, .int x4)]) hx hb dL_sum_167 hl (k := 4) rfl rfl (by decide) rfl (fun ls hl => ?_)
  refine lv_goto (tgt := 23) hx hb dL_sum_170 (by decide) ?_
  cases h
  exact hy2.1 _ rfl _ _ _ hM hS (lv_sub hl [1, 2, 4, 3, 0] rfl)
noncomputable def fc_L_sum_134 (x0 : Nat) (x1 : Int32) (x4 : Int32) (x5 : Int32) (x2 : Int64) (x6 : Int32) (M : Mem) : Option ((Int64 × Int32 × Mem) ⊕ ((Int64 × Int32 × Mem) ⊕ ((Int64 × Int32 × Mem) ⊕ (Int64 × Mem)))) :=
  bn (cK 5 x0 M (f_X4_registerCount x0 M)) fun v15 M16 =>
  (if v15 ≤ x6 then
  (fj_L_sum_167 x0 x1 x2 x4 x5 M16).map Sum.inr
  else
  bq (cK 5 x0 M16 (f_X4_entryValue x0 x4 x6 x5 M16)) fun v17 M18 =>
  some (.inl ((31 * x2) + v17.toInt64, x6 + 1, M18)))
noncomputable def fj_L_sum_134 (x0 : Nat) (x1 : Int32) (x4 : Int32) (x5 : Int32) (x2 : Int64) (x6 : Int32) (M : Mem) : Option ((Int64 × Int32 × Mem) ⊕ ((Int64 × Int32 × Mem) ⊕ (Int64 × Mem))) := loopM (fun q : (Int64 × Int32 × Mem) => fc_L_sum_134 x0 x1 x4 x5 q.1 q.2.1 q.2.2) FU (x2, x6, M)
set_option maxHeartbeats 4000000 in
set_option maxRecDepth 100000 in
theorem tj_L_sum_134 {p : Program} {l : Launch} {e : Env} {s : State} {m : MethodId} {args : Array Value} {below : List Frame} {meth : Method} {c : Code} {E : KEnv} {H : Heap} {locs : List Loc} {ls : Array Slot} {x0 : Nat} {x1 : Int32} {x4 : Int32} {x5 : Int32} {x2 : Int64} {x6 : Int32} {y1 : ((Int64 × Int32 × Mem) ⊕ (Int64 × Mem))} {y2 : ((Int64 × Int32 × Mem) ⊕ ((Int64 × Int32 × Mem) ⊕ (Int64 × Mem)))} {M : Mem} {v : Int64} {M' : Mem} (hC : CallFix p m c cL_sum 7 s args lw_G RL) (hr : meth.sig.returnType = (some .long)) (hlocks : meth.locks = false) (hE : EnvOK E s) (hy1 : (∀ q : (Int64 × Int32 × Mem), y1 = .inl q → ∀ (H : Heap) (locs : List Loc) (ls : Array Slot), MOK E (q.2.2) H → va_S (eA E) s.heap H locs → lv_has ls 7 [(0, .ref x0), (1, .int x1), (2, .long q.1), (4, .int q.2.1)] → W p l e rm_L_sum s m args below meth c H locs 0 0 (MQ below (cQ E (some (.long v)) M') args s 0 0 (eA E)) (F0 m 14 ls [])) ∧ ∀ z, y1 = .inr z → z = (v, M')) (hy2 : (∀ q : (Int64 × Int32 × Mem), y2 = .inl q → ∀ (H : Heap) (locs : List Loc) (ls : Array Slot), MOK E (q.2.2) H → va_S (eA E) s.heap H locs → lv_has ls 7 [(0, .ref x0), (1, .int x1), (4, .int x4), (2, .long q.1), (5, .int q.2.1)] → W p l e rm_L_sum s m args below meth c H locs 0 0 (MQ below (cQ E (some (.long v)) M') args s 0 0 (eA E)) (F0 m 23 ls [])) ∧ ∀ z, y2 = .inr z → z = y1) (h : fj_L_sum_134 x0 x1 x4 x5 x2 x6 M = some y2) (hM : MOK E M H) (hS : va_S (eA E) s.heap H locs) (hl : lv_has ls 7 [(0, .ref x0), (1, .int x1), (4, .int x4), (5, .int x5), (2, .long x2), (6, .int x6)]) : W p l e rm_L_sum s m args below meth c H locs 0 0 (MQ below (cQ E (some (.long v)) M') args s 0 0 (eA E)) (F0 m 134 ls []) := by
  refine loopM_ind (body := fun q : (Int64 × Int32 × Mem) => fc_L_sum_134 x0 x1 x4 x5 q.1 q.2.1 q.2.2) (x0 := y2) (Wd := fun q : (Int64 × Int32 × Mem) => ∀ (H : Heap) (locs : List Loc) (ls : Array Slot), MOK E (q.2.2) H → va_S (eA E) s.heap H locs → lv_has ls 7 [(0, .ref x0), (1, .int x1), (4, .int x4), (5, .int x5), (2, .long q.1), (6, .int q.2.1)] → W p l e rm_L_sum s m args below meth c H locs 0 0 (MQ below (cQ E (some (.long v)) M') args s 0 0 (eA E)) (F0 m 134 ls [])) ?_ FU (x2, x6, M) h H locs ls hM hS hl
  clear h hM hS hl H locs ls M x2 x6
  obtain ⟨hx, hb, hml, hown, hts⟩ := id hC
  intro q y3 h hy3 H locs ls hM hS hl
  obtain ⟨x2, x6, M⟩ := q
  have h : fc_L_sum_134 x0 x1 x4 x5 x2 x6 M = some y3 := h
  have hM : MOK E M H := hM
  have hl : lv_has ls 7 [(0, .ref x0), (1, .int x1), (4, .int x4), (5, .int x5), (2, .long x2), (6, .int x6)] := hl
  unfold fc_L_sum_134 at h
  show W p l e rm_L_sum s m args below meth c H locs _ _ _ _
  refine lv_iload hx hb dL_sum_134 (lv_at hl 5 rfl) ?_
  refine lv_aload_n hx hb dL_sum_136 rfl (lv_at hl 0 rfl) ?_
  obtain ⟨v15, M16, h1, h⟩ := ob2 h
  obtain ⟨hk1, h1⟩ := ifg h1
  refine kV1 (ci := 4) (As := []) (rest := [.int x6]) hC hE hS hM (mt_X4_registerCount _ E x0 _ _ _ h1) (gwV qw_1023 qw_1024 qw_1025 qw_39 qw_1026) ⟨rfl, rfl, (Nat.le_of_ble_eq_true rfl), (Nat.le_of_ble_eq_true rfl)⟩ dd_X4_registerCount rfl hk1 rfl rfl hl.1 (Nat.le_of_ble_eq_true rfl) dL_sum_137 ⟨(Nat.le_of_ble_eq_true rfl), (Nat.le_of_ble_eq_true rfl)⟩ (fun H locs hM hS => ?_)
  refine lv_icmp_ge (tgt := 167) hx hb dL_sum_140 (by decide) (fun c1 => ?_) (fun c1 => ?_)
  · have h := ifp c1 h
    obtain ⟨z0, h9, rfl⟩ := om h
    have e0 := hy3.2 _ rfl
    subst e0
    have h := h9
    refine W.widen (k := 0) (n := 0) (Nat.le_of_ble_eq_true rfl) (Nat.le_of_ble_eq_true rfl) ?_
    exact tj_L_sum_167  hC hr hlocks hE hy1 hy2  h hM hS (lv_sub hl [0, 1, 4, 2, 3] rfl)
  · have h := ifn c1 h
    refine lv_ldc2 (v := 31) hx hb hown (hts _ qw_993) dL_sum_143 ?_
    refine lv_lload_n hx hb dL_sum_146 rfl (lv_at hl 4 rfl) ?_
    refine lv_lmul hx hb dL_sum_147 ?_
    refine lv_aload_n hx hb dL_sum_148 rfl (lv_at hl 0 rfl) ?_
    refine lv_iload hx hb dL_sum_149 (lv_at hl 2 rfl) ?_
    refine lv_iload hx hb dL_sum_151 (lv_at hl 5 rfl) ?_
    refine lv_iload hx hb dL_sum_153 (lv_at hl 3 rfl) ?_
    obtain ⟨v17, M18, h1, h⟩ := obq h
    obtain ⟨hk1, h1⟩ := ifg h1
    refine kV1 (ci := 4) (As := [.int x4, .int x6, .int x5]) (rest := [.long (31 * x2)]) hC hE hS hM (mq_X4_entryValue _ E x0 x4 x6 x5 _ _ _ h1) (gwV qw_1027 qw_1028 qw_1029 qw_39 qw_1030) ⟨rfl, rfl, (Nat.le_of_ble_eq_true rfl), (Nat.le_of_ble_eq_true rfl)⟩ dd_X4_entryValue rfl hk1 rfl rfl hl.1 (Nat.le_of_ble_eq_true rfl) dL_sum_155 ⟨(Nat.le_of_ble_eq_true rfl), (Nat.le_of_ble_eq_true rfl)⟩ (fun H locs hM hS => ?_)
    refine lv_i2l (v := v17.toInt64) hx hb dL_sum_158 rfl ?_
    refine lv_ladd hx hb dL_sum_159 ?_
    refine lv_lstore_n (lv' := [(2, .long ((31 * x2) + v17.toInt64)), (0, .ref x0), (1, .int x1), (4, .int x4), (5, .int x5), (6, .int x6)]) hx hb dL_sum_160 rfl hl (by decide) rfl (fun ls hl => ?_)
    refine lv_iinc (v := x6 + 1) (lv' := [(6, .int (x6 + 1)), (2, .long ((31 * x2) + v17.toInt64)), (0, .ref x0), (1, .int x1), (4, .int x4), (5, .int x5)]) hx hb dL_sum_161 hl (k := 5) rfl rfl (by decide) rfl (fun ls hl => ?_)
    refine lv_goto (tgt := 134) hx hb dL_sum_164 (by decide) ?_
    cases h
    exact hy3.1 _ rfl _ _ _ hM hS (lv_sub hl [2, 3, 4, 5, 1, 0] rfl)
noncomputable def fj_L_sum_131 (x0 : Nat) (x1 : Int32) (x2 : Int64) (x4 : Int32) (x5 : Int32) (M : Mem) : Option ((Int64 × Int32 × Mem) ⊕ ((Int64 × Int32 × Mem) ⊕ (Int64 × Mem))) :=
  fj_L_sum_134 x0 x1 x4 x5 x2 0 M
set_option maxHeartbeats 4000000 in
set_option maxRecDepth 100000 in
theorem tj_L_sum_131 {p : Program} {l : Launch} {e : Env} {s : State} {m : MethodId} {args : Array Value} {below : List Frame} {meth : Method} {c : Code} {E : KEnv} {H : Heap} {locs : List Loc} {ls : Array Slot} {x0 : Nat} {x1 : Int32} {x2 : Int64} {x4 : Int32} {x5 : Int32} {y1 : ((Int64 × Int32 × Mem) ⊕ (Int64 × Mem))} {y2 : ((Int64 × Int32 × Mem) ⊕ ((Int64 × Int32 × Mem) ⊕ (Int64 × Mem)))} {M : Mem} {v : Int64} {M' : Mem} (hC : CallFix p m c cL_sum 7 s args lw_G RL) (hr : meth.sig.returnType = (some .long)) (hlocks : meth.locks = false) (hE : EnvOK E s) (hy1 : (∀ q : (Int64 × Int32 × Mem), y1 = .inl q → ∀ (H : Heap) (locs : List Loc) (ls : Array Slot), MOK E (q.2.2) H → va_S (eA E) s.heap H locs → lv_has ls 7 [(0, .ref x0), (1, .int x1), (2, .long q.1), (4, .int q.2.1)] → W p l e rm_L_sum s m args below meth c H locs 0 0 (MQ below (cQ E (some (.long v)) M') args s 0 0 (eA E)) (F0 m 14 ls [])) ∧ ∀ z, y1 = .inr z → z = (v, M')) (hy2 : (∀ q : (Int64 × Int32 × Mem), y2 = .inl q → ∀ (H : Heap) (locs : List Loc) (ls : Array Slot), MOK E (q.2.2) H → va_S (eA E) s.heap H locs → lv_has ls 7 [(0, .ref x0), (1, .int x1), (4, .int x4), (2, .long q.1), (5, .int q.2.1)] → W p l e rm_L_sum s m args below meth c H locs 0 0 (MQ below (cQ E (some (.long v)) M') args s 0 0 (eA E)) (F0 m 23 ls [])) ∧ ∀ z, y2 = .inr z → z = y1) (h : fj_L_sum_131 x0 x1 x2 x4 x5 M = some y2) (hM : MOK E M H) (hS : va_S (eA E) s.heap H locs) (hl : lv_has ls 7 [(0, .ref x0), (1, .int x1), (2, .long x2), (4, .int x4), (5, .int x5)]) : W p l e rm_L_sum s m args below meth c H locs 0 0 (MQ below (cQ E (some (.long v)) M') args s 0 0 (eA E)) (F0 m 131 ls []) := by
  obtain ⟨hx, hb, hml, hown, hts⟩ := id hC
  unfold fj_L_sum_131 at h
  refine lv_iconst (v := 0) hx hb dL_sum_131 (by decide) ?_
  refine lv_istore (lv' := [(6, .int 0), (0, .ref x0), (1, .int x1), (2, .long x2), (4, .int x4), (5, .int x5)]) hx hb dL_sum_132 hl (by decide) rfl (fun ls hl => ?_)
  refine W.widen (k := 0) (n := 0) (Nat.le_of_ble_eq_true rfl) (Nat.le_of_ble_eq_true rfl) ?_
  exact tj_L_sum_134  hC hr hlocks hE hy1 hy2  h hM hS (lv_sub hl [1, 2, 4, 5, 3, 0] rfl)
noncomputable def fc_L_sum_100 (x0 : Nat) (x1 : Int32) (x4 : Int32) (x5 : Int32) (x2 : Int64) (x6 : Int32) (M : Mem) : Option ((Int64 × Int32 × Mem) ⊕ ((Int64 × Int32 × Mem) ⊕ ((Int64 × Int32 × Mem) ⊕ (Int64 × Mem)))) :=
  (if (16 : Int32) ≤ x6 then
  (fj_L_sum_131 x0 x1 x2 x4 x5 M).map Sum.inr
  else
  bq (cK 5 x0 M (f_X4_tagDot x0 x4 x6 x5 M)) fun v19 M20 =>
  some (.inl ((31 * x2) + v19.toInt64, x6 + 1, M20)))
noncomputable def fj_L_sum_100 (x0 : Nat) (x1 : Int32) (x4 : Int32) (x5 : Int32) (x2 : Int64) (x6 : Int32) (M : Mem) : Option ((Int64 × Int32 × Mem) ⊕ ((Int64 × Int32 × Mem) ⊕ (Int64 × Mem))) := loopM (fun q : (Int64 × Int32 × Mem) => fc_L_sum_100 x0 x1 x4 x5 q.1 q.2.1 q.2.2) FU (x2, x6, M)
set_option maxHeartbeats 4000000 in
set_option maxRecDepth 100000 in
theorem tj_L_sum_100 {p : Program} {l : Launch} {e : Env} {s : State} {m : MethodId} {args : Array Value} {below : List Frame} {meth : Method} {c : Code} {E : KEnv} {H : Heap} {locs : List Loc} {ls : Array Slot} {x0 : Nat} {x1 : Int32} {x4 : Int32} {x5 : Int32} {x2 : Int64} {x6 : Int32} {y1 : ((Int64 × Int32 × Mem) ⊕ (Int64 × Mem))} {y2 : ((Int64 × Int32 × Mem) ⊕ ((Int64 × Int32 × Mem) ⊕ (Int64 × Mem)))} {M : Mem} {v : Int64} {M' : Mem} (hC : CallFix p m c cL_sum 7 s args lw_G RL) (hr : meth.sig.returnType = (some .long)) (hlocks : meth.locks = false) (hE : EnvOK E s) (hy1 : (∀ q : (Int64 × Int32 × Mem), y1 = .inl q → ∀ (H : Heap) (locs : List Loc) (ls : Array Slot), MOK E (q.2.2) H → va_S (eA E) s.heap H locs → lv_has ls 7 [(0, .ref x0), (1, .int x1), (2, .long q.1), (4, .int q.2.1)] → W p l e rm_L_sum s m args below meth c H locs 0 0 (MQ below (cQ E (some (.long v)) M') args s 0 0 (eA E)) (F0 m 14 ls [])) ∧ ∀ z, y1 = .inr z → z = (v, M')) (hy2 : (∀ q : (Int64 × Int32 × Mem), y2 = .inl q → ∀ (H : Heap) (locs : List Loc) (ls : Array Slot), MOK E (q.2.2) H → va_S (eA E) s.heap H locs → lv_has ls 7 [(0, .ref x0), (1, .int x1), (4, .int x4), (2, .long q.1), (5, .int q.2.1)] → W p l e rm_L_sum s m args below meth c H locs 0 0 (MQ below (cQ E (some (.long v)) M') args s 0 0 (eA E)) (F0 m 23 ls [])) ∧ ∀ z, y2 = .inr z → z = y1) (h : fj_L_sum_100 x0 x1 x4 x5 x2 x6 M = some y2) (hM : MOK E M H) (hS : va_S (eA E) s.heap H locs) (hl : lv_has ls 7 [(0, .ref x0), (1, .int x1), (4, .int x4), (5, .int x5), (2, .long x2), (6, .int x6)]) : W p l e rm_L_sum s m args below meth c H locs 0 0 (MQ below (cQ E (some (.long v)) M') args s 0 0 (eA E)) (F0 m 100 ls []) := by
  refine loopM_ind (body := fun q : (Int64 × Int32 × Mem) => fc_L_sum_100 x0 x1 x4 x5 q.1 q.2.1 q.2.2) (x0 := y2) (Wd := fun q : (Int64 × Int32 × Mem) => ∀ (H : Heap) (locs : List Loc) (ls : Array Slot), MOK E (q.2.2) H → va_S (eA E) s.heap H locs → lv_has ls 7 [(0, .ref x0), (1, .int x1), (4, .int x4), (5, .int x5), (2, .long q.1), (6, .int q.2.1)] → W p l e rm_L_sum s m args below meth c H locs 0 0 (MQ below (cQ E (some (.long v)) M') args s 0 0 (eA E)) (F0 m 100 ls [])) ?_ FU (x2, x6, M) h H locs ls hM hS hl
  clear h hM hS hl H locs ls M x2 x6
  obtain ⟨hx, hb, hml, hown, hts⟩ := id hC
  intro q y3 h hy3 H locs ls hM hS hl
  obtain ⟨x2, x6, M⟩ := q
  have h : fc_L_sum_100 x0 x1 x4 x5 x2 x6 M = some y3 := h
  have hM : MOK E M H := hM
  have hl : lv_has ls 7 [(0, .ref x0), (1, .int x1), (4, .int x4), (5, .int x5), (2, .long x2), (6, .int x6)] := hl
  unfold fc_L_sum_100 at h
  show W p l e rm_L_sum s m args below meth c H locs _ _ _ _
  refine lv_iload hx hb dL_sum_100 (lv_at hl 5 rfl) ?_
  refine lv_bipush (v := 16) hx hb dL_sum_102 (by decide) ?_
  refine lv_icmp_ge (tgt := 131) hx hb dL_sum_104 (by decide) (fun c1 => ?_) (fun c1 => ?_)
  · have h := ifp c1 h
    obtain ⟨z0, h9, rfl⟩ := om h
    have e0 := hy3.2 _ rfl
    subst e0
    have h := h9
    refine W.widen (k := 0) (n := 0) (Nat.le_of_ble_eq_true rfl) (Nat.le_of_ble_eq_true rfl) ?_
    exact tj_L_sum_131  hC hr hlocks hE hy1 hy2  h hM hS (lv_sub hl [0, 1, 4, 2, 3] rfl)
  · have h := ifn c1 h
    refine lv_ldc2 (v := 31) hx hb hown (hts _ qw_993) dL_sum_107 ?_
    refine lv_lload_n hx hb dL_sum_110 rfl (lv_at hl 4 rfl) ?_
    refine lv_lmul hx hb dL_sum_111 ?_
    refine lv_aload_n hx hb dL_sum_112 rfl (lv_at hl 0 rfl) ?_
    refine lv_iload hx hb dL_sum_113 (lv_at hl 2 rfl) ?_
    refine lv_iload hx hb dL_sum_115 (lv_at hl 5 rfl) ?_
    refine lv_iload hx hb dL_sum_117 (lv_at hl 3 rfl) ?_
    obtain ⟨v19, M20, h1, h⟩ := obq h
    obtain ⟨hk1, h1⟩ := ifg h1
    refine kV1 (ci := 4) (As := [.int x4, .int x6, .int x5]) (rest := [.long (31 * x2)]) hC hE hS hM (mq_X4_tagDot _ E x0 x4 x6 x5 _ _ _ h1) (gwV qw_1015 qw_1016 qw_1017 qw_39 qw_1018) ⟨rfl, rfl, (Nat.le_of_ble_eq_true rfl), (Nat.le_of_ble_eq_true rfl)⟩ dd_X4_tagDot rfl hk1 rfl rfl hl.1 (Nat.le_of_ble_eq_true rfl) dL_sum_119 ⟨(Nat.le_of_ble_eq_true rfl), (Nat.le_of_ble_eq_true rfl)⟩ (fun H locs hM hS => ?_)
    refine lv_i2l (v := v19.toInt64) hx hb dL_sum_122 rfl ?_
    refine lv_ladd hx hb dL_sum_123 ?_
    refine lv_lstore_n (lv' := [(2, .long ((31 * x2) + v19.toInt64)), (0, .ref x0), (1, .int x1), (4, .int x4), (5, .int x5), (6, .int x6)]) hx hb dL_sum_124 rfl hl (by decide) rfl (fun ls hl => ?_)
    refine lv_iinc (v := x6 + 1) (lv' := [(6, .int (x6 + 1)), (2, .long ((31 * x2) + v19.toInt64)), (0, .ref x0), (1, .int x1), (4, .int x4), (5, .int x5)]) hx hb dL_sum_125 hl (k := 5) rfl rfl (by decide) rfl (fun ls hl => ?_)
    refine lv_goto (tgt := 100) hx hb dL_sum_128 (by decide) ?_
    cases h
    exact hy3.1 _ rfl _ _ _ hM hS (lv_sub hl [2, 3, 4, 5, 1, 0] rfl)
noncomputable def fj_L_sum_97 (x0 : Nat) (x1 : Int32) (x2 : Int64) (x4 : Int32) (x5 : Int32) (M : Mem) : Option ((Int64 × Int32 × Mem) ⊕ ((Int64 × Int32 × Mem) ⊕ (Int64 × Mem))) :=
  fj_L_sum_100 x0 x1 x4 x5 x2 0 M
set_option maxHeartbeats 4000000 in
set_option maxRecDepth 100000 in
theorem tj_L_sum_97 {p : Program} {l : Launch} {e : Env} {s : State} {m : MethodId} {args : Array Value} {below : List Frame} {meth : Method} {c : Code} {E : KEnv} {H : Heap} {locs : List Loc} {ls : Array Slot} {x0 : Nat} {x1 : Int32} {x2 : Int64} {x4 : Int32} {x5 : Int32} {y1 : ((Int64 × Int32 × Mem) ⊕ (Int64 × Mem))} {y2 : ((Int64 × Int32 × Mem) ⊕ ((Int64 × Int32 × Mem) ⊕ (Int64 × Mem)))} {M : Mem} {v : Int64} {M' : Mem} (hC : CallFix p m c cL_sum 7 s args lw_G RL) (hr : meth.sig.returnType = (some .long)) (hlocks : meth.locks = false) (hE : EnvOK E s) (hy1 : (∀ q : (Int64 × Int32 × Mem), y1 = .inl q → ∀ (H : Heap) (locs : List Loc) (ls : Array Slot), MOK E (q.2.2) H → va_S (eA E) s.heap H locs → lv_has ls 7 [(0, .ref x0), (1, .int x1), (2, .long q.1), (4, .int q.2.1)] → W p l e rm_L_sum s m args below meth c H locs 0 0 (MQ below (cQ E (some (.long v)) M') args s 0 0 (eA E)) (F0 m 14 ls [])) ∧ ∀ z, y1 = .inr z → z = (v, M')) (hy2 : (∀ q : (Int64 × Int32 × Mem), y2 = .inl q → ∀ (H : Heap) (locs : List Loc) (ls : Array Slot), MOK E (q.2.2) H → va_S (eA E) s.heap H locs → lv_has ls 7 [(0, .ref x0), (1, .int x1), (4, .int x4), (2, .long q.1), (5, .int q.2.1)] → W p l e rm_L_sum s m args below meth c H locs 0 0 (MQ below (cQ E (some (.long v)) M') args s 0 0 (eA E)) (F0 m 23 ls [])) ∧ ∀ z, y2 = .inr z → z = y1) (h : fj_L_sum_97 x0 x1 x2 x4 x5 M = some y2) (hM : MOK E M H) (hS : va_S (eA E) s.heap H locs) (hl : lv_has ls 7 [(0, .ref x0), (1, .int x1), (2, .long x2), (4, .int x4), (5, .int x5)]) : W p l e rm_L_sum s m args below meth c H locs 0 0 (MQ below (cQ E (some (.long v)) M') args s 0 0 (eA E)) (F0 m 97 ls []) := by
  obtain ⟨hx, hb, hml, hown, hts⟩ := id hC
  unfold fj_L_sum_97 at h
  refine lv_iconst (v := 0) hx hb dL_sum_97 (by decide) ?_
  refine lv_istore (lv' := [(6, .int 0), (0, .ref x0), (1, .int x1), (2, .long x2), (4, .int x4), (5, .int x5)]) hx hb dL_sum_98 hl (by decide) rfl (fun ls hl => ?_)
  refine W.widen (k := 0) (n := 0) (Nat.le_of_ble_eq_true rfl) (Nat.le_of_ble_eq_true rfl) ?_
  exact tj_L_sum_100  hC hr hlocks hE hy1 hy2  h hM hS (lv_sub hl [1, 2, 4, 5, 3, 0] rfl)
noncomputable def fc_L_sum_48 (x0 : Nat) (x1 : Int32) (x4 : Int32) (x5 : Int32) (x2 : Int64) (x6 : Int32) (M : Mem) : Option ((Int64 × Int32 × Mem) ⊕ ((Int64 × Int32 × Mem) ⊕ ((Int64 × Int32 × Mem) ⊕ (Int64 × Mem)))) :=
  bn (cK 5 x0 M (f_X4_counterCount x0 M)) fun v13 M14 =>
  (if v13 ≤ x6 then
  (fj_L_sum_97 x0 x1 x2 x4 x5 M14).map Sum.inr
  else
  bq (cK 5 x0 M14 (f_X4_increments x0 x4 x6 x5 M14)) fun v21 M22 =>
  bq (cK 5 x0 M22 (f_X4_decrements x0 x4 x6 x5 M22)) fun v23 M24 =>
  some (.inl ((31 * ((31 * x2) + v21.toInt64)) + v23.toInt64, x6 + 1, M24)))
noncomputable def fj_L_sum_48 (x0 : Nat) (x1 : Int32) (x4 : Int32) (x5 : Int32) (x2 : Int64) (x6 : Int32) (M : Mem) : Option ((Int64 × Int32 × Mem) ⊕ ((Int64 × Int32 × Mem) ⊕ (Int64 × Mem))) := loopM (fun q : (Int64 × Int32 × Mem) => fc_L_sum_48 x0 x1 x4 x5 q.1 q.2.1 q.2.2) FU (x2, x6, M)
set_option maxHeartbeats 4000000 in
set_option maxRecDepth 100000 in
theorem tj_L_sum_48 {p : Program} {l : Launch} {e : Env} {s : State} {m : MethodId} {args : Array Value} {below : List Frame} {meth : Method} {c : Code} {E : KEnv} {H : Heap} {locs : List Loc} {ls : Array Slot} {x0 : Nat} {x1 : Int32} {x4 : Int32} {x5 : Int32} {x2 : Int64} {x6 : Int32} {y1 : ((Int64 × Int32 × Mem) ⊕ (Int64 × Mem))} {y2 : ((Int64 × Int32 × Mem) ⊕ ((Int64 × Int32 × Mem) ⊕ (Int64 × Mem)))} {M : Mem} {v : Int64} {M' : Mem} (hC : CallFix p m c cL_sum 7 s args lw_G RL) (hr : meth.sig.returnType = (some .long)) (hlocks : meth.locks = false) (hE : EnvOK E s) (hy1 : (∀ q : (Int64 × Int32 × Mem), y1 = .inl q → ∀ (H : Heap) (locs : List Loc) (ls : Array Slot), MOK E (q.2.2) H → va_S (eA E) s.heap H locs → lv_has ls 7 [(0, .ref x0), (1, .int x1), (2, .long q.1), (4, .int q.2.1)] → W p l e rm_L_sum s m args below meth c H locs 0 0 (MQ below (cQ E (some (.long v)) M') args s 0 0 (eA E)) (F0 m 14 ls [])) ∧ ∀ z, y1 = .inr z → z = (v, M')) (hy2 : (∀ q : (Int64 × Int32 × Mem), y2 = .inl q → ∀ (H : Heap) (locs : List Loc) (ls : Array Slot), MOK E (q.2.2) H → va_S (eA E) s.heap H locs → lv_has ls 7 [(0, .ref x0), (1, .int x1), (4, .int x4), (2, .long q.1), (5, .int q.2.1)] → W p l e rm_L_sum s m args below meth c H locs 0 0 (MQ below (cQ E (some (.long v)) M') args s 0 0 (eA E)) (F0 m 23 ls [])) ∧ ∀ z, y2 = .inr z → z = y1) (h : fj_L_sum_48 x0 x1 x4 x5 x2 x6 M = some y2) (hM : MOK E M H) (hS : va_S (eA E) s.heap H locs) (hl : lv_has ls 7 [(0, .ref x0), (1, .int x1), (4, .int x4), (5, .int x5), (2, .long x2), (6, .int x6)]) : W p l e rm_L_sum s m args below meth c H locs 0 0 (MQ below (cQ E (some (.long v)) M') args s 0 0 (eA E)) (F0 m 48 ls []) := by
  refine loopM_ind (body := fun q : (Int64 × Int32 × Mem) => fc_L_sum_48 x0 x1 x4 x5 q.1 q.2.1 q.2.2) (x0 := y2) (Wd := fun q : (Int64 × Int32 × Mem) => ∀ (H : Heap) (locs : List Loc) (ls : Array Slot), MOK E (q.2.2) H → va_S (eA E) s.heap H locs → lv_has ls 7 [(0, .ref x0), (1, .int x1), (4, .int x4), (5, .int x5), (2, .long q.1), (6, .int q.2.1)] → W p l e rm_L_sum s m args below meth c H locs 0 0 (MQ below (cQ E (some (.long v)) M') args s 0 0 (eA E)) (F0 m 48 ls [])) ?_ FU (x2, x6, M) h H locs ls hM hS hl
  clear h hM hS hl H locs ls M x2 x6
  obtain ⟨hx, hb, hml, hown, hts⟩ := id hC
  intro q y3 h hy3 H locs ls hM hS hl
  obtain ⟨x2, x6, M⟩ := q
  have h : fc_L_sum_48 x0 x1 x4 x5 x2 x6 M = some y3 := h
  have hM : MOK E M H := hM
  have hl : lv_has ls 7 [(0, .ref x0), (1, .int x1), (4, .int x4), (5, .int x5), (2, .long x2), (6, .int x6)] := hl
  unfold fc_L_sum_48 at h
  show W p l e rm_L_sum s m args below meth c H locs _ _ _ _
  refine lv_iload hx hb dL_sum_48 (lv_at hl 5 rfl) ?_
  refine lv_aload_n hx hb dL_sum_50 rfl (lv_at hl 0 rfl) ?_
  obtain ⟨v13, M14, h1, h⟩ := ob2 h
  obtain ⟨hk1, h1⟩ := ifg h1
  refine kV1 (ci := 4) (As := []) (rest := [.int x6]) hC hE hS hM (mt_X4_counterCount _ E x0 _ _ _ h1) (gwV qw_998 qw_999 qw_1000 qw_39 qw_1001) ⟨rfl, rfl, (Nat.le_of_ble_eq_true rfl), (Nat.le_of_ble_eq_true rfl)⟩ dd_X4_counterCount rfl hk1 rfl rfl hl.1 (Nat.le_of_ble_eq_true rfl) dL_sum_51 ⟨(Nat.le_of_ble_eq_true rfl), (Nat.le_of_ble_eq_true rfl)⟩ (fun H locs hM hS => ?_)
  refine lv_icmp_ge (tgt := 97) hx hb dL_sum_54 (by decide) (fun c1 => ?_) (fun c1 => ?_)
  · have h := ifp c1 h
    obtain ⟨z0, h9, rfl⟩ := om h
    have e0 := hy3.2 _ rfl
    subst e0
    have h := h9
    refine W.widen (k := 0) (n := 0) (Nat.le_of_ble_eq_true rfl) (Nat.le_of_ble_eq_true rfl) ?_
    exact tj_L_sum_97  hC hr hlocks hE hy1 hy2  h hM hS (lv_sub hl [0, 1, 4, 2, 3] rfl)
  · have h := ifn c1 h
    refine lv_ldc2 (v := 31) hx hb hown (hts _ qw_993) dL_sum_57 ?_
    refine lv_ldc2 (v := 31) hx hb hown (hts _ qw_993) dL_sum_60 ?_
    refine lv_lload_n hx hb dL_sum_63 rfl (lv_at hl 4 rfl) ?_
    refine lv_lmul hx hb dL_sum_64 ?_
    refine lv_aload_n hx hb dL_sum_65 rfl (lv_at hl 0 rfl) ?_
    refine lv_iload hx hb dL_sum_66 (lv_at hl 2 rfl) ?_
    refine lv_iload hx hb dL_sum_68 (lv_at hl 5 rfl) ?_
    refine lv_iload hx hb dL_sum_70 (lv_at hl 3 rfl) ?_
    obtain ⟨v21, M22, h1, h⟩ := obq h
    obtain ⟨hk1, h1⟩ := ifg h1
    refine kV1 (ci := 4) (As := [.int x4, .int x6, .int x5]) (rest := [.long (31 * x2), .long 31]) hC hE hS hM (mq_X4_increments _ E x0 x4 x6 x5 _ _ _ h1) (gwV qw_1002 qw_1003 qw_1004 qw_39 qw_1005) ⟨rfl, rfl, (Nat.le_of_ble_eq_true rfl), (Nat.le_of_ble_eq_true rfl)⟩ dd_X4_increments rfl hk1 rfl rfl hl.1 (Nat.le_of_ble_eq_true rfl) dL_sum_72 ⟨(Nat.le_of_ble_eq_true rfl), (Nat.le_of_ble_eq_true rfl)⟩ (fun H locs hM hS => ?_)
    refine lv_i2l (v := v21.toInt64) hx hb dL_sum_75 rfl ?_
    refine lv_ladd hx hb dL_sum_76 ?_
    refine lv_lmul hx hb dL_sum_77 ?_
    refine lv_aload_n hx hb dL_sum_78 rfl (lv_at hl 0 rfl) ?_
    refine lv_iload hx hb dL_sum_79 (lv_at hl 2 rfl) ?_
    refine lv_iload hx hb dL_sum_81 (lv_at hl 5 rfl) ?_
    refine lv_iload hx hb dL_sum_83 (lv_at hl 3 rfl) ?_
    obtain ⟨v23, M24, h1, h⟩ := obq h
    obtain ⟨hk1, h1⟩ := ifg h1
    refine kV1 (ci := 4) (As := [.int x4, .int x6, .int x5]) (rest := [.long (31 * ((31 * x2) + v21.toInt64))]) hC hE hS hM (mq_X4_decrements _ E x0 x4 x6 x5 _ _ _ h1) (gwV qw_1011 qw_1012 qw_1013 qw_39 qw_1014) ⟨rfl, rfl, (Nat.le_of_ble_eq_true rfl), (Nat.le_of_ble_eq_true rfl)⟩ dd_X4_decrements rfl hk1 rfl rfl hl.1 (Nat.le_of_ble_eq_true rfl) dL_sum_85 ⟨(Nat.le_of_ble_eq_true rfl), (Nat.le_of_ble_eq_true rfl)⟩ (fun H locs hM hS => ?_)
    refine lv_i2l (v := v23.toInt64) hx hb dL_sum_88 rfl ?_
    refine lv_ladd hx hb dL_sum_89 ?_
    refine lv_lstore_n (lv' := [(2, .long ((31 * ((31 * x2) + v21.toInt64)) + v23.toInt64)), (0, .ref x0), (1, .int x1), (4, .int x4), (5, .int x5), (6, .int x6)]) hx hb dL_sum_90 rfl hl (by decide) rfl (fun ls hl => ?_)
    refine lv_iinc (v := x6 + 1) (lv' := [(6, .int (x6 + 1)), (2, .long ((31 * ((31 * x2) + v21.toInt64)) + v23.toInt64)), (0, .ref x0), (1, .int x1), (4, .int x4), (5, .int x5)]) hx hb dL_sum_91 hl (k := 5) rfl rfl (by decide) rfl (fun ls hl => ?_)
    refine lv_goto (tgt := 48) hx hb dL_sum_94 (by decide) ?_
    cases h
    exact hy3.1 _ rfl _ _ _ hM hS (lv_sub hl [2, 3, 4, 5, 1, 0] rfl)
noncomputable def fc_L_sum_23 (x0 : Nat) (x1 : Int32) (x4 : Int32) (x2 : Int64) (x5 : Int32) (M : Mem) : Option ((Int64 × Int32 × Mem) ⊕ ((Int64 × Int32 × Mem) ⊕ (Int64 × Mem))) :=
  (if x1 ≤ x5 then
  (fj_L_sum_173 x0 x1 x2 x4 M).map Sum.inr
  else
  bq (cK 5 x0 M (f_X4_versionEntry x0 x4 x5 M)) fun v11 M12 =>
  fj_L_sum_48 x0 x1 x4 x5 ((31 * x2) + v11.toInt64) 0 M12)
noncomputable def fj_L_sum_23 (x0 : Nat) (x1 : Int32) (x4 : Int32) (x2 : Int64) (x5 : Int32) (M : Mem) : Option ((Int64 × Int32 × Mem) ⊕ (Int64 × Mem)) := loopM (fun q : (Int64 × Int32 × Mem) => fc_L_sum_23 x0 x1 x4 q.1 q.2.1 q.2.2) FU (x2, x5, M)
set_option maxHeartbeats 4000000 in
set_option maxRecDepth 100000 in
theorem tj_L_sum_23 {p : Program} {l : Launch} {e : Env} {s : State} {m : MethodId} {args : Array Value} {below : List Frame} {meth : Method} {c : Code} {E : KEnv} {H : Heap} {locs : List Loc} {ls : Array Slot} {x0 : Nat} {x1 : Int32} {x4 : Int32} {x2 : Int64} {x5 : Int32} {y1 : ((Int64 × Int32 × Mem) ⊕ (Int64 × Mem))} {M : Mem} {v : Int64} {M' : Mem} (hC : CallFix p m c cL_sum 7 s args lw_G RL) (hr : meth.sig.returnType = (some .long)) (hlocks : meth.locks = false) (hE : EnvOK E s) (hy1 : (∀ q : (Int64 × Int32 × Mem), y1 = .inl q → ∀ (H : Heap) (locs : List Loc) (ls : Array Slot), MOK E (q.2.2) H → va_S (eA E) s.heap H locs → lv_has ls 7 [(0, .ref x0), (1, .int x1), (2, .long q.1), (4, .int q.2.1)] → W p l e rm_L_sum s m args below meth c H locs 0 0 (MQ below (cQ E (some (.long v)) M') args s 0 0 (eA E)) (F0 m 14 ls [])) ∧ ∀ z, y1 = .inr z → z = (v, M')) (h : fj_L_sum_23 x0 x1 x4 x2 x5 M = some y1) (hM : MOK E M H) (hS : va_S (eA E) s.heap H locs) (hl : lv_has ls 7 [(0, .ref x0), (1, .int x1), (4, .int x4), (2, .long x2), (5, .int x5)]) : W p l e rm_L_sum s m args below meth c H locs 0 0 (MQ below (cQ E (some (.long v)) M') args s 0 0 (eA E)) (F0 m 23 ls []) := by
  refine loopM_ind (body := fun q : (Int64 × Int32 × Mem) => fc_L_sum_23 x0 x1 x4 q.1 q.2.1 q.2.2) (x0 := y1) (Wd := fun q : (Int64 × Int32 × Mem) => ∀ (H : Heap) (locs : List Loc) (ls : Array Slot), MOK E (q.2.2) H → va_S (eA E) s.heap H locs → lv_has ls 7 [(0, .ref x0), (1, .int x1), (4, .int x4), (2, .long q.1), (5, .int q.2.1)] → W p l e rm_L_sum s m args below meth c H locs 0 0 (MQ below (cQ E (some (.long v)) M') args s 0 0 (eA E)) (F0 m 23 ls [])) ?_ FU (x2, x5, M) h H locs ls hM hS hl
  clear h hM hS hl H locs ls M x2 x5
  obtain ⟨hx, hb, hml, hown, hts⟩ := id hC
  intro q y2 h hy2 H locs ls hM hS hl
  obtain ⟨x2, x5, M⟩ := q
  have h : fc_L_sum_23 x0 x1 x4 x2 x5 M = some y2 := h
  have hM : MOK E M H := hM
  have hl : lv_has ls 7 [(0, .ref x0), (1, .int x1), (4, .int x4), (2, .long x2), (5, .int x5)] := hl
  unfold fc_L_sum_23 at h
  show W p l e rm_L_sum s m args below meth c H locs _ _ _ _
  refine lv_iload hx hb dL_sum_23 (lv_at hl 4 rfl) ?_
  refine lv_iload_n hx hb dL_sum_25 rfl (lv_at hl 1 rfl) ?_
  refine lv_icmp_ge (tgt := 173) hx hb dL_sum_26 (by decide) (fun c1 => ?_) (fun c1 => ?_)
  · have h := ifp c1 h
    obtain ⟨z0, h9, rfl⟩ := om h
    have e0 := hy2.2 _ rfl
    subst e0
    have h := h9
    refine W.widen (k := 0) (n := 0) (Nat.le_of_ble_eq_true rfl) (Nat.le_of_ble_eq_true rfl) ?_
    exact tj_L_sum_173  hC hr hlocks hE hy1  h hM hS (lv_sub hl [0, 1, 3, 2] rfl)
  · have h := ifn c1 h
    refine lv_ldc2 (v := 31) hx hb hown (hts _ qw_993) dL_sum_29 ?_
    refine lv_lload_n hx hb dL_sum_32 rfl (lv_at hl 3 rfl) ?_
    refine lv_lmul hx hb dL_sum_33 ?_
    refine lv_aload_n hx hb dL_sum_34 rfl (lv_at hl 0 rfl) ?_
    refine lv_iload hx hb dL_sum_35 (lv_at hl 2 rfl) ?_
    refine lv_iload hx hb dL_sum_37 (lv_at hl 4 rfl) ?_
    obtain ⟨v11, M12, h1, h⟩ := obq h
    obtain ⟨hk1, h1⟩ := ifg h1
    refine kV1 (ci := 4) (As := [.int x4, .int x5]) (rest := [.long (31 * x2)]) hC hE hS hM (mq_X4_versionEntry _ E x0 x4 x5 _ _ _ h1) (gwV qw_994 qw_995 qw_996 qw_39 qw_997) ⟨rfl, rfl, (Nat.le_of_ble_eq_true rfl), (Nat.le_of_ble_eq_true rfl)⟩ dd_X4_versionEntry rfl hk1 rfl rfl hl.1 (Nat.le_of_ble_eq_true rfl) dL_sum_39 ⟨(Nat.le_of_ble_eq_true rfl), (Nat.le_of_ble_eq_true rfl)⟩ (fun H locs hM hS => ?_)
    refine lv_i2l (v := v11.toInt64) hx hb dL_sum_42 rfl ?_
    refine lv_ladd hx hb dL_sum_43 ?_
    refine lv_lstore_n (lv' := [(2, .long ((31 * x2) + v11.toInt64)), (0, .ref x0), (1, .int x1), (4, .int x4), (5, .int x5)]) hx hb dL_sum_44 rfl hl (by decide) rfl (fun ls hl => ?_)
    refine lv_iconst (v := 0) hx hb dL_sum_45 (by decide) ?_
    refine lv_istore (lv' := [(6, .int 0), (2, .long ((31 * x2) + v11.toInt64)), (0, .ref x0), (1, .int x1), (4, .int x4), (5, .int x5)]) hx hb dL_sum_46 hl (by decide) rfl (fun ls hl => ?_)
    refine W.widen (k := 0) (n := 0) (Nat.le_of_ble_eq_true rfl) (Nat.le_of_ble_eq_true rfl) ?_
    exact tj_L_sum_48  hC hr hlocks hE hy1 hy2  h hM hS (lv_sub hl [2, 3, 4, 5, 1, 0] rfl)
noncomputable def fc_L_sum_14 (x0 : Nat) (x1 : Int32) (x2 : Int64) (x4 : Int32) (M : Mem) : Option ((Int64 × Int32 × Mem) ⊕ (Int64 × Mem)) :=
  (if x1 ≤ x4 then
  (fj_L_sum_179 x0 x1 x2 M).map Sum.inr
  else
  fj_L_sum_23 x0 x1 x4 x2 0 M)
noncomputable def fj_L_sum_14 (x0 : Nat) (x1 : Int32) (x2 : Int64) (x4 : Int32) (M : Mem) : Option (Int64 × Mem) := loopM (fun q : (Int64 × Int32 × Mem) => fc_L_sum_14 x0 x1 q.1 q.2.1 q.2.2) FU (x2, x4, M)
set_option maxHeartbeats 4000000 in
set_option maxRecDepth 100000 in
theorem tj_L_sum_14 {p : Program} {l : Launch} {e : Env} {s : State} {m : MethodId} {args : Array Value} {below : List Frame} {meth : Method} {c : Code} {E : KEnv} {H : Heap} {locs : List Loc} {ls : Array Slot} {x0 : Nat} {x1 : Int32} {x2 : Int64} {x4 : Int32} {M : Mem} {v : Int64} {M' : Mem} (hC : CallFix p m c cL_sum 7 s args lw_G RL) (hr : meth.sig.returnType = (some .long)) (hlocks : meth.locks = false) (hE : EnvOK E s) (h : fj_L_sum_14 x0 x1 x2 x4 M = some (v, M')) (hM : MOK E M H) (hS : va_S (eA E) s.heap H locs) (hl : lv_has ls 7 [(0, .ref x0), (1, .int x1), (2, .long x2), (4, .int x4)]) : W p l e rm_L_sum s m args below meth c H locs 0 0 (MQ below (cQ E (some (.long v)) M') args s 0 0 (eA E)) (F0 m 14 ls []) := by
  refine loopM_ind (body := fun q : (Int64 × Int32 × Mem) => fc_L_sum_14 x0 x1 q.1 q.2.1 q.2.2) (x0 := (v, M')) (Wd := fun q : (Int64 × Int32 × Mem) => ∀ (H : Heap) (locs : List Loc) (ls : Array Slot), MOK E (q.2.2) H → va_S (eA E) s.heap H locs → lv_has ls 7 [(0, .ref x0), (1, .int x1), (2, .long q.1), (4, .int q.2.1)] → W p l e rm_L_sum s m args below meth c H locs 0 0 (MQ below (cQ E (some (.long v)) M') args s 0 0 (eA E)) (F0 m 14 ls [])) ?_ FU (x2, x4, M) h H locs ls hM hS hl
  clear h hM hS hl H locs ls M x2 x4
  obtain ⟨hx, hb, hml, hown, hts⟩ := id hC
  intro q y1 h hy1 H locs ls hM hS hl
  obtain ⟨x2, x4, M⟩ := q
  have h : fc_L_sum_14 x0 x1 x2 x4 M = some y1 := h
  have hM : MOK E M H := hM
  have hl : lv_has ls 7 [(0, .ref x0), (1, .int x1), (2, .long x2), (4, .int x4)] := hl
  unfold fc_L_sum_14 at h
  show W p l e rm_L_sum s m args below meth c H locs _ _ _ _
  refine lv_iload hx hb dL_sum_14 (lv_at hl 3 rfl) ?_
  refine lv_iload_n hx hb dL_sum_16 rfl (lv_at hl 1 rfl) ?_
  refine lv_icmp_ge (tgt := 179) hx hb dL_sum_17 (by decide) (fun c1 => ?_) (fun c1 => ?_)
  · have h := ifp c1 h
    obtain ⟨z0, h9, rfl⟩ := om h
    have e0 := hy1.2 _ rfl
    subst e0
    have h := h9
    refine W.widen (k := 0) (n := 0) (Nat.le_of_ble_eq_true rfl) (Nat.le_of_ble_eq_true rfl) ?_
    exact tj_L_sum_179  hC hr hlocks hE  h hM hS (lv_sub hl [0, 1, 2] rfl)
  · have h := ifn c1 h
    refine lv_iconst (v := 0) hx hb dL_sum_20 (by decide) ?_
    refine lv_istore (lv' := [(5, .int 0), (0, .ref x0), (1, .int x1), (2, .long x2), (4, .int x4)]) hx hb dL_sum_21 hl (by decide) rfl (fun ls hl => ?_)
    refine W.widen (k := 0) (n := 0) (Nat.le_of_ble_eq_true rfl) (Nat.le_of_ble_eq_true rfl) ?_
    exact tj_L_sum_23  hC hr hlocks hE hy1  h hM hS (lv_sub hl [1, 2, 4, 3, 0] rfl)
noncomputable def f_L_sum (a1 : Nat) (M : Mem) : Option (Int64 × Mem) :=
  bn (cK 5 a1 M (f_X4_replicaCount a1 M)) fun v1 M2 =>
  bn (cK 5 a1 M2 (f_X4_messageCount a1 M2)) fun v3 M4 =>
  fj_L_sum_14 a1 v1 v3.toInt64 0 M4
set_option maxHeartbeats 4000000 in
set_option maxRecDepth 100000 in
theorem mt_L_sum (l : Launch) (E : KEnv) (a1 : Nat) (M M' : Mem) (v : Int64) (h : f_L_sum a1 M = some (v, M')) : Met l yL_sum (Cond.code yL_sum cL_sum 7 (some .long) :: lw_G) rm_L_sum (cPc E [.ref a1] M) (cQ E (some (.long v)) M') 0 0 (eA E) := by
  refine Met.ofW (cc := cL_sum) (maxL := 7) (ret := (some .long)) (by decide) rfl ?_
  intro p e s m args below meth c s₁ B hml hv
  obtain ⟨rfl, hE, hM⟩ := hv
  have hx := B.exec
  have hb := B.bytes
  have hr := B.returns
  have hts0 := atoms_spec (ws := Cond.code yL_sum cL_sum 7 (some .long) :: lw_G) B.pre
  have hts : ∀ w ∈ lw_G, w.before _ s = true := fun w hw => hts0 w (List.mem_cons_of_mem _ hw)
  have hown : s.vm.findClass RL = some m.cls := findClass_of_methodNamed B.named
  have hlocks := B.notSynchronized
  have hC : CallFix p m c cL_sum 7 s _ lw_G RL := ⟨hx, hb, hml, hown, hts⟩
  have hS : va_S (eA E) s.heap s.heap [] := va_S.rf
  have hl := lv_entry ([.ref a1]) (n := 7) (Nat.le_of_ble_eq_true rfl)
  rw [lg_entry_eq]
  generalize (lg_sl ([.ref a1]) ++ List.replicate (7 - (lg_sl ([.ref a1])).length) Slot.unset).toArray = ls at hl ⊢
  have hl : lv_has ls 7 [(0, .ref a1)] := hl
  unfold f_L_sum at h
  show W p l e rm_L_sum s m _ below meth c s.heap [] 0 0 _ _
  refine lv_aload_n hx hb dL_sum_0 rfl (lv_at hl 0 rfl) ?_
  obtain ⟨v1, M2, h1, h⟩ := ob2 h
  obtain ⟨hk1, h1⟩ := ifg h1
  refine kV1 (ci := 4) (As := []) (rest := []) hC hE hS hM (mt_X4_replicaCount _ E a1 _ _ _ h1) (gwV qw_985 qw_986 qw_987 qw_39 qw_988) ⟨rfl, rfl, (Nat.le_of_ble_eq_true rfl), (Nat.le_of_ble_eq_true rfl)⟩ dd_X4_replicaCount rfl hk1 rfl rfl hl.1 (Nat.le_of_ble_eq_true rfl) dL_sum_1 ⟨(Nat.le_of_ble_eq_true rfl), (Nat.le_of_ble_eq_true rfl)⟩ (fun H locs hM hS => ?_)
  refine lv_istore_n (lv' := [(1, .int v1), (0, .ref a1)]) hx hb dL_sum_4 rfl hl (by decide) rfl (fun ls hl => ?_)
  refine lv_aload_n hx hb dL_sum_5 rfl (lv_at hl 1 rfl) ?_
  obtain ⟨v3, M4, h1, h⟩ := ob2 h
  obtain ⟨hk1, h1⟩ := ifg h1
  refine kV1 (ci := 4) (As := []) (rest := []) hC hE hS hM (mt_X4_messageCount _ E a1 _ _ _ h1) (gwV qw_989 qw_990 qw_991 qw_39 qw_992) ⟨rfl, rfl, (Nat.le_of_ble_eq_true rfl), (Nat.le_of_ble_eq_true rfl)⟩ dd_X4_messageCount rfl hk1 rfl rfl hl.1 (Nat.le_of_ble_eq_true rfl) dL_sum_6 ⟨(Nat.le_of_ble_eq_true rfl), (Nat.le_of_ble_eq_true rfl)⟩ (fun H locs hM hS => ?_)
  refine lv_i2l (v := v3.toInt64) hx hb dL_sum_9 rfl ?_
  refine lv_lstore_n (lv' := [(2, .long v3.toInt64), (1, .int v1), (0, .ref a1)]) hx hb dL_sum_10 rfl hl (by decide) rfl (fun ls hl => ?_)
  refine lv_iconst (v := 0) hx hb dL_sum_11 (by decide) ?_
  refine lv_istore (lv' := [(4, .int 0), (2, .long v3.toInt64), (1, .int v1), (0, .ref a1)]) hx hb dL_sum_12 hl (by decide) rfl (fun ls hl => ?_)
  refine W.widen (k := 0) (n := 0) (Nat.le_of_ble_eq_true rfl) (Nat.le_of_ble_eq_true rfl) ?_
  exact tj_L_sum_14  hC hr hlocks hE  h hM hS (lv_sub hl [3, 2, 1, 0] rfl)
