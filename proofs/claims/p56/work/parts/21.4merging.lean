/-! printed by wip/p56/gen2.py: methods as functions over the memory, and that the code does what they say -/
theorem dd_L_merging : yL_merging.cls ≠ "java/lang/invoke/MethodHandle" ∧ yL_merging.cls ≠ "java/lang/invoke/VarHandle" ∧ (parseMethodDescriptor yL_merging.desc).map (fun d => d.parameters.length) = some 3 := by decide +kernel
abbrev rm_L_merging : Room := ({ frames := 10, cells := 52, slots := 2730, locals := 191 } : Room)
noncomputable def fj_L_merging_164 (s0 : Int32) (M : Mem) : Option (Int32 × Mem) :=
  (if s0 = 0 ∨ s0 = 1 then some (s0, M) else none)
set_option maxHeartbeats 4000000 in
set_option maxRecDepth 100000 in
theorem tj_L_merging_164 {p : Program} {l : Launch} {e : Env} {s : State} {m : MethodId} {args : Array Value} {below : List Frame} {meth : Method} {c : Code} {E : KEnv} {H : Heap} {locs : List Loc} {ls : Array Slot} {s0 : Int32} {M : Mem} {v : Int32} {M' : Mem} (hfl : l.stackTraces = false) (hC : CallFix p m c cL_merging 11 s args lw_G RL) (hr : meth.sig.returnType = (some .boolean)) (hlocks : meth.locks = false) (hE : EnvOK E s) (h : fj_L_merging_164 s0 M = some (v, M')) (hM : MOK E M H) (hS : va_S (eA E) s.heap H locs) (hl : lv_has ls 11 []) : W p l e rm_L_merging s m args below meth c H locs 52 2730 (MQ below (cQ E (some (.int v)) M') args s 52 2730 (eA E)) (F0 m 164 ls [.int s0]) := by
  obtain ⟨hx, hb, hml, hown, hts⟩ := id hC
  unfold fj_L_merging_164 at h
  obtain ⟨h01, h⟩ := ifg h
  cases h
  exact eZ hx hb hr hlocks hM hS dL_merging_164 (Nat.le_of_ble_eq_true rfl) (Nat.le_of_ble_eq_true rfl) h01
noncomputable def fj_L_merging_163  (M : Mem) : Option (Int32 × Mem) :=
  fj_L_merging_164 0 M
set_option maxHeartbeats 4000000 in
set_option maxRecDepth 100000 in
theorem tj_L_merging_163 {p : Program} {l : Launch} {e : Env} {s : State} {m : MethodId} {args : Array Value} {below : List Frame} {meth : Method} {c : Code} {E : KEnv} {H : Heap} {locs : List Loc} {ls : Array Slot}  {M : Mem} {v : Int32} {M' : Mem} (hfl : l.stackTraces = false) (hC : CallFix p m c cL_merging 11 s args lw_G RL) (hr : meth.sig.returnType = (some .boolean)) (hlocks : meth.locks = false) (hE : EnvOK E s) (h : fj_L_merging_163  M = some (v, M')) (hM : MOK E M H) (hS : va_S (eA E) s.heap H locs) (hl : lv_has ls 11 []) : W p l e rm_L_merging s m args below meth c H locs 52 2730 (MQ below (cQ E (some (.int v)) M') args s 52 2730 (eA E)) (F0 m 163 ls []) := by
  obtain ⟨hx, hb, hml, hown, hts⟩ := id hC
  unfold fj_L_merging_163 at h
  refine lv_iconst (v := 0) hx hb dL_merging_163 (by decide) ?_
  refine W.widen (k := 52) (n := 2730) (Nat.le_of_ble_eq_true rfl) (Nat.le_of_ble_eq_true rfl) ?_
  exact tj_L_merging_164 hfl hC hr hlocks hE  h hM hS (lv_sub hl [] rfl)
noncomputable def fj_L_merging_159  (M : Mem) : Option (Int32 × Mem) :=
  fj_L_merging_164 1 M
set_option maxHeartbeats 4000000 in
set_option maxRecDepth 100000 in
theorem tj_L_merging_159 {p : Program} {l : Launch} {e : Env} {s : State} {m : MethodId} {args : Array Value} {below : List Frame} {meth : Method} {c : Code} {E : KEnv} {H : Heap} {locs : List Loc} {ls : Array Slot}  {M : Mem} {v : Int32} {M' : Mem} (hfl : l.stackTraces = false) (hC : CallFix p m c cL_merging 11 s args lw_G RL) (hr : meth.sig.returnType = (some .boolean)) (hlocks : meth.locks = false) (hE : EnvOK E s) (h : fj_L_merging_159  M = some (v, M')) (hM : MOK E M H) (hS : va_S (eA E) s.heap H locs) (hl : lv_has ls 11 []) : W p l e rm_L_merging s m args below meth c H locs 52 2730 (MQ below (cQ E (some (.int v)) M') args s 52 2730 (eA E)) (F0 m 159 ls []) := by
  obtain ⟨hx, hb, hml, hown, hts⟩ := id hC
  unfold fj_L_merging_159 at h
  refine lv_iconst (v := 1) hx hb dL_merging_159 (by decide) ?_
  refine lv_goto (tgt := 164) hx hb dL_merging_160 (by decide) ?_
  refine W.widen (k := 52) (n := 2730) (Nat.le_of_ble_eq_true rfl) (Nat.le_of_ble_eq_true rfl) ?_
  exact tj_L_merging_164 hfl hC hr hlocks hE  h hM hS (lv_sub hl [] rfl)
noncomputable def fj_L_merging_117 (x0 : Nat) (x7 : Int32) (x8 : Int32) (x9 : Int32) (s0 : Int32) (M : Mem) : Option (Int32 × Mem) :=
  (if s0 = 0 then
  fj_L_merging_163 M
  else
  bn (cK 5 x0 M (f_X4_mergedTags x0 M)) fun v19 M20 =>
  (if v19 = x8 then
  bn (cK 5 x0 M20 (f_X4_mergedConflicts x0 M20)) fun v21 M22 =>
  (if v21 = x9 then
  bn (cK 5 x0 M22 (f_X4_counterCount x0 M22)) fun v23 M24 =>
  (if v23 = 0 then
  fj_L_merging_159 M24
  else
  bq (cK 5 x0 M24 (f_X4_mergedValue x0 0 M24)) fun v25 M26 =>
  (if v25 = x7 then
  fj_L_merging_159 M26
  else
  fj_L_merging_163 M26))
  else
  fj_L_merging_163 M22)
  else
  fj_L_merging_163 M20))
set_option maxHeartbeats 4000000 in
set_option maxRecDepth 100000 in
theorem tj_L_merging_117 {p : Program} {l : Launch} {e : Env} {s : State} {m : MethodId} {args : Array Value} {below : List Frame} {meth : Method} {c : Code} {E : KEnv} {H : Heap} {locs : List Loc} {ls : Array Slot} {x0 : Nat} {x7 : Int32} {x8 : Int32} {x9 : Int32} {s0 : Int32} {M : Mem} {v : Int32} {M' : Mem} (hfl : l.stackTraces = false) (hC : CallFix p m c cL_merging 11 s args lw_G RL) (hr : meth.sig.returnType = (some .boolean)) (hlocks : meth.locks = false) (hE : EnvOK E s) (h : fj_L_merging_117 x0 x7 x8 x9 s0 M = some (v, M')) (hM : MOK E M H) (hS : va_S (eA E) s.heap H locs) (hl : lv_has ls 11 [(0, .ref x0), (7, .int x7), (8, .int x8), (9, .int x9)]) : W p l e rm_L_merging s m args below meth c H locs 52 2730 (MQ below (cQ E (some (.int v)) M') args s 52 2730 (eA E)) (F0 m 117 ls [.int s0]) := by
  obtain ⟨hx, hb, hml, hown, hts⟩ := id hC
  unfold fj_L_merging_117 at h
  refine lv_istore (lv' := [(10, .int s0), (0, .ref x0), (7, .int x7), (8, .int x8), (9, .int x9)]) hx hb dL_merging_117 hl (by decide) rfl (fun ls hl => ?_)
  refine lv_iload hx hb dL_merging_119 (lv_at hl 0 rfl) ?_
  refine lv_if_eq (tgt := 163) hx hb dL_merging_121 (by decide) (fun c1 => ?_) (fun c1 => ?_)
  · have h := ifp c1 h
    refine W.widen (k := 52) (n := 2730) (Nat.le_of_ble_eq_true rfl) (Nat.le_of_ble_eq_true rfl) ?_
    exact tj_L_merging_163 hfl hC hr hlocks hE  h hM hS (lv_sub hl [] rfl)
  · have h := ifn c1 h
    refine lv_aload_n hx hb dL_merging_124 rfl (lv_at hl 1 rfl) ?_
    obtain ⟨v19, M20, h1, h⟩ := ob2 h
    obtain ⟨hk1, h1⟩ := ifg h1
    refine kV1 (ci := 4) (As := []) (rest := []) hC hE hS hM (mt_X4_mergedTags _ E x0 _ _ _ h1) (gwV qw_1185 qw_1186 qw_1187 qw_39 qw_1188) ⟨rfl, rfl, (Nat.le_of_ble_eq_true rfl), (Nat.le_of_ble_eq_true rfl)⟩ dd_X4_mergedTags rfl hk1 rfl rfl hl.1 (Nat.le_of_ble_eq_true rfl) dL_merging_125 ⟨(Nat.le_of_ble_eq_true rfl), (Nat.le_of_ble_eq_true rfl)⟩ (fun H locs hM hS => ?_)
    refine lv_iload hx hb dL_merging_128 (lv_at hl 3 rfl) ?_
    refine lv_icmp_ne (tgt := 163) hx hb dL_merging_130 (by decide) (fun c1 => ?_) (fun c1 => ?_)
    · have h := ifn c1 h
      refine W.widen (k := 52) (n := 2730) (Nat.le_of_ble_eq_true rfl) (Nat.le_of_ble_eq_true rfl) ?_
      exact tj_L_merging_163 hfl hC hr hlocks hE  h hM hS (lv_sub hl [] rfl)
    · have h := ifp c1 h
      refine lv_aload_n hx hb dL_merging_133 rfl (lv_at hl 1 rfl) ?_
      obtain ⟨v21, M22, h1, h⟩ := ob2 h
      obtain ⟨hk1, h1⟩ := ifg h1
      refine kV1 (ci := 4) (As := []) (rest := []) hC hE hS hM (mt_X4_mergedConflicts _ E x0 _ _ _ h1) (gwV qw_1200 qw_1201 qw_1202 qw_39 qw_1203) ⟨rfl, rfl, (Nat.le_of_ble_eq_true rfl), (Nat.le_of_ble_eq_true rfl)⟩ dd_X4_mergedConflicts rfl hk1 rfl rfl hl.1 (Nat.le_of_ble_eq_true rfl) dL_merging_134 ⟨(Nat.le_of_ble_eq_true rfl), (Nat.le_of_ble_eq_true rfl)⟩ (fun H locs hM hS => ?_)
      refine lv_iload hx hb dL_merging_137 (lv_at hl 4 rfl) ?_
      refine lv_icmp_ne (tgt := 163) hx hb dL_merging_139 (by decide) (fun c1 => ?_) (fun c1 => ?_)
      · have h := ifn c1 h
        refine W.widen (k := 52) (n := 2730) (Nat.le_of_ble_eq_true rfl) (Nat.le_of_ble_eq_true rfl) ?_
        exact tj_L_merging_163 hfl hC hr hlocks hE  h hM hS (lv_sub hl [] rfl)
      · have h := ifp c1 h
        refine lv_aload_n hx hb dL_merging_142 rfl (lv_at hl 1 rfl) ?_
        obtain ⟨v23, M24, h1, h⟩ := ob2 h
        obtain ⟨hk1, h1⟩ := ifg h1
        refine kV1 (ci := 4) (As := []) (rest := []) hC hE hS hM (mt_X4_counterCount _ E x0 _ _ _ h1) (gwV qw_998 qw_999 qw_1000 qw_39 qw_1001) ⟨rfl, rfl, (Nat.le_of_ble_eq_true rfl), (Nat.le_of_ble_eq_true rfl)⟩ dd_X4_counterCount rfl hk1 rfl rfl hl.1 (Nat.le_of_ble_eq_true rfl) dL_merging_143 ⟨(Nat.le_of_ble_eq_true rfl), (Nat.le_of_ble_eq_true rfl)⟩ (fun H locs hM hS => ?_)
        refine lv_if_eq (tgt := 159) hx hb dL_merging_146 (by decide) (fun c1 => ?_) (fun c1 => ?_)
        · have h := ifp c1 h
          refine W.widen (k := 52) (n := 2730) (Nat.le_of_ble_eq_true rfl) (Nat.le_of_ble_eq_true rfl) ?_
          exact tj_L_merging_159 hfl hC hr hlocks hE  h hM hS (lv_sub hl [] rfl)
        · have h := ifn c1 h
          refine lv_aload_n hx hb dL_merging_149 rfl (lv_at hl 1 rfl) ?_
          refine lv_iconst (v := 0) hx hb dL_merging_150 (by decide) ?_
          obtain ⟨v25, M26, h1, h⟩ := obq h
          obtain ⟨hk1, h1⟩ := ifg h1
          refine kV1 (ci := 4) (As := [.int 0]) (rest := []) hC hE hS hM (mq_X4_mergedValue _ E x0 0 _ _ _ h1) (gwV qw_1196 qw_1197 qw_1198 qw_39 qw_1199) ⟨rfl, rfl, (Nat.le_of_ble_eq_true rfl), (Nat.le_of_ble_eq_true rfl)⟩ dd_X4_mergedValue rfl hk1 rfl rfl hl.1 (Nat.le_of_ble_eq_true rfl) dL_merging_151 ⟨(Nat.le_of_ble_eq_true rfl), (Nat.le_of_ble_eq_true rfl)⟩ (fun H locs hM hS => ?_)
          refine lv_iload hx hb dL_merging_154 (lv_at hl 2 rfl) ?_
          refine lv_icmp_ne (tgt := 163) hx hb dL_merging_156 (by decide) (fun c1 => ?_) (fun c1 => ?_)
          · have h := ifn c1 h
            refine W.widen (k := 52) (n := 2730) (Nat.le_of_ble_eq_true rfl) (Nat.le_of_ble_eq_true rfl) ?_
            exact tj_L_merging_163 hfl hC hr hlocks hE  h hM hS (lv_sub hl [] rfl)
          · have h := ifp c1 h
            refine W.widen (k := 52) (n := 2730) (Nat.le_of_ble_eq_true rfl) (Nat.le_of_ble_eq_true rfl) ?_
            exact tj_L_merging_159 hfl hC hr hlocks hE  h hM hS (lv_sub hl [] rfl)
noncomputable def fj_L_merging_116 (x0 : Nat) (x7 : Int32) (x8 : Int32) (x9 : Int32) (M : Mem) : Option (Int32 × Mem) :=
  fj_L_merging_117 x0 x7 x8 x9 0 M
set_option maxHeartbeats 4000000 in
set_option maxRecDepth 100000 in
theorem tj_L_merging_116 {p : Program} {l : Launch} {e : Env} {s : State} {m : MethodId} {args : Array Value} {below : List Frame} {meth : Method} {c : Code} {E : KEnv} {H : Heap} {locs : List Loc} {ls : Array Slot} {x0 : Nat} {x7 : Int32} {x8 : Int32} {x9 : Int32} {M : Mem} {v : Int32} {M' : Mem} (hfl : l.stackTraces = false) (hC : CallFix p m c cL_merging 11 s args lw_G RL) (hr : meth.sig.returnType = (some .boolean)) (hlocks : meth.locks = false) (hE : EnvOK E s) (h : fj_L_merging_116 x0 x7 x8 x9 M = some (v, M')) (hM : MOK E M H) (hS : va_S (eA E) s.heap H locs) (hl : lv_has ls 11 [(0, .ref x0), (7, .int x7), (8, .int x8), (9, .int x9)]) : W p l e rm_L_merging s m args below meth c H locs 52 2730 (MQ below (cQ E (some (.int v)) M') args s 52 2730 (eA E)) (F0 m 116 ls []) := by
  obtain ⟨hx, hb, hml, hown, hts⟩ := id hC
  unfold fj_L_merging_116 at h
  refine lv_iconst (v := 0) hx hb dL_merging_116 (by decide) ?_
  refine W.widen (k := 52) (n := 2730) (Nat.le_of_ble_eq_true rfl) (Nat.le_of_ble_eq_true rfl) ?_
  exact tj_L_merging_117 hfl hC hr hlocks hE  h hM hS (lv_sub hl [0, 1, 2, 3] rfl)
noncomputable def fj_L_merging_76 (x0 : Nat) (x1 : Int32) (x2 : Int32) (x3 : Int32) (x4 : Int32) (x5 : Int32) (x7 : Int32) (x8 : Int32) (x9 : Int32) (s0 : Int32) (s1 : Int32) (M : Mem) : Option (Int32 × Mem) :=
  (if s0 = s1 then
  bq (cK 5 x0 M (f_X4_tagCount x0 x1 M)) fun v27 M28 =>
  (if v27 = ((x5 + x3) - x4) then
  bq (cK 5 x0 M28 (f_X4_covers x0 x1 x2 M28)) fun v29 M30 =>
  (if v29 = 0 then
  fj_L_merging_116 x0 x7 x8 x9 M30
  else
  bn (f_L_merged x0 x1 x2 M30) fun v31 M32 =>
  (if v31 = 0 then
  fj_L_merging_117 x0 x7 x8 x9 1 M32
  else
  fj_L_merging_116 x0 x7 x8 x9 M32))
  else
  fj_L_merging_116 x0 x7 x8 x9 M28)
  else
  fj_L_merging_116 x0 x7 x8 x9 M)
set_option maxHeartbeats 4000000 in
set_option maxRecDepth 100000 in
theorem tj_L_merging_76 {p : Program} {l : Launch} {e : Env} {s : State} {m : MethodId} {args : Array Value} {below : List Frame} {meth : Method} {c : Code} {E : KEnv} {H : Heap} {locs : List Loc} {ls : Array Slot} {x0 : Nat} {x1 : Int32} {x2 : Int32} {x3 : Int32} {x4 : Int32} {x5 : Int32} {x7 : Int32} {x8 : Int32} {x9 : Int32} {s0 : Int32} {s1 : Int32} {M : Mem} {v : Int32} {M' : Mem} (hfl : l.stackTraces = false) (hC : CallFix p m c cL_merging 11 s args lw_G RL) (hr : meth.sig.returnType = (some .boolean)) (hlocks : meth.locks = false) (hE : EnvOK E s) (h : fj_L_merging_76 x0 x1 x2 x3 x4 x5 x7 x8 x9 s0 s1 M = some (v, M')) (hM : MOK E M H) (hS : va_S (eA E) s.heap H locs) (hl : lv_has ls 11 [(0, .ref x0), (1, .int x1), (2, .int x2), (3, .int x3), (4, .int x4), (5, .int x5), (7, .int x7), (8, .int x8), (9, .int x9)]) : W p l e rm_L_merging s m args below meth c H locs 26 1365 (MQ below (cQ E (some (.int v)) M') args s 52 2730 (eA E)) (F0 m 76 ls [.int s1, .int s0]) := by
  obtain ⟨hx, hb, hml, hown, hts⟩ := id hC
  unfold fj_L_merging_76 at h
  refine lv_icmp_ne (tgt := 116) hx hb dL_merging_76 (by decide) (fun c1 => ?_) (fun c1 => ?_)
  · have h := ifn c1 h
    refine W.widen (k := 52) (n := 2730) (Nat.le_of_ble_eq_true rfl) (Nat.le_of_ble_eq_true rfl) ?_
    exact tj_L_merging_116 hfl hC hr hlocks hE  h hM hS (lv_sub hl [0, 6, 7, 8] rfl)
  · have h := ifp c1 h
    refine lv_aload_n hx hb dL_merging_79 rfl (lv_at hl 0 rfl) ?_
    refine lv_iload_n hx hb dL_merging_80 rfl (lv_at hl 1 rfl) ?_
    obtain ⟨v27, M28, h1, h⟩ := obq h
    obtain ⟨hk1, h1⟩ := ifg h1
    refine kV1 (ci := 4) (As := [.int x1]) (rest := []) hC hE hS hM (mq_X4_tagCount _ E x0 x1 _ _ _ h1) (gwV qw_1090 qw_1091 qw_1092 qw_39 qw_1093) ⟨rfl, rfl, (Nat.le_of_ble_eq_true rfl), (Nat.le_of_ble_eq_true rfl)⟩ dd_X4_tagCount rfl hk1 rfl rfl hl.1 (Nat.le_of_ble_eq_true rfl) dL_merging_81 ⟨(Nat.le_of_ble_eq_true rfl), (Nat.le_of_ble_eq_true rfl)⟩ (fun H locs hM hS => ?_)
    refine lv_iload hx hb dL_merging_84 (lv_at hl 5 rfl) ?_
    refine lv_iload_n hx hb dL_merging_86 rfl (lv_at hl 3 rfl) ?_
    refine lv_iadd hx hb dL_merging_87 ?_
    refine lv_iload hx hb dL_merging_88 (lv_at hl 4 rfl) ?_
    refine lv_isub hx hb dL_merging_90 ?_
    refine lv_icmp_ne (tgt := 116) hx hb dL_merging_91 (by decide) (fun c1 => ?_) (fun c1 => ?_)
    · have h := ifn c1 h
      refine W.widen (k := 52) (n := 2730) (Nat.le_of_ble_eq_true rfl) (Nat.le_of_ble_eq_true rfl) ?_
      exact tj_L_merging_116 hfl hC hr hlocks hE  h hM hS (lv_sub hl [0, 6, 7, 8] rfl)
    · have h := ifp c1 h
      refine lv_aload_n hx hb dL_merging_94 rfl (lv_at hl 0 rfl) ?_
      refine lv_iload_n hx hb dL_merging_95 rfl (lv_at hl 1 rfl) ?_
      refine lv_iload_n hx hb dL_merging_96 rfl (lv_at hl 2 rfl) ?_
      obtain ⟨v29, M30, h1, h⟩ := obq h
      obtain ⟨hk1, h1⟩ := ifg h1
      refine kV1 (ci := 4) (As := [.int x1, .int x2]) (rest := []) hC hE hS hM (mq_X4_covers _ E x0 x1 x2 _ _ _ h1) (gwV qw_1119 qw_1120 qw_1121 qw_39 qw_1122) ⟨rfl, rfl, (Nat.le_of_ble_eq_true rfl), (Nat.le_of_ble_eq_true rfl)⟩ dd_X4_covers rfl hk1 rfl rfl hl.1 (Nat.le_of_ble_eq_true rfl) dL_merging_97 ⟨(Nat.le_of_ble_eq_true rfl), (Nat.le_of_ble_eq_true rfl)⟩ (fun H locs hM hS => ?_)
      refine lv_if_eq (tgt := 116) hx hb dL_merging_100 (by decide) (fun c1 => ?_) (fun c1 => ?_)
      · have h := ifp c1 h
        refine W.widen (k := 52) (n := 2730) (Nat.le_of_ble_eq_true rfl) (Nat.le_of_ble_eq_true rfl) ?_
        exact tj_L_merging_116 hfl hC hr hlocks hE  h hM hS (lv_sub hl [0, 6, 7, 8] rfl)
      · have h := ifn c1 h
        refine lv_aload_n hx hb dL_merging_103 rfl (lv_at hl 0 rfl) ?_
        refine lv_iload_n hx hb dL_merging_104 rfl (lv_at hl 1 rfl) ?_
        refine lv_iload_n hx hb dL_merging_105 rfl (lv_at hl 2 rfl) ?_
        obtain ⟨v31, M32, h1, h⟩ := ob2 h
        refine kSW (As := [.ref x0, .int x1, .int x2]) (rest := []) hC hE hS hM (mt_L_merged _ hfl E x0 x1 x2 _ _ _ h1) (gwSW qw_690 qw_691 qw_38 qz_L_merged) ⟨rfl, rfl, (Nat.le_of_ble_eq_true rfl), (Nat.le_of_ble_eq_true rfl)⟩ dd_L_merged rfl rfl hl.1 (Nat.le_of_ble_eq_true rfl) dL_merging_106 ⟨(Nat.le_of_ble_eq_true rfl), (Nat.le_of_ble_eq_true rfl)⟩ (fun H locs hM hS => ?_)
        refine lv_if_ne (tgt := 116) hx hb dL_merging_109 (by decide) (fun c1 => ?_) (fun c1 => ?_)
        · have h := ifn c1 h
          refine W.widen (k := 52) (n := 2730) (Nat.le_of_ble_eq_true rfl) (Nat.le_of_ble_eq_true rfl) ?_
          exact tj_L_merging_116 hfl hC hr hlocks hE  h hM hS (lv_sub hl [0, 6, 7, 8] rfl)
        · have h := ifp c1 h
          refine lv_iconst (v := 1) hx hb dL_merging_112 (by decide) ?_
          refine lv_goto (tgt := 117) hx hb dL_merging_113 (by decide) ?_
          refine W.widen (k := 52) (n := 2730) (Nat.le_of_ble_eq_true rfl) (Nat.le_of_ble_eq_true rfl) ?_
          exact tj_L_merging_117 hfl hC hr hlocks hE  h hM hS (lv_sub hl [0, 6, 7, 8] rfl)
noncomputable def fj_L_merging_46 (x0 : Nat) (x1 : Int32) (x2 : Int32) (x3 : Int32) (x4 : Int32) (x5 : Int32) (x6 : Int32) (s0 : Int32) (M : Mem) : Option (Int32 × Mem) :=
  bn (cK 5 x0 M (f_X4_mergedTags x0 M)) fun v13 M14 =>
  bn (cK 5 x0 M14 (f_X4_mergedConflicts x0 M14)) fun v15 M16 =>
  bn (f_L_merged x0 x1 x2 M16) fun v17 M18 =>
  (if x6 = 0 then
  fj_L_merging_76 x0 x1 x2 x3 x4 x5 s0 v13 v15 v17 1 M18
  else
  fj_L_merging_76 x0 x1 x2 x3 x4 x5 s0 v13 v15 v17 0 M18)
set_option maxHeartbeats 4000000 in
set_option maxRecDepth 100000 in
theorem tj_L_merging_46 {p : Program} {l : Launch} {e : Env} {s : State} {m : MethodId} {args : Array Value} {below : List Frame} {meth : Method} {c : Code} {E : KEnv} {H : Heap} {locs : List Loc} {ls : Array Slot} {x0 : Nat} {x1 : Int32} {x2 : Int32} {x3 : Int32} {x4 : Int32} {x5 : Int32} {x6 : Int32} {s0 : Int32} {M : Mem} {v : Int32} {M' : Mem} (hfl : l.stackTraces = false) (hC : CallFix p m c cL_merging 11 s args lw_G RL) (hr : meth.sig.returnType = (some .boolean)) (hlocks : meth.locks = false) (hE : EnvOK E s) (h : fj_L_merging_46 x0 x1 x2 x3 x4 x5 x6 s0 M = some (v, M')) (hM : MOK E M H) (hS : va_S (eA E) s.heap H locs) (hl : lv_has ls 11 [(0, .ref x0), (1, .int x1), (2, .int x2), (3, .int x3), (4, .int x4), (5, .int x5), (6, .int x6)]) : W p l e rm_L_merging s m args below meth c H locs 0 0 (MQ below (cQ E (some (.int v)) M') args s 52 2730 (eA E)) (F0 m 46 ls [.int s0]) := by
  obtain ⟨hx, hb, hml, hown, hts⟩ := id hC
  unfold fj_L_merging_46 at h
  refine lv_istore (lv' := [(7, .int s0), (0, .ref x0), (1, .int x1), (2, .int x2), (3, .int x3), (4, .int x4), (5, .int x5), (6, .int x6)]) hx hb dL_merging_46 hl (by decide) rfl (fun ls hl => ?_)
  refine lv_aload_n hx hb dL_merging_48 rfl (lv_at hl 1 rfl) ?_
  obtain ⟨v13, M14, h1, h⟩ := ob2 h
  obtain ⟨hk1, h1⟩ := ifg h1
  refine kV1 (ci := 4) (As := []) (rest := []) hC hE hS hM (mt_X4_mergedTags _ E x0 _ _ _ h1) (gwV qw_1185 qw_1186 qw_1187 qw_39 qw_1188) ⟨rfl, rfl, (Nat.le_of_ble_eq_true rfl), (Nat.le_of_ble_eq_true rfl)⟩ dd_X4_mergedTags rfl hk1 rfl rfl hl.1 (Nat.le_of_ble_eq_true rfl) dL_merging_49 ⟨(Nat.le_of_ble_eq_true rfl), (Nat.le_of_ble_eq_true rfl)⟩ (fun H locs hM hS => ?_)
  refine lv_istore (lv' := [(8, .int v13), (7, .int s0), (0, .ref x0), (1, .int x1), (2, .int x2), (3, .int x3), (4, .int x4), (5, .int x5), (6, .int x6)]) hx hb dL_merging_52 hl (by decide) rfl (fun ls hl => ?_)
  refine lv_aload_n hx hb dL_merging_54 rfl (lv_at hl 2 rfl) ?_
  obtain ⟨v15, M16, h1, h⟩ := ob2 h
  obtain ⟨hk1, h1⟩ := ifg h1
  refine kV1 (ci := 4) (As := []) (rest := []) hC hE hS hM (mt_X4_mergedConflicts _ E x0 _ _ _ h1) (gwV qw_1200 qw_1201 qw_1202 qw_39 qw_1203) ⟨rfl, rfl, (Nat.le_of_ble_eq_true rfl), (Nat.le_of_ble_eq_true rfl)⟩ dd_X4_mergedConflicts rfl hk1 rfl rfl hl.1 (Nat.le_of_ble_eq_true rfl) dL_merging_55 ⟨(Nat.le_of_ble_eq_true rfl), (Nat.le_of_ble_eq_true rfl)⟩ (fun H locs hM hS => ?_)
  refine lv_istore (lv' := [(9, .int v15), (8, .int v13), (7, .int s0), (0, .ref x0), (1, .int x1), (2, .int x2), (3, .int x3), (4, .int x4), (5, .int x5), (6, .int x6)]) hx hb dL_merging_58 hl (by decide) rfl (fun ls hl => ?_)
  refine lv_aload_n hx hb dL_merging_60 rfl (lv_at hl 3 rfl) ?_
  refine lv_iload_n hx hb dL_merging_61 rfl (lv_at hl 4 rfl) ?_
  refine lv_iload_n hx hb dL_merging_62 rfl (lv_at hl 5 rfl) ?_
  obtain ⟨v17, M18, h1, h⟩ := ob2 h
  refine kSW (As := [.ref x0, .int x1, .int x2]) (rest := []) hC hE hS hM (mt_L_merged _ hfl E x0 x1 x2 _ _ _ h1) (gwSW qw_690 qw_691 qw_38 qz_L_merged) ⟨rfl, rfl, (Nat.le_of_ble_eq_true rfl), (Nat.le_of_ble_eq_true rfl)⟩ dd_L_merged rfl rfl hl.1 (Nat.le_of_ble_eq_true rfl) dL_merging_63 ⟨(Nat.le_of_ble_eq_true rfl), (Nat.le_of_ble_eq_true rfl)⟩ (fun H locs hM hS => ?_)
  refine lv_iload hx hb dL_merging_66 (lv_at hl 9 rfl) ?_
  refine lv_if_eq (tgt := 75) hx hb dL_merging_68 (by decide) (fun c1 => ?_) (fun c1 => ?_)
  · have h := ifp c1 h
    refine lv_iconst (v := 1) hx hb dL_merging_75 (by decide) ?_
    refine W.widen (k := 26) (n := 1365) (Nat.le_of_ble_eq_true rfl) (Nat.le_of_ble_eq_true rfl) ?_
    exact tj_L_merging_76 hfl hC hr hlocks hE  h hM hS (lv_sub hl [3, 4, 5, 6, 7, 8, 2, 1, 0] rfl)
  · have h := ifn c1 h
    refine lv_iconst (v := 0) hx hb dL_merging_71 (by decide) ?_
    refine lv_goto (tgt := 76) hx hb dL_merging_72 (by decide) ?_
    refine W.widen (k := 26) (n := 1365) (Nat.le_of_ble_eq_true rfl) (Nat.le_of_ble_eq_true rfl) ?_
    exact tj_L_merging_76 hfl hC hr hlocks hE  h hM hS (lv_sub hl [3, 4, 5, 6, 7, 8, 2, 1, 0] rfl)
noncomputable def f_L_merging (a1 : Nat) (a2 : Int32) (a3 : Int32) (M : Mem) : Option (Int32 × Mem) :=
  bq (cK 5 a1 M (f_X4_tagsGained a1 a2 a3 M)) fun v1 M2 =>
  bq (cK 5 a1 M2 (f_X4_tagsLost a1 a2 a3 M2)) fun v3 M4 =>
  bq (cK 5 a1 M4 (f_X4_tagCount a1 a2 M4)) fun v5 M6 =>
  bq (cK 5 a1 M6 (f_X4_covers a1 a2 a3 M6)) fun v7 M8 =>
  bn (cK 5 a1 M8 (f_X4_counterCount a1 M8)) fun v9 M10 =>
  (if v9 = 0 then
  fj_L_merging_46 a1 a2 a3 v1 v3 v5 v7 0 M10
  else
  bq (cK 5 a1 M10 (f_X4_mergedValue a1 0 M10)) fun v11 M12 =>
  fj_L_merging_46 a1 a2 a3 v1 v3 v5 v7 v11 M12)
set_option maxHeartbeats 4000000 in
set_option maxRecDepth 100000 in
theorem mt_L_merging (l : Launch) (hfl : l.stackTraces = false) (E : KEnv) (a1 : Nat) (a2 : Int32) (a3 : Int32) (M M' : Mem) (v : Int32) (h : f_L_merging a1 a2 a3 M = some (v, M')) : Met l yL_merging (Cond.code yL_merging cL_merging 11 (some .boolean) :: lw_G) rm_L_merging (cPc E [.ref a1, .int a2, .int a3] M) (cQ E (some (.int v)) M') 52 2730 (eA E) := by
  refine Met.ofW (cc := cL_merging) (maxL := 11) (ret := (some .boolean)) (by decide) rfl ?_
  intro p e s m args below meth c s₁ B hml hv
  obtain ⟨rfl, hE, hM⟩ := hv
  have hx := B.exec
  have hb := B.bytes
  have hr := B.returns
  have hts0 := atoms_spec (ws := Cond.code yL_merging cL_merging 11 (some .boolean) :: lw_G) B.pre
  have hts : ∀ w ∈ lw_G, w.before _ s = true := fun w hw => hts0 w (List.mem_cons_of_mem _ hw)
  have hown : s.vm.findClass RL = some m.cls := findClass_of_methodNamed B.named
  have hlocks := B.notSynchronized
  have hC : CallFix p m c cL_merging 11 s _ lw_G RL := ⟨hx, hb, hml, hown, hts⟩
  have hS : va_S (eA E) s.heap s.heap [] := va_S.rf
  have hl := lv_entry ([.ref a1, .int a2, .int a3]) (n := 11) (Nat.le_of_ble_eq_true rfl)
  rw [lg_entry_eq]
  generalize (lg_sl ([.ref a1, .int a2, .int a3]) ++ List.replicate (11 - (lg_sl ([.ref a1, .int a2, .int a3])).length) Slot.unset).toArray = ls at hl ⊢
  have hl : lv_has ls 11 [(0, .ref a1), (1, .int a2), (2, .int a3)] := hl
  unfold f_L_merging at h
  show W p l e rm_L_merging s m _ below meth c s.heap [] 0 0 _ _
  refine lv_aload_n hx hb dL_merging_0 rfl (lv_at hl 0 rfl) ?_
  refine lv_iload_n hx hb dL_merging_1 rfl (lv_at hl 1 rfl) ?_
  refine lv_iload_n hx hb dL_merging_2 rfl (lv_at hl 2 rfl) ?_
  obtain ⟨v1, M2, h1, h⟩ := obq h
  obtain ⟨hk1, h1⟩ := ifg h1
  refine kV1 (ci := 4) (As := [.int a2, .int a3]) (rest := []) hC hE hS hM (mq_X4_tagsGained _ E a1 a2 a3 _ _ _ h1) (gwV qw_1135 qw_1136 qw_1137 qw_39 qw_1138) ⟨rfl, rfl, (Nat.le_of_ble_eq_true rfl), (Nat.le_of_ble_eq_true rfl)⟩ dd_X4_tagsGained rfl hk1 rfl rfl hl.1 (Nat.le_of_ble_eq_true rfl) dL_merging_3 ⟨(Nat.le_of_ble_eq_true rfl), (Nat.le_of_ble_eq_true rfl)⟩ (fun H locs hM hS => ?_)
  refine lv_istore_n (lv' := [(3, .int v1), (0, .ref a1), (1, .int a2), (2, .int a3)]) hx hb dL_merging_6 rfl hl (by decide) rfl (fun ls hl => ?_)
  refine lv_aload_n hx hb dL_merging_7 rfl (lv_at hl 1 rfl) ?_
  refine lv_iload_n hx hb dL_merging_8 rfl (lv_at hl 2 rfl) ?_
  refine lv_iload_n hx hb dL_merging_9 rfl (lv_at hl 3 rfl) ?_
  obtain ⟨v3, M4, h1, h⟩ := obq h
  obtain ⟨hk1, h1⟩ := ifg h1
  refine kV1 (ci := 4) (As := [.int a2, .int a3]) (rest := []) hC hE hS hM (mq_X4_tagsLost _ E a1 a2 a3 _ _ _ h1) (gwV qw_1143 qw_1144 qw_1145 qw_39 qw_1146) ⟨rfl, rfl, (Nat.le_of_ble_eq_true rfl), (Nat.le_of_ble_eq_true rfl)⟩ dd_X4_tagsLost rfl hk1 rfl rfl hl.1 (Nat.le_of_ble_eq_true rfl) dL_merging_10 ⟨(Nat.le_of_ble_eq_true rfl), (Nat.le_of_ble_eq_true rfl)⟩ (fun H locs hM hS => ?_)
  refine lv_istore (lv' := [(4, .int v3), (3, .int v1), (0, .ref a1), (1, .int a2), (2, .int a3)]) hx hb dL_merging_13 hl (by decide) rfl (fun ls hl => ?_)
  refine lv_aload_n hx hb dL_merging_15 rfl (lv_at hl 2 rfl) ?_
  refine lv_iload_n hx hb dL_merging_16 rfl (lv_at hl 3 rfl) ?_
  obtain ⟨v5, M6, h1, h⟩ := obq h
  obtain ⟨hk1, h1⟩ := ifg h1
  refine kV1 (ci := 4) (As := [.int a2]) (rest := []) hC hE hS hM (mq_X4_tagCount _ E a1 a2 _ _ _ h1) (gwV qw_1090 qw_1091 qw_1092 qw_39 qw_1093) ⟨rfl, rfl, (Nat.le_of_ble_eq_true rfl), (Nat.le_of_ble_eq_true rfl)⟩ dd_X4_tagCount rfl hk1 rfl rfl hl.1 (Nat.le_of_ble_eq_true rfl) dL_merging_17 ⟨(Nat.le_of_ble_eq_true rfl), (Nat.le_of_ble_eq_true rfl)⟩ (fun H locs hM hS => ?_)
  refine lv_istore (lv' := [(5, .int v5), (4, .int v3), (3, .int v1), (0, .ref a1), (1, .int a2), (2, .int a3)]) hx hb dL_merging_20 hl (by decide) rfl (fun ls hl => ?_)
  refine lv_aload_n hx hb dL_merging_22 rfl (lv_at hl 3 rfl) ?_
  refine lv_iload_n hx hb dL_merging_23 rfl (lv_at hl 4 rfl) ?_
  refine lv_iload_n hx hb dL_merging_24 rfl (lv_at hl 5 rfl) ?_
  obtain ⟨v7, M8, h1, h⟩ := obq h
  obtain ⟨hk1, h1⟩ := ifg h1
  refine kV1 (ci := 4) (As := [.int a2, .int a3]) (rest := []) hC hE hS hM (mq_X4_covers _ E a1 a2 a3 _ _ _ h1) (gwV qw_1119 qw_1120 qw_1121 qw_39 qw_1122) ⟨rfl, rfl, (Nat.le_of_ble_eq_true rfl), (Nat.le_of_ble_eq_true rfl)⟩ dd_X4_covers rfl hk1 rfl rfl hl.1 (Nat.le_of_ble_eq_true rfl) dL_merging_25 ⟨(Nat.le_of_ble_eq_true rfl), (Nat.le_of_ble_eq_true rfl)⟩ (fun H locs hM hS => ?_)
  refine lv_istore (lv' := [(6, .int v7), (5, .int v5), (4, .int v3), (3, .int v1), (0, .ref a1), (1, .int a2), (2, .int a3)]) hx hb dL_merging_28 hl (by decide) rfl (fun ls hl => ?_)
  refine lv_aload_n hx hb dL_merging_30 rfl (lv_at hl 4 rfl) ?_
  obtain ⟨v9, M10, h1, h⟩ := ob2 h
  obtain ⟨hk1, h1⟩ := ifg h1
  refine kV1 (ci := 4) (As := []) (rest := []) hC hE hS hM (mt_X4_counterCount _ E a1 _ _ _ h1) (gwV qw_998 qw_999 qw_1000 qw_39 qw_1001) ⟨rfl, rfl, (Nat.le_of_ble_eq_true rfl), (Nat.le_of_ble_eq_true rfl)⟩ dd_X4_counterCount rfl hk1 rfl rfl hl.1 (Nat.le_of_ble_eq_true rfl) dL_merging_31 ⟨(Nat.le_of_ble_eq_true rfl), (Nat.le_of_ble_eq_true rfl)⟩ (fun H locs hM hS => ?_)
  refine lv_if_ne (tgt := 41) hx hb dL_merging_34 (by decide) (fun c1 => ?_) (fun c1 => ?_)
  · have h := ifn c1 h
    refine lv_aload_n hx hb dL_merging_41 rfl (lv_at hl 4 rfl) ?_
    refine lv_iconst (v := 0) hx hb dL_merging_42 (by decide) ?_
    obtain ⟨v11, M12, h1, h⟩ := obq h
    obtain ⟨hk1, h1⟩ := ifg h1
    refine kV1 (ci := 4) (As := [.int 0]) (rest := []) hC hE hS hM (mq_X4_mergedValue _ E a1 0 _ _ _ h1) (gwV qw_1196 qw_1197 qw_1198 qw_39 qw_1199) ⟨rfl, rfl, (Nat.le_of_ble_eq_true rfl), (Nat.le_of_ble_eq_true rfl)⟩ dd_X4_mergedValue rfl hk1 rfl rfl hl.1 (Nat.le_of_ble_eq_true rfl) dL_merging_43 ⟨(Nat.le_of_ble_eq_true rfl), (Nat.le_of_ble_eq_true rfl)⟩ (fun H locs hM hS => ?_)
    refine W.widen (k := 0) (n := 0) (Nat.le_of_ble_eq_true rfl) (Nat.le_of_ble_eq_true rfl) ?_
    exact tj_L_merging_46 hfl hC hr hlocks hE  h hM hS (lv_sub hl [4, 5, 6, 3, 2, 1, 0] rfl)
  · have h := ifp c1 h
    refine lv_iconst (v := 0) hx hb dL_merging_37 (by decide) ?_
    refine lv_goto (tgt := 46) hx hb dL_merging_38 (by decide) ?_
    refine W.widen (k := 0) (n := 0) (Nat.le_of_ble_eq_true rfl) (Nat.le_of_ble_eq_true rfl) ?_
    exact tj_L_merging_46 hfl hC hr hlocks hE  h hM hS (lv_sub hl [4, 5, 6, 3, 2, 1, 0] rfl)
