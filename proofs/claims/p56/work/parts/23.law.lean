/-! printed by wip/p56/gen2.py: methods as functions over the memory, and that the code does what they say -/
noncomputable def fj_L_law_418 (xs : Nat → Int32) (L : Nat) (x3 : Int32) (M : Mem) : Option (Int32 × Mem) :=
  some (x3, M)
set_option maxHeartbeats 4000000 in
set_option maxRecDepth 100000 in
theorem tj_L_law_418 {p : Program} {l : Launch} {e : Env} {s : State} {m : MethodId} {args : Array Value} {below : List Frame} {meth : Method} {c : Code} {E : KEnv} {b L : Nat} {xs : Nat → Int32} {H : Heap} {locs : List Loc} {ls : Array Slot} {cells slots : Nat} {x3 : Int32} {M : Mem} {M' : Mem} (hfl : l.stackTraces = false) (heB : eB E = s.heap.size) (hX : va_X b L xs s s.heap) (hbl : b < s.heap.size) (hbA : ¬ eA E b) (hargs : args = #[Value.ref b]) (hC : CallFix p m c code 11 s args lw_G RL) (hr : meth.sig.returnType = ret) (hlocks : meth.locks = false) (hE : EnvOK E s) (hcs : cells + (0) ≤ 600086 ∧ slots + (0) ≤ 7301442) (h : fj_L_law_418 xs L x3 M = some (1, M')) (hM : MOK E M H) (hS : va_S (eA E) s.heap H locs) (hl : lv_has ls 11 [(3, .int x3)]) : W p l e room_1 s m args below meth c H locs cells slots (lw_Z below args s) (F0 m 418 ls []) := by
  obtain ⟨hx, hb, hml, hown, hts⟩ := id hC
  unfold fj_L_law_418 at h
  refine lv_iload_n hx hb dL_law_418 rfl (lv_at hl 0 rfl) ?_
  cases h
  subst hargs
  refine va_forget (fun q hq => ?_) ?_
  · have := hS.2.2 q hq
    unfold eA at this
    rwa [heB] at this
  refine W.widen (k := 600086) (n := 7301442) (by omega) (by omega) ?_
  exact lw_ret (d0 := s.drawn) (Drawn.sameBut.refl s.drawn lw_cs) hx hb hr hlocks dL_law_419
noncomputable def fj_L_law_412 (xs : Nat → Int32) (L : Nat) (x1 : Nat) (x2 : Nat) (x3 : Int32) (x4 : Int32) (M : Mem) : Option ((Int32 × Int32 × Mem) ⊕ (Int32 × Mem)) :=
  some (.inl (x3, x4 + 1, M))
set_option maxHeartbeats 4000000 in
set_option maxRecDepth 100000 in
theorem tj_L_law_412 {p : Program} {l : Launch} {e : Env} {s : State} {m : MethodId} {args : Array Value} {below : List Frame} {meth : Method} {c : Code} {E : KEnv} {b L : Nat} {xs : Nat → Int32} {H : Heap} {locs : List Loc} {ls : Array Slot} {cells slots : Nat} {x1 : Nat} {x2 : Nat} {x3 : Int32} {x4 : Int32} {y1 : ((Int32 × Int32 × Mem) ⊕ (Int32 × Mem))} {n34 : Nat} {M : Mem} {M' : Mem} (hfl : l.stackTraces = false) (heB : eB E = s.heap.size) (hX : va_X b L xs s s.heap) (hbl : b < s.heap.size) (hbA : ¬ eA E b) (hargs : args = #[Value.ref b]) (hC : CallFix p m c code 11 s args lw_G RL) (hr : meth.sig.returnType = ret) (hlocks : meth.locks = false) (hE : EnvOK E s) (hy1 : (∀ q : (Int32 × Int32 × Mem), y1 = .inl q → ∀ (H : Heap) (locs : List Loc) (ls : Array Slot) (cells slots : Nat), (cells + (0 + n34 * 3083) ≤ 600086 ∧ slots + (0 + n34 * 214969) ≤ 7301442) → MOK E (q.2.2) H → va_S (eA E) s.heap H locs → lv_has ls 11 [(0, .ref b), (1, .ref x1), (2, .ref x2), (3, .int q.1), (4, .int q.2.1)] → W p l e room_1 s m args below meth c H locs cells slots (lw_Z below args s) (F0 m 34 ls [])) ∧ ∀ z, y1 = .inr z → z = (1, M')) (hcs : cells + (0 + n34 * 3083) ≤ 600086 ∧ slots + (0 + n34 * 214969) ≤ 7301442) (h : fj_L_law_412 xs L x1 x2 x3 x4 M = some y1) (hM : MOK E M H) (hS : va_S (eA E) s.heap H locs) (hl : lv_has ls 11 [(0, .ref b), (1, .ref x1), (2, .ref x2), (3, .int x3), (4, .int x4)]) : W p l e room_1 s m args below meth c H locs cells slots (lw_Z below args s) (F0 m 412 ls []) := by
  obtain ⟨hx, hb, hml, hown, hts⟩ := id hC
  unfold fj_L_law_412 at h
  refine lv_iinc (v := x4 + 1) (lv' := [(4, .int (x4 + 1)), (0, .ref b), (1, .ref x1), (2, .ref x2), (3, .int x3)]) hx hb dL_law_412 hl (k := 4) rfl rfl (by decide) rfl (fun ls hl => ?_)
  refine lv_goto (tgt := 34) hx hb dL_law_415 (by decide) ?_
  cases h
  exact hy1.1 _ rfl _ _ _ _ _ ⟨by omega, by omega⟩ hM hS (lv_sub hl [1, 2, 3, 4, 0] rfl)
noncomputable def fj_L_law_411 (xs : Nat → Int32) (L : Nat) (x1 : Nat) (x2 : Nat) (x4 : Int32) (s0 : Int32) (M : Mem) : Option ((Int32 × Int32 × Mem) ⊕ (Int32 × Mem)) :=
  fj_L_law_412 xs L x1 x2 s0 x4 M
set_option maxHeartbeats 4000000 in
set_option maxRecDepth 100000 in
theorem tj_L_law_411 {p : Program} {l : Launch} {e : Env} {s : State} {m : MethodId} {args : Array Value} {below : List Frame} {meth : Method} {c : Code} {E : KEnv} {b L : Nat} {xs : Nat → Int32} {H : Heap} {locs : List Loc} {ls : Array Slot} {cells slots : Nat} {x1 : Nat} {x2 : Nat} {x4 : Int32} {s0 : Int32} {y1 : ((Int32 × Int32 × Mem) ⊕ (Int32 × Mem))} {n34 : Nat} {M : Mem} {M' : Mem} (hfl : l.stackTraces = false) (heB : eB E = s.heap.size) (hX : va_X b L xs s s.heap) (hbl : b < s.heap.size) (hbA : ¬ eA E b) (hargs : args = #[Value.ref b]) (hC : CallFix p m c code 11 s args lw_G RL) (hr : meth.sig.returnType = ret) (hlocks : meth.locks = false) (hE : EnvOK E s) (hy1 : (∀ q : (Int32 × Int32 × Mem), y1 = .inl q → ∀ (H : Heap) (locs : List Loc) (ls : Array Slot) (cells slots : Nat), (cells + (0 + n34 * 3083) ≤ 600086 ∧ slots + (0 + n34 * 214969) ≤ 7301442) → MOK E (q.2.2) H → va_S (eA E) s.heap H locs → lv_has ls 11 [(0, .ref b), (1, .ref x1), (2, .ref x2), (3, .int q.1), (4, .int q.2.1)] → W p l e room_1 s m args below meth c H locs cells slots (lw_Z below args s) (F0 m 34 ls [])) ∧ ∀ z, y1 = .inr z → z = (1, M')) (hcs : cells + (0 + n34 * 3083) ≤ 600086 ∧ slots + (0 + n34 * 214969) ≤ 7301442) (h : fj_L_law_411 xs L x1 x2 x4 s0 M = some y1) (hM : MOK E M H) (hS : va_S (eA E) s.heap H locs) (hl : lv_has ls 11 [(0, .ref b), (1, .ref x1), (2, .ref x2), (4, .int x4)]) : W p l e room_1 s m args below meth c H locs cells slots (lw_Z below args s) (F0 m 411 ls [.int s0]) := by
  obtain ⟨hx, hb, hml, hown, hts⟩ := id hC
  unfold fj_L_law_411 at h
  refine lv_istore_n (lv' := [(3, .int s0), (0, .ref b), (1, .ref x1), (2, .ref x2), (4, .int x4)]) hx hb dL_law_411 rfl hl (by decide) rfl (fun ls hl => ?_)
  exact tj_L_law_412 hfl heB hX hbl hbA hargs hC hr hlocks hE hy1 ⟨by omega, by omega⟩ h hM hS (lv_sub hl [1, 2, 3, 0, 4] rfl)
noncomputable def fj_L_law_410 (xs : Nat → Int32) (L : Nat) (x1 : Nat) (x2 : Nat) (x4 : Int32) (M : Mem) : Option ((Int32 × Int32 × Mem) ⊕ (Int32 × Mem)) :=
  fj_L_law_411 xs L x1 x2 x4 0 M
set_option maxHeartbeats 4000000 in
set_option maxRecDepth 100000 in
theorem tj_L_law_410 {p : Program} {l : Launch} {e : Env} {s : State} {m : MethodId} {args : Array Value} {below : List Frame} {meth : Method} {c : Code} {E : KEnv} {b L : Nat} {xs : Nat → Int32} {H : Heap} {locs : List Loc} {ls : Array Slot} {cells slots : Nat} {x1 : Nat} {x2 : Nat} {x4 : Int32} {y1 : ((Int32 × Int32 × Mem) ⊕ (Int32 × Mem))} {n34 : Nat} {M : Mem} {M' : Mem} (hfl : l.stackTraces = false) (heB : eB E = s.heap.size) (hX : va_X b L xs s s.heap) (hbl : b < s.heap.size) (hbA : ¬ eA E b) (hargs : args = #[Value.ref b]) (hC : CallFix p m c code 11 s args lw_G RL) (hr : meth.sig.returnType = ret) (hlocks : meth.locks = false) (hE : EnvOK E s) (hy1 : (∀ q : (Int32 × Int32 × Mem), y1 = .inl q → ∀ (H : Heap) (locs : List Loc) (ls : Array Slot) (cells slots : Nat), (cells + (0 + n34 * 3083) ≤ 600086 ∧ slots + (0 + n34 * 214969) ≤ 7301442) → MOK E (q.2.2) H → va_S (eA E) s.heap H locs → lv_has ls 11 [(0, .ref b), (1, .ref x1), (2, .ref x2), (3, .int q.1), (4, .int q.2.1)] → W p l e room_1 s m args below meth c H locs cells slots (lw_Z below args s) (F0 m 34 ls [])) ∧ ∀ z, y1 = .inr z → z = (1, M')) (hcs : cells + (0 + n34 * 3083) ≤ 600086 ∧ slots + (0 + n34 * 214969) ≤ 7301442) (h : fj_L_law_410 xs L x1 x2 x4 M = some y1) (hM : MOK E M H) (hS : va_S (eA E) s.heap H locs) (hl : lv_has ls 11 [(0, .ref b), (1, .ref x1), (2, .ref x2), (4, .int x4)]) : W p l e room_1 s m args below meth c H locs cells slots (lw_Z below args s) (F0 m 410 ls []) := by
  obtain ⟨hx, hb, hml, hown, hts⟩ := id hC
  unfold fj_L_law_410 at h
  refine lv_iconst (v := 0) hx hb dL_law_410 (by decide) ?_
  exact tj_L_law_411 hfl heB hX hbl hbA hargs hC hr hlocks hE hy1 ⟨by omega, by omega⟩ h hM hS (lv_sub hl [0, 1, 2, 3] rfl)
noncomputable def fj_L_law_358 (xs : Nat → Int32) (L : Nat) (x1 : Nat) (x2 : Nat) (x4 : Int32) (s0 : Int32) (M : Mem) : Option ((Int32 × Int32 × Mem) ⊕ (Int32 × Mem)) :=
  bn (f_L_sum x1 M) fun v27 M28 =>
  (if s0 = 0 then
  fj_L_law_410 xs L x1 x2 x4 M28
  else
  bn (f_L_added x1 0 7 M28) fun v29 M30 =>
  (if v29 ≤ 0 then
  fj_L_law_410 xs L x1 x2 x4 M30
  else
  bn (f_L_sum x1 M30) fun v31 M32 =>
  (if (lg_cmp v31 v27) = 0 then
  fj_L_law_410 xs L x1 x2 x4 M32
  else
  bn (f_L_undone x1 M32) fun v33 M34 =>
  (if v33 < 0 then
  fj_L_law_410 xs L x1 x2 x4 M34
  else
  bn (f_L_sum x1 M34) fun v35 M36 =>
  (if (lg_cmp v35 v27) = 0 then
  fj_L_law_411 xs L x1 x2 x4 1 M36
  else
  fj_L_law_410 xs L x1 x2 x4 M36)))))
set_option maxHeartbeats 4000000 in
set_option maxRecDepth 100000 in
theorem tj_L_law_358 {p : Program} {l : Launch} {e : Env} {s : State} {m : MethodId} {args : Array Value} {below : List Frame} {meth : Method} {c : Code} {E : KEnv} {b L : Nat} {xs : Nat → Int32} {H : Heap} {locs : List Loc} {ls : Array Slot} {cells slots : Nat} {x1 : Nat} {x2 : Nat} {x4 : Int32} {s0 : Int32} {y1 : ((Int32 × Int32 × Mem) ⊕ (Int32 × Mem))} {n34 : Nat} {M : Mem} {M' : Mem} (hfl : l.stackTraces = false) (heB : eB E = s.heap.size) (hX : va_X b L xs s s.heap) (hbl : b < s.heap.size) (hbA : ¬ eA E b) (hargs : args = #[Value.ref b]) (hC : CallFix p m c code 11 s args lw_G RL) (hr : meth.sig.returnType = ret) (hlocks : meth.locks = false) (hE : EnvOK E s) (hy1 : (∀ q : (Int32 × Int32 × Mem), y1 = .inl q → ∀ (H : Heap) (locs : List Loc) (ls : Array Slot) (cells slots : Nat), (cells + (0 + n34 * 3083) ≤ 600086 ∧ slots + (0 + n34 * 214969) ≤ 7301442) → MOK E (q.2.2) H → va_S (eA E) s.heap H locs → lv_has ls 11 [(0, .ref b), (1, .ref x1), (2, .ref x2), (3, .int q.1), (4, .int q.2.1)] → W p l e room_1 s m args below meth c H locs cells slots (lw_Z below args s) (F0 m 34 ls [])) ∧ ∀ z, y1 = .inr z → z = (1, M')) (hcs : cells + (50 + n34 * 3083) ≤ 600086 ∧ slots + (2718 + n34 * 214969) ≤ 7301442) (h : fj_L_law_358 xs L x1 x2 x4 s0 M = some y1) (hM : MOK E M H) (hS : va_S (eA E) s.heap H locs) (hl : lv_has ls 11 [(0, .ref b), (1, .ref x1), (2, .ref x2), (4, .int x4)]) : W p l e room_1 s m args below meth c H locs cells slots (lw_Z below args s) (F0 m 358 ls [.int s0]) := by
  obtain ⟨hx, hb, hml, hown, hts⟩ := id hC
  unfold fj_L_law_358 at h
  refine lv_istore_n (lv' := [(3, .int s0), (0, .ref b), (1, .ref x1), (2, .ref x2), (4, .int x4)]) hx hb dL_law_358 rfl hl (by decide) rfl (fun ls hl => ?_)
  refine lv_aload_n hx hb dL_law_359 rfl (lv_at hl 2 rfl) ?_
  obtain ⟨v27, M28, h1, h⟩ := ob2 h
  refine kS1 (As := [.ref x1]) (rest := []) hC hE hS hM (mt_L_sum _ E x1 _ _ _ h1) (gwS qw_982 qw_983 qw_38 qw_984) ⟨rfl, rfl, (Nat.le_of_ble_eq_true rfl), (Nat.le_of_ble_eq_true rfl)⟩ dd_L_sum rfl rfl hl.1 (Nat.le_of_ble_eq_true rfl) dL_law_360 ⟨(Nat.le_trans (m := 600086) (by omega) (Nat.le_refl _)), (Nat.le_trans (m := 7301442) (by omega) (Nat.le_refl _))⟩ (fun H locs hM hS => ?_)
  refine lv_lstore (lv' := [(8, .long v27), (3, .int s0), (0, .ref b), (1, .ref x1), (2, .ref x2), (4, .int x4)]) hx hb dL_law_363 hl (by decide) rfl (fun ls hl => ?_)
  refine lv_iload_n hx hb dL_law_365 rfl (lv_at hl 1 rfl) ?_
  refine lv_if_eq (tgt := 410) hx hb dL_law_366 (by decide) (fun c1 => ?_) (fun c1 => ?_)
  · have h := ifp c1 h
    exact tj_L_law_410 hfl heB hX hbl hbA hargs hC hr hlocks hE hy1 ⟨by omega, by omega⟩ h hM hS (lv_sub hl [2, 3, 4, 5] rfl)
  · have h := ifn c1 h
    refine lv_aload_n hx hb dL_law_369 rfl (lv_at hl 3 rfl) ?_
    refine lv_iconst (v := 0) hx hb dL_law_370 (by decide) ?_
    refine lv_bipush (v := 7) hx hb dL_law_371 (by decide) ?_
    obtain ⟨v29, M30, h1, h⟩ := ob2 h
    refine kSW (As := [.ref x1, .int 0, .int 7]) (rest := []) hC hE hS hM (mt_L_added _ hfl E x1 0 7 _ _ _ h1) (gwSW qw_645 qw_646 qw_38 qz_L_added) ⟨rfl, rfl, (Nat.le_of_ble_eq_true rfl), (Nat.le_of_ble_eq_true rfl)⟩ dd_L_added rfl rfl hl.1 (Nat.le_of_ble_eq_true rfl) dL_law_373 ⟨(Nat.le_trans (m := 600086) (by omega) (Nat.le_refl _)), (Nat.le_trans (m := 7301442) (by omega) (Nat.le_refl _))⟩ (fun H locs hM hS => ?_)
    refine lv_if_le (tgt := 410) hx hb dL_law_376 (by decide) (fun c1 => ?_) (fun c1 => ?_)
    · have h := ifp c1 h
      exact tj_L_law_410 hfl heB hX hbl hbA hargs hC hr hlocks hE hy1 ⟨by omega, by omega⟩ h hM hS (lv_sub hl [2, 3, 4, 5] rfl)
    · have h := ifn c1 h
      refine lv_aload_n hx hb dL_law_379 rfl (lv_at hl 3 rfl) ?_
      obtain ⟨v31, M32, h1, h⟩ := ob2 h
      refine kS1 (As := [.ref x1]) (rest := []) hC hE hS hM (mt_L_sum _ E x1 _ _ _ h1) (gwS qw_982 qw_983 qw_38 qw_984) ⟨rfl, rfl, (Nat.le_of_ble_eq_true rfl), (Nat.le_of_ble_eq_true rfl)⟩ dd_L_sum rfl rfl hl.1 (Nat.le_of_ble_eq_true rfl) dL_law_380 ⟨(Nat.le_trans (m := 600086) (by omega) (Nat.le_refl _)), (Nat.le_trans (m := 7301442) (by omega) (Nat.le_refl _))⟩ (fun H locs hM hS => ?_)
      refine lv_lload hx hb dL_law_383 (lv_at hl 0 rfl) ?_
      refine W.lcmp hx hb dL_law_385 ?_
      refine lv_if_eq (tgt := 410) hx hb dL_law_386 (by decide) (fun c1 => ?_) (fun c1 => ?_)
      · have h := ifp c1 h
        exact tj_L_law_410 hfl heB hX hbl hbA hargs hC hr hlocks hE hy1 ⟨by omega, by omega⟩ h hM hS (lv_sub hl [2, 3, 4, 5] rfl)
      · have h := ifn c1 h
        refine lv_aload_n hx hb dL_law_389 rfl (lv_at hl 3 rfl) ?_
        obtain ⟨v33, M34, h1, h⟩ := ob2 h
        refine kSW (As := [.ref x1]) (rest := []) hC hE hS hM (mt_L_undone _ hfl E x1 _ _ _ h1) (gwSW qw_595 qw_596 qw_38 qz_L_undone) ⟨rfl, rfl, (Nat.le_of_ble_eq_true rfl), (Nat.le_of_ble_eq_true rfl)⟩ dd_L_undone rfl rfl hl.1 (Nat.le_of_ble_eq_true rfl) dL_law_390 ⟨(Nat.le_trans (m := 600086) (by omega) (Nat.le_refl _)), (Nat.le_trans (m := 7301442) (by omega) (Nat.le_refl _))⟩ (fun H locs hM hS => ?_)
        refine lv_if_lt (tgt := 410) hx hb dL_law_393 (by decide) (fun c1 => ?_) (fun c1 => ?_)
        · have h := ifp c1 h
          exact tj_L_law_410 hfl heB hX hbl hbA hargs hC hr hlocks hE hy1 ⟨by omega, by omega⟩ h hM hS (lv_sub hl [2, 3, 4, 5] rfl)
        · have h := ifn c1 h
          refine lv_aload_n hx hb dL_law_396 rfl (lv_at hl 3 rfl) ?_
          obtain ⟨v35, M36, h1, h⟩ := ob2 h
          refine kS1 (As := [.ref x1]) (rest := []) hC hE hS hM (mt_L_sum _ E x1 _ _ _ h1) (gwS qw_982 qw_983 qw_38 qw_984) ⟨rfl, rfl, (Nat.le_of_ble_eq_true rfl), (Nat.le_of_ble_eq_true rfl)⟩ dd_L_sum rfl rfl hl.1 (Nat.le_of_ble_eq_true rfl) dL_law_397 ⟨(Nat.le_trans (m := 600086) (by omega) (Nat.le_refl _)), (Nat.le_trans (m := 7301442) (by omega) (Nat.le_refl _))⟩ (fun H locs hM hS => ?_)
          refine lv_lload hx hb dL_law_400 (lv_at hl 0 rfl) ?_
          refine W.lcmp hx hb dL_law_402 ?_
          refine lv_if_ne (tgt := 410) hx hb dL_law_403 (by decide) (fun c1 => ?_) (fun c1 => ?_)
          · have h := ifn c1 h
            exact tj_L_law_410 hfl heB hX hbl hbA hargs hC hr hlocks hE hy1 ⟨by omega, by omega⟩ h hM hS (lv_sub hl [2, 3, 4, 5] rfl)
          · have h := ifp c1 h
            refine lv_iconst (v := 1) hx hb dL_law_406 (by decide) ?_
            refine lv_goto (tgt := 411) hx hb dL_law_407 (by decide) ?_
            exact tj_L_law_411 hfl heB hX hbl hbA hargs hC hr hlocks hE hy1 ⟨by omega, by omega⟩ h hM hS (lv_sub hl [2, 3, 4, 5] rfl)
noncomputable def fj_L_law_357 (xs : Nat → Int32) (L : Nat) (x1 : Nat) (x2 : Nat) (x4 : Int32) (M : Mem) : Option ((Int32 × Int32 × Mem) ⊕ (Int32 × Mem)) :=
  fj_L_law_358 xs L x1 x2 x4 0 M
set_option maxHeartbeats 4000000 in
set_option maxRecDepth 100000 in
theorem tj_L_law_357 {p : Program} {l : Launch} {e : Env} {s : State} {m : MethodId} {args : Array Value} {below : List Frame} {meth : Method} {c : Code} {E : KEnv} {b L : Nat} {xs : Nat → Int32} {H : Heap} {locs : List Loc} {ls : Array Slot} {cells slots : Nat} {x1 : Nat} {x2 : Nat} {x4 : Int32} {y1 : ((Int32 × Int32 × Mem) ⊕ (Int32 × Mem))} {n34 : Nat} {M : Mem} {M' : Mem} (hfl : l.stackTraces = false) (heB : eB E = s.heap.size) (hX : va_X b L xs s s.heap) (hbl : b < s.heap.size) (hbA : ¬ eA E b) (hargs : args = #[Value.ref b]) (hC : CallFix p m c code 11 s args lw_G RL) (hr : meth.sig.returnType = ret) (hlocks : meth.locks = false) (hE : EnvOK E s) (hy1 : (∀ q : (Int32 × Int32 × Mem), y1 = .inl q → ∀ (H : Heap) (locs : List Loc) (ls : Array Slot) (cells slots : Nat), (cells + (0 + n34 * 3083) ≤ 600086 ∧ slots + (0 + n34 * 214969) ≤ 7301442) → MOK E (q.2.2) H → va_S (eA E) s.heap H locs → lv_has ls 11 [(0, .ref b), (1, .ref x1), (2, .ref x2), (3, .int q.1), (4, .int q.2.1)] → W p l e room_1 s m args below meth c H locs cells slots (lw_Z below args s) (F0 m 34 ls [])) ∧ ∀ z, y1 = .inr z → z = (1, M')) (hcs : cells + (50 + n34 * 3083) ≤ 600086 ∧ slots + (2718 + n34 * 214969) ≤ 7301442) (h : fj_L_law_357 xs L x1 x2 x4 M = some y1) (hM : MOK E M H) (hS : va_S (eA E) s.heap H locs) (hl : lv_has ls 11 [(0, .ref b), (1, .ref x1), (2, .ref x2), (4, .int x4)]) : W p l e room_1 s m args below meth c H locs cells slots (lw_Z below args s) (F0 m 357 ls []) := by
  obtain ⟨hx, hb, hml, hown, hts⟩ := id hC
  unfold fj_L_law_357 at h
  refine lv_iconst (v := 0) hx hb dL_law_357 (by decide) ?_
  exact tj_L_law_358 hfl heB hX hbl hbA hargs hC hr hlocks hE hy1 ⟨by omega, by omega⟩ h hM hS (lv_sub hl [0, 1, 2, 3] rfl)
noncomputable def fj_L_law_321 (xs : Nat → Int32) (L : Nat) (x1 : Nat) (x2 : Nat) (x3 : Int32) (x4 : Int32) (x6 : Int64) (M : Mem) : Option ((Int32 × Int32 × Mem) ⊕ (Int32 × Mem)) :=
  (if x3 = 0 then
  fj_L_law_412 xs L x1 x2 x3 x4 M
  else
  bn (f_L_next x2 M) fun v23 M24 =>
  (if (v23 - v23 / 2 * 2) = 0 then
  bq (cK 5 x1 M24 (f_X4_restore x1 x4 M24)) fun v25 M26 =>
  (if v25 = 0 then
  bn (f_L_sum x1 M26) fun v37 M38 =>
  (if (lg_cmp v37 x6) = 0 then
  fj_L_law_358 xs L x1 x2 x4 1 M38
  else
  fj_L_law_357 xs L x1 x2 x4 M38)
  else
  fj_L_law_357 xs L x1 x2 x4 M26)
  else
  fj_L_law_412 xs L x1 x2 x3 x4 M24))
set_option maxHeartbeats 4000000 in
set_option maxRecDepth 100000 in
theorem tj_L_law_321 {p : Program} {l : Launch} {e : Env} {s : State} {m : MethodId} {args : Array Value} {below : List Frame} {meth : Method} {c : Code} {E : KEnv} {b L : Nat} {xs : Nat → Int32} {H : Heap} {locs : List Loc} {ls : Array Slot} {cells slots : Nat} {x1 : Nat} {x2 : Nat} {x3 : Int32} {x4 : Int32} {x6 : Int64} {y1 : ((Int32 × Int32 × Mem) ⊕ (Int32 × Mem))} {n34 : Nat} {M : Mem} {M' : Mem} (hfl : l.stackTraces = false) (heB : eB E = s.heap.size) (hX : va_X b L xs s s.heap) (hbl : b < s.heap.size) (hbA : ¬ eA E b) (hargs : args = #[Value.ref b]) (hC : CallFix p m c code 11 s args lw_G RL) (hr : meth.sig.returnType = ret) (hlocks : meth.locks = false) (hE : EnvOK E s) (hy1 : (∀ q : (Int32 × Int32 × Mem), y1 = .inl q → ∀ (H : Heap) (locs : List Loc) (ls : Array Slot) (cells slots : Nat), (cells + (0 + n34 * 3083) ≤ 600086 ∧ slots + (0 + n34 * 214969) ≤ 7301442) → MOK E (q.2.2) H → va_S (eA E) s.heap H locs → lv_has ls 11 [(0, .ref b), (1, .ref x1), (2, .ref x2), (3, .int q.1), (4, .int q.2.1)] → W p l e room_1 s m args below meth c H locs cells slots (lw_Z below args s) (F0 m 34 ls [])) ∧ ∀ z, y1 = .inr z → z = (1, M')) (hcs : cells + (74 + n34 * 3083) ≤ 600086 ∧ slots + (4071 + n34 * 214969) ≤ 7301442) (h : fj_L_law_321 xs L x1 x2 x3 x4 x6 M = some y1) (hM : MOK E M H) (hS : va_S (eA E) s.heap H locs) (hl : lv_has ls 11 [(0, .ref b), (1, .ref x1), (2, .ref x2), (3, .int x3), (4, .int x4), (6, .long x6)]) : W p l e room_1 s m args below meth c H locs cells slots (lw_Z below args s) (F0 m 321 ls []) := by
  obtain ⟨hx, hb, hml, hown, hts⟩ := id hC
  unfold fj_L_law_321 at h
  refine lv_iload_n hx hb dL_law_321 rfl (lv_at hl 3 rfl) ?_
  refine lv_if_eq (tgt := 412) hx hb dL_law_322 (by decide) (fun c1 => ?_) (fun c1 => ?_)
  · have h := ifp c1 h
    exact tj_L_law_412 hfl heB hX hbl hbA hargs hC hr hlocks hE hy1 ⟨by omega, by omega⟩ h hM hS (lv_sub hl [0, 1, 2, 3, 4] rfl)
  · have h := ifn c1 h
    refine lv_aload_n hx hb dL_law_325 rfl (lv_at hl 2 rfl) ?_
    obtain ⟨v23, M24, h1, h⟩ := ob2 h
    refine kS1 (As := [.ref x2]) (rest := []) hC hE hS hM (mt_L_next _ E x2 _ _ _ h1) (gwS qw_547 qw_548 qw_38 qw_549) ⟨rfl, rfl, (Nat.le_of_ble_eq_true rfl), (Nat.le_of_ble_eq_true rfl)⟩ dd_L_next rfl rfl hl.1 (Nat.le_of_ble_eq_true rfl) dL_law_326 ⟨(Nat.le_trans (m := 600086) (by omega) (Nat.le_refl _)), (Nat.le_trans (m := 7301442) (by omega) (Nat.le_refl _))⟩ (fun H locs hM hS => ?_)
    refine lv_iconst (v := 2) hx hb dL_law_329 (by decide) ?_
    refine lv_irem hx hb dL_law_330 (by decide) ?_
    refine lv_if_ne (tgt := 412) hx hb dL_law_331 (by decide) (fun c1 => ?_) (fun c1 => ?_)
    · have h := ifn c1 h
      exact tj_L_law_412 hfl heB hX hbl hbA hargs hC hr hlocks hE hy1 ⟨by omega, by omega⟩ h hM hS (lv_sub hl [0, 1, 2, 3, 4] rfl)
    · have h := ifp c1 h
      refine lv_aload_n hx hb dL_law_334 rfl (lv_at hl 1 rfl) ?_
      refine lv_iload hx hb dL_law_335 (lv_at hl 4 rfl) ?_
      obtain ⟨v25, M26, h1, h⟩ := obq h
      obtain ⟨hk1, h1⟩ := ifg h1
      refine kV1 (ci := 4) (As := [.int x4]) (rest := []) hC hE hS hM (mq_X4_restore _ E x1 x4 _ _ _ h1) (gwV qw_435 qw_436 qw_437 qw_39 qw_438) ⟨rfl, rfl, (Nat.le_of_ble_eq_true rfl), (Nat.le_of_ble_eq_true rfl)⟩ dd_X4_restore rfl hk1 rfl rfl hl.1 (Nat.le_of_ble_eq_true rfl) dL_law_337 ⟨(Nat.le_trans (m := 600086) (by omega) (Nat.le_refl _)), (Nat.le_trans (m := 7301442) (by omega) (Nat.le_refl _))⟩ (fun H locs hM hS => ?_)
      refine lv_if_ne (tgt := 357) hx hb dL_law_340 (by decide) (fun c1 => ?_) (fun c1 => ?_)
      · have h := ifn c1 h
        exact tj_L_law_357 hfl heB hX hbl hbA hargs hC hr hlocks hE hy1 ⟨by omega, by omega⟩ h hM hS (lv_sub hl [0, 1, 2, 4] rfl)
      · have h := ifp c1 h
        refine lv_aload_n hx hb dL_law_343 rfl (lv_at hl 1 rfl) ?_
        obtain ⟨v37, M38, h1, h⟩ := ob2 h
        refine kS1 (As := [.ref x1]) (rest := []) hC hE hS hM (mt_L_sum _ E x1 _ _ _ h1) (gwS qw_982 qw_983 qw_38 qw_984) ⟨rfl, rfl, (Nat.le_of_ble_eq_true rfl), (Nat.le_of_ble_eq_true rfl)⟩ dd_L_sum rfl rfl hl.1 (Nat.le_of_ble_eq_true rfl) dL_law_344 ⟨(Nat.le_trans (m := 600086) (by omega) (Nat.le_refl _)), (Nat.le_trans (m := 7301442) (by omega) (Nat.le_refl _))⟩ (fun H locs hM hS => ?_)
        refine lv_lload hx hb dL_law_347 (lv_at hl 5 rfl) ?_
        refine W.lcmp hx hb dL_law_349 ?_
        refine lv_if_ne (tgt := 357) hx hb dL_law_350 (by decide) (fun c1 => ?_) (fun c1 => ?_)
        · have h := ifn c1 h
          exact tj_L_law_357 hfl heB hX hbl hbA hargs hC hr hlocks hE hy1 ⟨by omega, by omega⟩ h hM hS (lv_sub hl [0, 1, 2, 4] rfl)
        · have h := ifp c1 h
          refine lv_iconst (v := 1) hx hb dL_law_353 (by decide) ?_
          refine lv_goto (tgt := 358) hx hb dL_law_354 (by decide) ?_
          exact tj_L_law_358 hfl heB hX hbl hbA hargs hC hr hlocks hE hy1 ⟨by omega, by omega⟩ h hM hS (lv_sub hl [0, 1, 2, 4] rfl)
noncomputable def fj_L_law_315 (xs : Nat → Int32) (L : Nat) (x1 : Nat) (x2 : Nat) (x3 : Int32) (x4 : Int32) (x5 : Int32) (x6 : Int64) (x8 : Int32) (M : Mem) : Option ((Int32 × Int32 × Mem) ⊕ ((Int32 × Int32 × Mem) ⊕ (Int32 × Mem))) :=
  some (.inl (x3, x8 + 1, M))
set_option maxHeartbeats 4000000 in
set_option maxRecDepth 100000 in
theorem tj_L_law_315 {p : Program} {l : Launch} {e : Env} {s : State} {m : MethodId} {args : Array Value} {below : List Frame} {meth : Method} {c : Code} {E : KEnv} {b L : Nat} {xs : Nat → Int32} {H : Heap} {locs : List Loc} {ls : Array Slot} {cells slots : Nat} {x1 : Nat} {x2 : Nat} {x3 : Int32} {x4 : Int32} {x5 : Int32} {x6 : Int64} {x8 : Int32} {y1 : ((Int32 × Int32 × Mem) ⊕ (Int32 × Mem))} {y2 : ((Int32 × Int32 × Mem) ⊕ ((Int32 × Int32 × Mem) ⊕ (Int32 × Mem)))} {n34 : Nat} {n126 : Nat} {M : Mem} {M' : Mem} (hfl : l.stackTraces = false) (heB : eB E = s.heap.size) (hX : va_X b L xs s s.heap) (hbl : b < s.heap.size) (hbA : ¬ eA E b) (hargs : args = #[Value.ref b]) (hC : CallFix p m c code 11 s args lw_G RL) (hr : meth.sig.returnType = ret) (hlocks : meth.locks = false) (hE : EnvOK E s) (hy1 : (∀ q : (Int32 × Int32 × Mem), y1 = .inl q → ∀ (H : Heap) (locs : List Loc) (ls : Array Slot) (cells slots : Nat), (cells + (0 + n34 * 3083) ≤ 600086 ∧ slots + (0 + n34 * 214969) ≤ 7301442) → MOK E (q.2.2) H → va_S (eA E) s.heap H locs → lv_has ls 11 [(0, .ref b), (1, .ref x1), (2, .ref x2), (3, .int q.1), (4, .int q.2.1)] → W p l e room_1 s m args below meth c H locs cells slots (lw_Z below args s) (F0 m 34 ls [])) ∧ ∀ z, y1 = .inr z → z = (1, M')) (hy2 : (∀ q : (Int32 × Int32 × Mem), y2 = .inl q → ∀ (H : Heap) (locs : List Loc) (ls : Array Slot) (cells slots : Nat), (cells + (74 + n34 * 3083 + n126 * 284) ≤ 600086 ∧ slots + (4071 + n34 * 214969 + n126 * 15003) ≤ 7301442) → MOK E (q.2.2) H → va_S (eA E) s.heap H locs → lv_has ls 11 [(0, .ref b), (1, .ref x1), (2, .ref x2), (4, .int x4), (5, .int x5), (6, .long x6), (3, .int q.1), (8, .int q.2.1)] → W p l e room_1 s m args below meth c H locs cells slots (lw_Z below args s) (F0 m 126 ls [])) ∧ ∀ z, y2 = .inr z → z = y1) (hcs : cells + (74 + n34 * 3083 + n126 * 284) ≤ 600086 ∧ slots + (4071 + n34 * 214969 + n126 * 15003) ≤ 7301442) (h : fj_L_law_315 xs L x1 x2 x3 x4 x5 x6 x8 M = some y2) (hM : MOK E M H) (hS : va_S (eA E) s.heap H locs) (hl : lv_has ls 11 [(0, .ref b), (1, .ref x1), (2, .ref x2), (3, .int x3), (4, .int x4), (5, .int x5), (6, .long x6), (8, .int x8)]) : W p l e room_1 s m args below meth c H locs cells slots (lw_Z below args s) (F0 m 315 ls []) := by
  obtain ⟨hx, hb, hml, hown, hts⟩ := id hC
  unfold fj_L_law_315 at h
  refine lv_iinc (v := x8 + 1) (lv' := [(8, .int (x8 + 1)), (0, .ref b), (1, .ref x1), (2, .ref x2), (3, .int x3), (4, .int x4), (5, .int x5), (6, .long x6)]) hx hb dL_law_315 hl (k := 7) rfl rfl (by decide) rfl (fun ls hl => ?_)
  refine lv_goto (tgt := 126) hx hb dL_law_318 (by decide) ?_
  cases h
  exact hy2.1 _ rfl _ _ _ _ _ ⟨by omega, by omega⟩ hM hS (lv_sub hl [1, 2, 3, 5, 6, 7, 4, 0] rfl)
noncomputable def fj_L_law_314 (xs : Nat → Int32) (L : Nat) (x1 : Nat) (x2 : Nat) (x4 : Int32) (x5 : Int32) (x6 : Int64) (x8 : Int32) (s0 : Int32) (M : Mem) : Option ((Int32 × Int32 × Mem) ⊕ ((Int32 × Int32 × Mem) ⊕ (Int32 × Mem))) :=
  fj_L_law_315 xs L x1 x2 s0 x4 x5 x6 x8 M
set_option maxHeartbeats 4000000 in
set_option maxRecDepth 100000 in
theorem tj_L_law_314 {p : Program} {l : Launch} {e : Env} {s : State} {m : MethodId} {args : Array Value} {below : List Frame} {meth : Method} {c : Code} {E : KEnv} {b L : Nat} {xs : Nat → Int32} {H : Heap} {locs : List Loc} {ls : Array Slot} {cells slots : Nat} {x1 : Nat} {x2 : Nat} {x4 : Int32} {x5 : Int32} {x6 : Int64} {x8 : Int32} {s0 : Int32} {y1 : ((Int32 × Int32 × Mem) ⊕ (Int32 × Mem))} {y2 : ((Int32 × Int32 × Mem) ⊕ ((Int32 × Int32 × Mem) ⊕ (Int32 × Mem)))} {n34 : Nat} {n126 : Nat} {M : Mem} {M' : Mem} (hfl : l.stackTraces = false) (heB : eB E = s.heap.size) (hX : va_X b L xs s s.heap) (hbl : b < s.heap.size) (hbA : ¬ eA E b) (hargs : args = #[Value.ref b]) (hC : CallFix p m c code 11 s args lw_G RL) (hr : meth.sig.returnType = ret) (hlocks : meth.locks = false) (hE : EnvOK E s) (hy1 : (∀ q : (Int32 × Int32 × Mem), y1 = .inl q → ∀ (H : Heap) (locs : List Loc) (ls : Array Slot) (cells slots : Nat), (cells + (0 + n34 * 3083) ≤ 600086 ∧ slots + (0 + n34 * 214969) ≤ 7301442) → MOK E (q.2.2) H → va_S (eA E) s.heap H locs → lv_has ls 11 [(0, .ref b), (1, .ref x1), (2, .ref x2), (3, .int q.1), (4, .int q.2.1)] → W p l e room_1 s m args below meth c H locs cells slots (lw_Z below args s) (F0 m 34 ls [])) ∧ ∀ z, y1 = .inr z → z = (1, M')) (hy2 : (∀ q : (Int32 × Int32 × Mem), y2 = .inl q → ∀ (H : Heap) (locs : List Loc) (ls : Array Slot) (cells slots : Nat), (cells + (74 + n34 * 3083 + n126 * 284) ≤ 600086 ∧ slots + (4071 + n34 * 214969 + n126 * 15003) ≤ 7301442) → MOK E (q.2.2) H → va_S (eA E) s.heap H locs → lv_has ls 11 [(0, .ref b), (1, .ref x1), (2, .ref x2), (4, .int x4), (5, .int x5), (6, .long x6), (3, .int q.1), (8, .int q.2.1)] → W p l e room_1 s m args below meth c H locs cells slots (lw_Z below args s) (F0 m 126 ls [])) ∧ ∀ z, y2 = .inr z → z = y1) (hcs : cells + (74 + n34 * 3083 + n126 * 284) ≤ 600086 ∧ slots + (4071 + n34 * 214969 + n126 * 15003) ≤ 7301442) (h : fj_L_law_314 xs L x1 x2 x4 x5 x6 x8 s0 M = some y2) (hM : MOK E M H) (hS : va_S (eA E) s.heap H locs) (hl : lv_has ls 11 [(0, .ref b), (1, .ref x1), (2, .ref x2), (4, .int x4), (5, .int x5), (6, .long x6), (8, .int x8)]) : W p l e room_1 s m args below meth c H locs cells slots (lw_Z below args s) (F0 m 314 ls [.int s0]) := by
  obtain ⟨hx, hb, hml, hown, hts⟩ := id hC
  unfold fj_L_law_314 at h
  refine lv_istore_n (lv' := [(3, .int s0), (0, .ref b), (1, .ref x1), (2, .ref x2), (4, .int x4), (5, .int x5), (6, .long x6), (8, .int x8)]) hx hb dL_law_314 rfl hl (by decide) rfl (fun ls hl => ?_)
  exact tj_L_law_315 hfl heB hX hbl hbA hargs hC hr hlocks hE hy1 hy2 ⟨by omega, by omega⟩ h hM hS (lv_sub hl [1, 2, 3, 0, 4, 5, 6, 7] rfl)
noncomputable def fj_L_law_288 (xs : Nat → Int32) (L : Nat) (x1 : Nat) (x2 : Nat) (x4 : Int32) (x5 : Int32) (x6 : Int64) (x8 : Int32) (s0 : Int32) (M : Mem) : Option ((Int32 × Int32 × Mem) ⊕ ((Int32 × Int32 × Mem) ⊕ (Int32 × Mem))) :=
  (if s0 = 0 then
  fj_L_law_315 xs L x1 x2 s0 x4 x5 x6 x8 M
  else
  bn (f_L_next x2 M) fun v43 M44 =>
  (if (v43 - v43 / 4 * 4) = 0 then
  bn (f_L_undone x1 M44) fun v45 M46 =>
  (if v45 < 0 then
  fj_L_law_314 xs L x1 x2 x4 x5 x6 x8 0 M46
  else
  fj_L_law_314 xs L x1 x2 x4 x5 x6 x8 1 M46)
  else
  fj_L_law_315 xs L x1 x2 s0 x4 x5 x6 x8 M44))
set_option maxHeartbeats 4000000 in
set_option maxRecDepth 100000 in
theorem tj_L_law_288 {p : Program} {l : Launch} {e : Env} {s : State} {m : MethodId} {args : Array Value} {below : List Frame} {meth : Method} {c : Code} {E : KEnv} {b L : Nat} {xs : Nat → Int32} {H : Heap} {locs : List Loc} {ls : Array Slot} {cells slots : Nat} {x1 : Nat} {x2 : Nat} {x4 : Int32} {x5 : Int32} {x6 : Int64} {x8 : Int32} {s0 : Int32} {y1 : ((Int32 × Int32 × Mem) ⊕ (Int32 × Mem))} {y2 : ((Int32 × Int32 × Mem) ⊕ ((Int32 × Int32 × Mem) ⊕ (Int32 × Mem)))} {n34 : Nat} {n126 : Nat} {M : Mem} {M' : Mem} (hfl : l.stackTraces = false) (heB : eB E = s.heap.size) (hX : va_X b L xs s s.heap) (hbl : b < s.heap.size) (hbA : ¬ eA E b) (hargs : args = #[Value.ref b]) (hC : CallFix p m c code 11 s args lw_G RL) (hr : meth.sig.returnType = ret) (hlocks : meth.locks = false) (hE : EnvOK E s) (hy1 : (∀ q : (Int32 × Int32 × Mem), y1 = .inl q → ∀ (H : Heap) (locs : List Loc) (ls : Array Slot) (cells slots : Nat), (cells + (0 + n34 * 3083) ≤ 600086 ∧ slots + (0 + n34 * 214969) ≤ 7301442) → MOK E (q.2.2) H → va_S (eA E) s.heap H locs → lv_has ls 11 [(0, .ref b), (1, .ref x1), (2, .ref x2), (3, .int q.1), (4, .int q.2.1)] → W p l e room_1 s m args below meth c H locs cells slots (lw_Z below args s) (F0 m 34 ls [])) ∧ ∀ z, y1 = .inr z → z = (1, M')) (hy2 : (∀ q : (Int32 × Int32 × Mem), y2 = .inl q → ∀ (H : Heap) (locs : List Loc) (ls : Array Slot) (cells slots : Nat), (cells + (74 + n34 * 3083 + n126 * 284) ≤ 600086 ∧ slots + (4071 + n34 * 214969 + n126 * 15003) ≤ 7301442) → MOK E (q.2.2) H → va_S (eA E) s.heap H locs → lv_has ls 11 [(0, .ref b), (1, .ref x1), (2, .ref x2), (4, .int x4), (5, .int x5), (6, .long x6), (3, .int q.1), (8, .int q.2.1)] → W p l e room_1 s m args below meth c H locs cells slots (lw_Z below args s) (F0 m 126 ls [])) ∧ ∀ z, y2 = .inr z → z = y1) (hcs : cells + (98 + n34 * 3083 + n126 * 284) ≤ 600086 ∧ slots + (5424 + n34 * 214969 + n126 * 15003) ≤ 7301442) (h : fj_L_law_288 xs L x1 x2 x4 x5 x6 x8 s0 M = some y2) (hM : MOK E M H) (hS : va_S (eA E) s.heap H locs) (hl : lv_has ls 11 [(0, .ref b), (1, .ref x1), (2, .ref x2), (4, .int x4), (5, .int x5), (6, .long x6), (8, .int x8)]) : W p l e room_1 s m args below meth c H locs cells slots (lw_Z below args s) (F0 m 288 ls [.int s0]) := by
  obtain ⟨hx, hb, hml, hown, hts⟩ := id hC
  unfold fj_L_law_288 at h
  refine lv_istore_n (lv' := [(3, .int s0), (0, .ref b), (1, .ref x1), (2, .ref x2), (4, .int x4), (5, .int x5), (6, .long x6), (8, .int x8)]) hx hb dL_law_288 rfl hl (by decide) rfl (fun ls hl => ?_)
  refine lv_iload_n hx hb dL_law_289 rfl (lv_at hl 0 rfl) ?_
  refine lv_if_eq (tgt := 315) hx hb dL_law_290 (by decide) (fun c1 => ?_) (fun c1 => ?_)
  · have h := ifp c1 h
    exact tj_L_law_315 hfl heB hX hbl hbA hargs hC hr hlocks hE hy1 hy2 ⟨by omega, by omega⟩ h hM hS (lv_sub hl [1, 2, 3, 0, 4, 5, 6, 7] rfl)
  · have h := ifn c1 h
    refine lv_aload_n hx hb dL_law_293 rfl (lv_at hl 3 rfl) ?_
    obtain ⟨v43, M44, h1, h⟩ := ob2 h
    refine kS1 (As := [.ref x2]) (rest := []) hC hE hS hM (mt_L_next _ E x2 _ _ _ h1) (gwS qw_547 qw_548 qw_38 qw_549) ⟨rfl, rfl, (Nat.le_of_ble_eq_true rfl), (Nat.le_of_ble_eq_true rfl)⟩ dd_L_next rfl rfl hl.1 (Nat.le_of_ble_eq_true rfl) dL_law_294 ⟨(Nat.le_trans (m := 600086) (by omega) (Nat.le_refl _)), (Nat.le_trans (m := 7301442) (by omega) (Nat.le_refl _))⟩ (fun H locs hM hS => ?_)
    refine lv_iconst (v := 4) hx hb dL_law_297 (by decide) ?_
    refine lv_irem hx hb dL_law_298 (by decide) ?_
    refine lv_if_ne (tgt := 315) hx hb dL_law_299 (by decide) (fun c1 => ?_) (fun c1 => ?_)
    · have h := ifn c1 h
      exact tj_L_law_315 hfl heB hX hbl hbA hargs hC hr hlocks hE hy1 hy2 ⟨by omega, by omega⟩ h hM hS (lv_sub hl [1, 2, 3, 0, 4, 5, 6, 7] rfl)
    · have h := ifp c1 h
      refine lv_aload_n hx hb dL_law_302 rfl (lv_at hl 2 rfl) ?_
      obtain ⟨v45, M46, h1, h⟩ := ob2 h
      refine kSW (As := [.ref x1]) (rest := []) hC hE hS hM (mt_L_undone _ hfl E x1 _ _ _ h1) (gwSW qw_595 qw_596 qw_38 qz_L_undone) ⟨rfl, rfl, (Nat.le_of_ble_eq_true rfl), (Nat.le_of_ble_eq_true rfl)⟩ dd_L_undone rfl rfl hl.1 (Nat.le_of_ble_eq_true rfl) dL_law_303 ⟨(Nat.le_trans (m := 600086) (by omega) (Nat.le_refl _)), (Nat.le_trans (m := 7301442) (by omega) (Nat.le_refl _))⟩ (fun H locs hM hS => ?_)
      refine lv_if_lt (tgt := 313) hx hb dL_law_306 (by decide) (fun c1 => ?_) (fun c1 => ?_)
      · have h := ifp c1 h
        refine lv_iconst (v := 0) hx hb dL_law_313 (by decide) ?_
        exact tj_L_law_314 hfl heB hX hbl hbA hargs hC hr hlocks hE hy1 hy2 ⟨by omega, by omega⟩ h hM hS (lv_sub hl [1, 2, 3, 4, 5, 6, 7] rfl)
      · have h := ifn c1 h
        refine lv_iconst (v := 1) hx hb dL_law_309 (by decide) ?_
        refine lv_goto (tgt := 314) hx hb dL_law_310 (by decide) ?_
        exact tj_L_law_314 hfl heB hX hbl hbA hargs hC hr hlocks hE hy1 hy2 ⟨by omega, by omega⟩ h hM hS (lv_sub hl [1, 2, 3, 4, 5, 6, 7] rfl)
noncomputable def fj_L_law_287 (xs : Nat → Int32) (L : Nat) (x1 : Nat) (x2 : Nat) (x4 : Int32) (x5 : Int32) (x6 : Int64) (x8 : Int32) (M : Mem) : Option ((Int32 × Int32 × Mem) ⊕ ((Int32 × Int32 × Mem) ⊕ (Int32 × Mem))) :=
  fj_L_law_288 xs L x1 x2 x4 x5 x6 x8 0 M
set_option maxHeartbeats 4000000 in
set_option maxRecDepth 100000 in
theorem tj_L_law_287 {p : Program} {l : Launch} {e : Env} {s : State} {m : MethodId} {args : Array Value} {below : List Frame} {meth : Method} {c : Code} {E : KEnv} {b L : Nat} {xs : Nat → Int32} {H : Heap} {locs : List Loc} {ls : Array Slot} {cells slots : Nat} {x1 : Nat} {x2 : Nat} {x4 : Int32} {x5 : Int32} {x6 : Int64} {x8 : Int32} {y1 : ((Int32 × Int32 × Mem) ⊕ (Int32 × Mem))} {y2 : ((Int32 × Int32 × Mem) ⊕ ((Int32 × Int32 × Mem) ⊕ (Int32 × Mem)))} {n34 : Nat} {n126 : Nat} {M : Mem} {M' : Mem} (hfl : l.stackTraces = false) (heB : eB E = s.heap.size) (hX : va_X b L xs s s.heap) (hbl : b < s.heap.size) (hbA : ¬ eA E b) (hargs : args = #[Value.ref b]) (hC : CallFix p m c code 11 s args lw_G RL) (hr : meth.sig.returnType = ret) (hlocks : meth.locks = false) (hE : EnvOK E s) (hy1 : (∀ q : (Int32 × Int32 × Mem), y1 = .inl q → ∀ (H : Heap) (locs : List Loc) (ls : Array Slot) (cells slots : Nat), (cells + (0 + n34 * 3083) ≤ 600086 ∧ slots + (0 + n34 * 214969) ≤ 7301442) → MOK E (q.2.2) H → va_S (eA E) s.heap H locs → lv_has ls 11 [(0, .ref b), (1, .ref x1), (2, .ref x2), (3, .int q.1), (4, .int q.2.1)] → W p l e room_1 s m args below meth c H locs cells slots (lw_Z below args s) (F0 m 34 ls [])) ∧ ∀ z, y1 = .inr z → z = (1, M')) (hy2 : (∀ q : (Int32 × Int32 × Mem), y2 = .inl q → ∀ (H : Heap) (locs : List Loc) (ls : Array Slot) (cells slots : Nat), (cells + (74 + n34 * 3083 + n126 * 284) ≤ 600086 ∧ slots + (4071 + n34 * 214969 + n126 * 15003) ≤ 7301442) → MOK E (q.2.2) H → va_S (eA E) s.heap H locs → lv_has ls 11 [(0, .ref b), (1, .ref x1), (2, .ref x2), (4, .int x4), (5, .int x5), (6, .long x6), (3, .int q.1), (8, .int q.2.1)] → W p l e room_1 s m args below meth c H locs cells slots (lw_Z below args s) (F0 m 126 ls [])) ∧ ∀ z, y2 = .inr z → z = y1) (hcs : cells + (98 + n34 * 3083 + n126 * 284) ≤ 600086 ∧ slots + (5424 + n34 * 214969 + n126 * 15003) ≤ 7301442) (h : fj_L_law_287 xs L x1 x2 x4 x5 x6 x8 M = some y2) (hM : MOK E M H) (hS : va_S (eA E) s.heap H locs) (hl : lv_has ls 11 [(0, .ref b), (1, .ref x1), (2, .ref x2), (4, .int x4), (5, .int x5), (6, .long x6), (8, .int x8)]) : W p l e room_1 s m args below meth c H locs cells slots (lw_Z below args s) (F0 m 287 ls []) := by
  obtain ⟨hx, hb, hml, hown, hts⟩ := id hC
  unfold fj_L_law_287 at h
  refine lv_iconst (v := 0) hx hb dL_law_287 (by decide) ?_
  exact tj_L_law_288 hfl heB hX hbl hbA hargs hC hr hlocks hE hy1 hy2 ⟨by omega, by omega⟩ h hM hS (lv_sub hl [0, 1, 2, 3, 4, 5, 6] rfl)
noncomputable def fj_L_law_249 (xs : Nat → Int32) (L : Nat) (x1 : Nat) (x2 : Nat) (x4 : Int32) (x5 : Int32) (x6 : Int64) (x8 : Int32) (s0 : Int32) (M : Mem) : Option ((Int32 × Int32 × Mem) ⊕ ((Int32 × Int32 × Mem) ⊕ (Int32 × Mem))) :=
  (if s0 = 0 then
  fj_L_law_287 xs L x1 x2 x4 x5 x6 x8 M
  else
  bn (f_L_act x1 x2 M) fun v47 M48 =>
  (if v47 = 0 then
  fj_L_law_287 xs L x1 x2 x4 x5 x6 x8 M48
  else
  bn (f_L_next x2 M48) fun v49 M50 =>
  (gz x5).bind fun _ =>
  bn (f_L_replica x1 (v49 - v49 / x5 * x5) M50) fun v51 M52 =>
  (if v51 = 0 then
  fj_L_law_287 xs L x1 x2 x4 x5 x6 x8 M52
  else
  bn (f_L_pairs x1 M52) fun v53 M54 =>
  (if v53 = 0 then
  fj_L_law_287 xs L x1 x2 x4 x5 x6 x8 M54
  else
  fj_L_law_288 xs L x1 x2 x4 x5 x6 x8 1 M54))))
set_option maxHeartbeats 4000000 in
set_option maxRecDepth 100000 in
theorem tj_L_law_249 {p : Program} {l : Launch} {e : Env} {s : State} {m : MethodId} {args : Array Value} {below : List Frame} {meth : Method} {c : Code} {E : KEnv} {b L : Nat} {xs : Nat → Int32} {H : Heap} {locs : List Loc} {ls : Array Slot} {cells slots : Nat} {x1 : Nat} {x2 : Nat} {x4 : Int32} {x5 : Int32} {x6 : Int64} {x8 : Int32} {s0 : Int32} {y1 : ((Int32 × Int32 × Mem) ⊕ (Int32 × Mem))} {y2 : ((Int32 × Int32 × Mem) ⊕ ((Int32 × Int32 × Mem) ⊕ (Int32 × Mem)))} {n34 : Nat} {n126 : Nat} {M : Mem} {M' : Mem} (hfl : l.stackTraces = false) (heB : eB E = s.heap.size) (hX : va_X b L xs s s.heap) (hbl : b < s.heap.size) (hbA : ¬ eA E b) (hargs : args = #[Value.ref b]) (hC : CallFix p m c code 11 s args lw_G RL) (hr : meth.sig.returnType = ret) (hlocks : meth.locks = false) (hE : EnvOK E s) (hy1 : (∀ q : (Int32 × Int32 × Mem), y1 = .inl q → ∀ (H : Heap) (locs : List Loc) (ls : Array Slot) (cells slots : Nat), (cells + (0 + n34 * 3083) ≤ 600086 ∧ slots + (0 + n34 * 214969) ≤ 7301442) → MOK E (q.2.2) H → va_S (eA E) s.heap H locs → lv_has ls 11 [(0, .ref b), (1, .ref x1), (2, .ref x2), (3, .int q.1), (4, .int q.2.1)] → W p l e room_1 s m args below meth c H locs cells slots (lw_Z below args s) (F0 m 34 ls [])) ∧ ∀ z, y1 = .inr z → z = (1, M')) (hy2 : (∀ q : (Int32 × Int32 × Mem), y2 = .inl q → ∀ (H : Heap) (locs : List Loc) (ls : Array Slot) (cells slots : Nat), (cells + (74 + n34 * 3083 + n126 * 284) ≤ 600086 ∧ slots + (4071 + n34 * 214969 + n126 * 15003) ≤ 7301442) → MOK E (q.2.2) H → va_S (eA E) s.heap H locs → lv_has ls 11 [(0, .ref b), (1, .ref x1), (2, .ref x2), (4, .int x4), (5, .int x5), (6, .long x6), (3, .int q.1), (8, .int q.2.1)] → W p l e room_1 s m args below meth c H locs cells slots (lw_Z below args s) (F0 m 126 ls [])) ∧ ∀ z, y2 = .inr z → z = y1) (hcs : cells + (152 + n34 * 3083 + n126 * 284) ≤ 600086 ∧ slots + (8166 + n34 * 214969 + n126 * 15003) ≤ 7301442) (h : fj_L_law_249 xs L x1 x2 x4 x5 x6 x8 s0 M = some y2) (hM : MOK E M H) (hS : va_S (eA E) s.heap H locs) (hl : lv_has ls 11 [(0, .ref b), (1, .ref x1), (2, .ref x2), (4, .int x4), (5, .int x5), (6, .long x6), (8, .int x8)]) : W p l e room_1 s m args below meth c H locs cells slots (lw_Z below args s) (F0 m 249 ls [.int s0]) := by
  obtain ⟨hx, hb, hml, hown, hts⟩ := id hC
  unfold fj_L_law_249 at h
  refine lv_istore_n (lv' := [(3, .int s0), (0, .ref b), (1, .ref x1), (2, .ref x2), (4, .int x4), (5, .int x5), (6, .long x6), (8, .int x8)]) hx hb dL_law_249 rfl hl (by decide) rfl (fun ls hl => ?_)
  refine lv_iload_n hx hb dL_law_250 rfl (lv_at hl 0 rfl) ?_
  refine lv_if_eq (tgt := 287) hx hb dL_law_251 (by decide) (fun c1 => ?_) (fun c1 => ?_)
  · have h := ifp c1 h
    exact tj_L_law_287 hfl heB hX hbl hbA hargs hC hr hlocks hE hy1 hy2 ⟨by omega, by omega⟩ h hM hS (lv_sub hl [1, 2, 3, 4, 5, 6, 7] rfl)
  · have h := ifn c1 h
    refine lv_aload_n hx hb dL_law_254 rfl (lv_at hl 2 rfl) ?_
    refine lv_aload_n hx hb dL_law_255 rfl (lv_at hl 3 rfl) ?_
    obtain ⟨v47, M48, h1, h⟩ := ob2 h
    refine kS1 (As := [.ref x1, .ref x2]) (rest := []) hC hE hS hM (mt_L_act _ hfl E x1 x2 _ _ _ h1) (gwS qw_1175 qw_1176 qw_38 qw_1177) ⟨rfl, rfl, (Nat.le_of_ble_eq_true rfl), (Nat.le_of_ble_eq_true rfl)⟩ dd_L_act rfl rfl hl.1 (Nat.le_of_ble_eq_true rfl) dL_law_256 ⟨(Nat.le_trans (m := 600086) (by omega) (Nat.le_refl _)), (Nat.le_trans (m := 7301442) (by omega) (Nat.le_refl _))⟩ (fun H locs hM hS => ?_)
    refine lv_if_eq (tgt := 287) hx hb dL_law_259 (by decide) (fun c1 => ?_) (fun c1 => ?_)
    · have h := ifp c1 h
      exact tj_L_law_287 hfl heB hX hbl hbA hargs hC hr hlocks hE hy1 hy2 ⟨by omega, by omega⟩ h hM hS (lv_sub hl [1, 2, 3, 4, 5, 6, 7] rfl)
    · have h := ifn c1 h
      refine lv_aload_n hx hb dL_law_262 rfl (lv_at hl 2 rfl) ?_
      refine lv_aload_n hx hb dL_law_263 rfl (lv_at hl 3 rfl) ?_
      obtain ⟨v49, M50, h1, h⟩ := ob2 h
      refine kS1 (As := [.ref x2]) (rest := [.ref x1]) hC hE hS hM (mt_L_next _ E x2 _ _ _ h1) (gwS qw_547 qw_548 qw_38 qw_549) ⟨rfl, rfl, (Nat.le_of_ble_eq_true rfl), (Nat.le_of_ble_eq_true rfl)⟩ dd_L_next rfl rfl hl.1 (Nat.le_of_ble_eq_true rfl) dL_law_264 ⟨(Nat.le_trans (m := 600086) (by omega) (Nat.le_refl _)), (Nat.le_trans (m := 7301442) (by omega) (Nat.le_refl _))⟩ (fun H locs hM hS => ?_)
      refine lv_iload hx hb dL_law_267 (lv_at hl 5 rfl) ?_
      obtain ⟨_, h1, h⟩ := ob h
      have hne := (ifs h1).1
      refine lv_irem hx hb dL_law_269 hne ?_
      obtain ⟨v51, M52, h1, h⟩ := ob2 h
      refine kS1 (As := [.ref x1, .int (v49 - v49 / x5 * x5)]) (rest := []) hC hE hS hM (mt_L_replica _ hfl E x1 (v49 - v49 / x5 * x5) _ _ _ h1) (gwS qw_1052 qw_1053 qw_38 qw_1054) ⟨rfl, rfl, (Nat.le_of_ble_eq_true rfl), (Nat.le_of_ble_eq_true rfl)⟩ dd_L_replica rfl rfl hl.1 (Nat.le_of_ble_eq_true rfl) dL_law_270 ⟨(Nat.le_trans (m := 600086) (by omega) (Nat.le_refl _)), (Nat.le_trans (m := 7301442) (by omega) (Nat.le_refl _))⟩ (fun H locs hM hS => ?_)
      refine lv_if_eq (tgt := 287) hx hb dL_law_273 (by decide) (fun c1 => ?_) (fun c1 => ?_)
      · have h := ifp c1 h
        exact tj_L_law_287 hfl heB hX hbl hbA hargs hC hr hlocks hE hy1 hy2 ⟨by omega, by omega⟩ h hM hS (lv_sub hl [1, 2, 3, 4, 5, 6, 7] rfl)
      · have h := ifn c1 h
        refine lv_aload_n hx hb dL_law_276 rfl (lv_at hl 2 rfl) ?_
        obtain ⟨v53, M54, h1, h⟩ := ob2 h
        refine kS1 (As := [.ref x1]) (rest := []) hC hE hS hM (mt_L_pairs _ E x1 _ _ _ h1) (gwS qw_1107 qw_1108 qw_38 qw_1109) ⟨rfl, rfl, (Nat.le_of_ble_eq_true rfl), (Nat.le_of_ble_eq_true rfl)⟩ dd_L_pairs rfl rfl hl.1 (Nat.le_of_ble_eq_true rfl) dL_law_277 ⟨(Nat.le_trans (m := 600086) (by omega) (Nat.le_refl _)), (Nat.le_trans (m := 7301442) (by omega) (Nat.le_refl _))⟩ (fun H locs hM hS => ?_)
        refine lv_if_eq (tgt := 287) hx hb dL_law_280 (by decide) (fun c1 => ?_) (fun c1 => ?_)
        · have h := ifp c1 h
          exact tj_L_law_287 hfl heB hX hbl hbA hargs hC hr hlocks hE hy1 hy2 ⟨by omega, by omega⟩ h hM hS (lv_sub hl [1, 2, 3, 4, 5, 6, 7] rfl)
        · have h := ifn c1 h
          refine lv_iconst (v := 1) hx hb dL_law_283 (by decide) ?_
          refine lv_goto (tgt := 288) hx hb dL_law_284 (by decide) ?_
          exact tj_L_law_288 hfl heB hX hbl hbA hargs hC hr hlocks hE hy1 hy2 ⟨by omega, by omega⟩ h hM hS (lv_sub hl [1, 2, 3, 4, 5, 6, 7] rfl)
noncomputable def fj_L_law_248 (xs : Nat → Int32) (L : Nat) (x1 : Nat) (x2 : Nat) (x4 : Int32) (x5 : Int32) (x6 : Int64) (x8 : Int32) (M : Mem) : Option ((Int32 × Int32 × Mem) ⊕ ((Int32 × Int32 × Mem) ⊕ (Int32 × Mem))) :=
  fj_L_law_249 xs L x1 x2 x4 x5 x6 x8 0 M
set_option maxHeartbeats 4000000 in
set_option maxRecDepth 100000 in
theorem tj_L_law_248 {p : Program} {l : Launch} {e : Env} {s : State} {m : MethodId} {args : Array Value} {below : List Frame} {meth : Method} {c : Code} {E : KEnv} {b L : Nat} {xs : Nat → Int32} {H : Heap} {locs : List Loc} {ls : Array Slot} {cells slots : Nat} {x1 : Nat} {x2 : Nat} {x4 : Int32} {x5 : Int32} {x6 : Int64} {x8 : Int32} {y1 : ((Int32 × Int32 × Mem) ⊕ (Int32 × Mem))} {y2 : ((Int32 × Int32 × Mem) ⊕ ((Int32 × Int32 × Mem) ⊕ (Int32 × Mem)))} {n34 : Nat} {n126 : Nat} {M : Mem} {M' : Mem} (hfl : l.stackTraces = false) (heB : eB E = s.heap.size) (hX : va_X b L xs s s.heap) (hbl : b < s.heap.size) (hbA : ¬ eA E b) (hargs : args = #[Value.ref b]) (hC : CallFix p m c code 11 s args lw_G RL) (hr : meth.sig.returnType = ret) (hlocks : meth.locks = false) (hE : EnvOK E s) (hy1 : (∀ q : (Int32 × Int32 × Mem), y1 = .inl q → ∀ (H : Heap) (locs : List Loc) (ls : Array Slot) (cells slots : Nat), (cells + (0 + n34 * 3083) ≤ 600086 ∧ slots + (0 + n34 * 214969) ≤ 7301442) → MOK E (q.2.2) H → va_S (eA E) s.heap H locs → lv_has ls 11 [(0, .ref b), (1, .ref x1), (2, .ref x2), (3, .int q.1), (4, .int q.2.1)] → W p l e room_1 s m args below meth c H locs cells slots (lw_Z below args s) (F0 m 34 ls [])) ∧ ∀ z, y1 = .inr z → z = (1, M')) (hy2 : (∀ q : (Int32 × Int32 × Mem), y2 = .inl q → ∀ (H : Heap) (locs : List Loc) (ls : Array Slot) (cells slots : Nat), (cells + (74 + n34 * 3083 + n126 * 284) ≤ 600086 ∧ slots + (4071 + n34 * 214969 + n126 * 15003) ≤ 7301442) → MOK E (q.2.2) H → va_S (eA E) s.heap H locs → lv_has ls 11 [(0, .ref b), (1, .ref x1), (2, .ref x2), (4, .int x4), (5, .int x5), (6, .long x6), (3, .int q.1), (8, .int q.2.1)] → W p l e room_1 s m args below meth c H locs cells slots (lw_Z below args s) (F0 m 126 ls [])) ∧ ∀ z, y2 = .inr z → z = y1) (hcs : cells + (152 + n34 * 3083 + n126 * 284) ≤ 600086 ∧ slots + (8166 + n34 * 214969 + n126 * 15003) ≤ 7301442) (h : fj_L_law_248 xs L x1 x2 x4 x5 x6 x8 M = some y2) (hM : MOK E M H) (hS : va_S (eA E) s.heap H locs) (hl : lv_has ls 11 [(0, .ref b), (1, .ref x1), (2, .ref x2), (4, .int x4), (5, .int x5), (6, .long x6), (8, .int x8)]) : W p l e room_1 s m args below meth c H locs cells slots (lw_Z below args s) (F0 m 248 ls []) := by
  obtain ⟨hx, hb, hml, hown, hts⟩ := id hC
  unfold fj_L_law_248 at h
  refine lv_iconst (v := 0) hx hb dL_law_248 (by decide) ?_
  exact tj_L_law_249 hfl heB hX hbl hbA hargs hC hr hlocks hE hy1 hy2 ⟨by omega, by omega⟩ h hM hS (lv_sub hl [0, 1, 2, 3, 4, 5, 6] rfl)
noncomputable def fc_L_law_126 (xs : Nat → Int32) (L : Nat) (x1 : Nat) (x2 : Nat) (x4 : Int32) (x5 : Int32) (x6 : Int64) (x3 : Int32) (x8 : Int32) (M : Mem) : Option ((Int32 × Int32 × Mem) ⊕ ((Int32 × Int32 × Mem) ⊕ (Int32 × Mem))) :=
  (if (9 : Int32) ≤ x8 then
  (fj_L_law_321 xs L x1 x2 x3 x4 x6 M).map Sum.inr
  else
  (if x3 = 0 then
  (fj_L_law_321 xs L x1 x2 x3 x4 x6 M).map Sum.inr
  else
  bn (f_L_sum x1 M) fun v39 M40 =>
  bn (f_L_counted x1 4 0 1 M40) fun v41 M42 =>
  (if v41 = (-99995) then
  bn (f_L_added x1 0 16 M42) fun v55 M56 =>
  (if v55 = (-5) then
  bn (f_L_removed x1 4 0 M56) fun v57 M58 =>
  (if v57 = (-5) then
  bn (f_L_written x1 (-1) 0 0 M58) fun v59 M60 =>
  (if v59 = (-5) then
  bn (f_L_merged x1 0 4 M60) fun v61 M62 =>
  (if v61 = (-5) then
  bn (f_L_sent x1 4 M62) fun v63 M64 =>
  (if v63 = (-5) then
  bn (f_L_delivered x1 6 0 M64) fun v65 M66 =>
  (if v65 = (-5) then
  bn (f_L_dropped x1 6 M66) fun v67 M68 =>
  (if v67 = (-5) then
  bn (f_L_sum x1 M68) fun v69 M70 =>
  (if (lg_cmp v69 v39) = 0 then
  fj_L_law_249 xs L x1 x2 x4 x5 x6 x8 1 M70
  else
  fj_L_law_248 xs L x1 x2 x4 x5 x6 x8 M70)
  else
  fj_L_law_248 xs L x1 x2 x4 x5 x6 x8 M68)
  else
  fj_L_law_248 xs L x1 x2 x4 x5 x6 x8 M66)
  else
  fj_L_law_248 xs L x1 x2 x4 x5 x6 x8 M64)
  else
  fj_L_law_248 xs L x1 x2 x4 x5 x6 x8 M62)
  else
  fj_L_law_248 xs L x1 x2 x4 x5 x6 x8 M60)
  else
  fj_L_law_248 xs L x1 x2 x4 x5 x6 x8 M58)
  else
  fj_L_law_248 xs L x1 x2 x4 x5 x6 x8 M56)
  else
  fj_L_law_248 xs L x1 x2 x4 x5 x6 x8 M42)))
noncomputable def fj_L_law_126 (xs : Nat → Int32) (L : Nat) (x1 : Nat) (x2 : Nat) (x4 : Int32) (x5 : Int32) (x6 : Int64) (x3 : Int32) (x8 : Int32) (M : Mem) : Option ((Int32 × Int32 × Mem) ⊕ (Int32 × Mem)) := loopM (fun q : (Int32 × Int32 × Mem) => fc_L_law_126 xs L x1 x2 x4 x5 x6 q.1 q.2.1 q.2.2) 10 (x3, x8, M)
set_option maxHeartbeats 4000000 in
set_option maxRecDepth 100000 in
theorem tj_L_law_126 {p : Program} {l : Launch} {e : Env} {s : State} {m : MethodId} {args : Array Value} {below : List Frame} {meth : Method} {c : Code} {E : KEnv} {b L : Nat} {xs : Nat → Int32} {H : Heap} {locs : List Loc} {ls : Array Slot} {cells slots : Nat} {x1 : Nat} {x2 : Nat} {x4 : Int32} {x5 : Int32} {x6 : Int64} {x3 : Int32} {x8 : Int32} {y1 : ((Int32 × Int32 × Mem) ⊕ (Int32 × Mem))} {n34 : Nat} {M : Mem} {M' : Mem} (hfl : l.stackTraces = false) (heB : eB E = s.heap.size) (hX : va_X b L xs s s.heap) (hbl : b < s.heap.size) (hbA : ¬ eA E b) (hargs : args = #[Value.ref b]) (hC : CallFix p m c code 11 s args lw_G RL) (hr : meth.sig.returnType = ret) (hlocks : meth.locks = false) (hE : EnvOK E s) (hy1 : (∀ q : (Int32 × Int32 × Mem), y1 = .inl q → ∀ (H : Heap) (locs : List Loc) (ls : Array Slot) (cells slots : Nat), (cells + (0 + n34 * 3083) ≤ 600086 ∧ slots + (0 + n34 * 214969) ≤ 7301442) → MOK E (q.2.2) H → va_S (eA E) s.heap H locs → lv_has ls 11 [(0, .ref b), (1, .ref x1), (2, .ref x2), (3, .int q.1), (4, .int q.2.1)] → W p l e room_1 s m args below meth c H locs cells slots (lw_Z below args s) (F0 m 34 ls [])) ∧ ∀ z, y1 = .inr z → z = (1, M')) (hcs : cells + (74 + n34 * 3083 + 10 * 284) ≤ 600086 ∧ slots + (4071 + n34 * 214969 + 10 * 15003) ≤ 7301442) (h : fj_L_law_126 xs L x1 x2 x4 x5 x6 x3 x8 M = some y1) (hM : MOK E M H) (hS : va_S (eA E) s.heap H locs) (hl : lv_has ls 11 [(0, .ref b), (1, .ref x1), (2, .ref x2), (4, .int x4), (5, .int x5), (6, .long x6), (3, .int x3), (8, .int x8)]) : W p l e room_1 s m args below meth c H locs cells slots (lw_Z below args s) (F0 m 126 ls []) := by
  refine loopM_indF (body := fun q : (Int32 × Int32 × Mem) => fc_L_law_126 xs L x1 x2 x4 x5 x6 q.1 q.2.1 q.2.2) (x0 := y1) (Wd := fun n126 q => ∀ (H : Heap) (locs : List Loc) (ls : Array Slot) (cells slots : Nat), (cells + (74 + n34 * 3083 + n126 * 284) ≤ 600086 ∧ slots + (4071 + n34 * 214969 + n126 * 15003) ≤ 7301442) → MOK E (q.2.2) H → va_S (eA E) s.heap H locs → lv_has ls 11 [(0, .ref b), (1, .ref x1), (2, .ref x2), (4, .int x4), (5, .int x5), (6, .long x6), (3, .int q.1), (8, .int q.2.1)] → W p l e room_1 s m args below meth c H locs cells slots (lw_Z below args s) (F0 m 126 ls [])) ?_ 10 (x3, x8, M) h H locs ls cells slots hcs hM hS hl
  clear h hM hS hl hcs H locs ls M cells slots x3 x8
  obtain ⟨hx, hb, hml, hown, hts⟩ := id hC
  intro n126 q y2 h hy2 H locs ls cells slots hcs hM hS hl
  obtain ⟨x3, x8, M⟩ := q
  have h : fc_L_law_126 xs L x1 x2 x4 x5 x6 x3 x8 M = some y2 := h
  have hM : MOK E M H := hM
  have hl : lv_has ls 11 [(0, .ref b), (1, .ref x1), (2, .ref x2), (4, .int x4), (5, .int x5), (6, .long x6), (3, .int x3), (8, .int x8)] := hl
  have hcs : cells + (74 + n34 * 3083 + (n126 + 1) * 284) ≤ 600086 ∧ slots + (4071 + n34 * 214969 + (n126 + 1) * 15003) ≤ 7301442 := hcs
  unfold fc_L_law_126 at h
  show W p l e room_1 s m args below meth c H locs cells slots _ _
  refine lv_iload hx hb dL_law_126 (lv_at hl 7 rfl) ?_
  refine lv_bipush (v := 9) hx hb dL_law_128 (by decide) ?_
  refine lv_icmp_ge (tgt := 321) hx hb dL_law_130 (by decide) (fun c1 => ?_) (fun c1 => ?_)
  · have h := ifp c1 h
    obtain ⟨z0, h9, rfl⟩ := om h
    have e0 := hy2.2 _ rfl
    subst e0
    have h := h9
    exact tj_L_law_321 hfl heB hX hbl hbA hargs hC hr hlocks hE hy1 ⟨by omega, by omega⟩ h hM hS (lv_sub hl [0, 1, 2, 6, 3, 5] rfl)
  · have h := ifn c1 h
    refine lv_iload_n hx hb dL_law_133 rfl (lv_at hl 6 rfl) ?_
    refine lv_if_eq (tgt := 321) hx hb dL_law_134 (by decide) (fun c1 => ?_) (fun c1 => ?_)
    · have h := ifp c1 h
      obtain ⟨z0, h9, rfl⟩ := om h
      have e0 := hy2.2 _ rfl
      subst e0
      have h := h9
      exact tj_L_law_321 hfl heB hX hbl hbA hargs hC hr hlocks hE hy1 ⟨by omega, by omega⟩ h hM hS (lv_sub hl [0, 1, 2, 6, 3, 5] rfl)
    · have h := ifn c1 h
      refine lv_aload_n hx hb dL_law_137 rfl (lv_at hl 1 rfl) ?_
      obtain ⟨v39, M40, h1, h⟩ := ob2 h
      refine kS1 (As := [.ref x1]) (rest := []) hC hE hS hM (mt_L_sum _ E x1 _ _ _ h1) (gwS qw_982 qw_983 qw_38 qw_984) ⟨rfl, rfl, (Nat.le_of_ble_eq_true rfl), (Nat.le_of_ble_eq_true rfl)⟩ dd_L_sum rfl rfl hl.1 (Nat.le_of_ble_eq_true rfl) dL_law_138 ⟨(Nat.le_trans (m := 600086) (by omega) (Nat.le_refl _)), (Nat.le_trans (m := 7301442) (by omega) (Nat.le_refl _))⟩ (fun H locs hM hS => ?_)
      refine lv_lstore (lv' := [(9, .long v39), (0, .ref b), (1, .ref x1), (2, .ref x2), (4, .int x4), (5, .int x5), (6, .long x6), (3, .int x3), (8, .int x8)]) hx hb dL_law_141 hl (by decide) rfl (fun ls hl => ?_)
      refine lv_aload_n hx hb dL_law_143 rfl (lv_at hl 2 rfl) ?_
      refine lv_iconst (v := 4) hx hb dL_law_144 (by decide) ?_
      refine lv_iconst (v := 0) hx hb dL_law_145 (by decide) ?_
      refine lv_iconst (v := 1) hx hb dL_law_146 (by decide) ?_
      obtain ⟨v41, M42, h1, h⟩ := ob2 h
      refine kSW (As := [.ref x1, .int 4, .int 0, .int 1]) (rest := []) hC hE hS hM (mt_L_counted _ hfl E x1 4 0 1 _ _ _ h1) (gwSW qw_608 qw_609 qw_38 qz_L_counted) ⟨rfl, rfl, (Nat.le_of_ble_eq_true rfl), (Nat.le_of_ble_eq_true rfl)⟩ dd_L_counted rfl rfl hl.1 (Nat.le_of_ble_eq_true rfl) dL_law_147 ⟨(Nat.le_trans (m := 600086) (by omega) (Nat.le_refl _)), (Nat.le_trans (m := 7301442) (by omega) (Nat.le_refl _))⟩ (fun H locs hM hS => ?_)
      refine lv_ldc (v := (-99995)) hx hb hown (hts _ qw_643) dL_law_150 ?_
      refine lv_icmp_ne (tgt := 248) hx hb dL_law_152 (by decide) (fun c1 => ?_) (fun c1 => ?_)
      · have h := ifn c1 h
        exact tj_L_law_248 hfl heB hX hbl hbA hargs hC hr hlocks hE hy1 hy2 ⟨by omega, by omega⟩ h hM hS (lv_sub hl [1, 2, 3, 4, 5, 6, 8] rfl)
      · have h := ifp c1 h
        refine lv_aload_n hx hb dL_law_155 rfl (lv_at hl 2 rfl) ?_
        refine lv_iconst (v := 0) hx hb dL_law_156 (by decide) ?_
        refine lv_bipush (v := 16) hx hb dL_law_157 (by decide) ?_
        obtain ⟨v55, M56, h1, h⟩ := ob2 h
        refine kSW (As := [.ref x1, .int 0, .int 16]) (rest := []) hC hE hS hM (mt_L_added _ hfl E x1 0 16 _ _ _ h1) (gwSW qw_645 qw_646 qw_38 qz_L_added) ⟨rfl, rfl, (Nat.le_of_ble_eq_true rfl), (Nat.le_of_ble_eq_true rfl)⟩ dd_L_added rfl rfl hl.1 (Nat.le_of_ble_eq_true rfl) dL_law_159 ⟨(Nat.le_trans (m := 600086) (by omega) (Nat.le_refl _)), (Nat.le_trans (m := 7301442) (by omega) (Nat.le_refl _))⟩ (fun H locs hM hS => ?_)
        refine lv_bipush (v := (-5)) hx hb dL_law_162 (by decide) ?_
        refine lv_icmp_ne (tgt := 248) hx hb dL_law_164 (by decide) (fun c1 => ?_) (fun c1 => ?_)
        · have h := ifn c1 h
          exact tj_L_law_248 hfl heB hX hbl hbA hargs hC hr hlocks hE hy1 hy2 ⟨by omega, by omega⟩ h hM hS (lv_sub hl [1, 2, 3, 4, 5, 6, 8] rfl)
        · have h := ifp c1 h
          refine lv_aload_n hx hb dL_law_167 rfl (lv_at hl 2 rfl) ?_
          refine lv_iconst (v := 4) hx hb dL_law_168 (by decide) ?_
          refine lv_iconst (v := 0) hx hb dL_law_169 (by decide) ?_
          obtain ⟨v57, M58, h1, h⟩ := ob2 h
          refine kSW (As := [.ref x1, .int 4, .int 0]) (rest := []) hC hE hS hM (mt_L_removed _ hfl E x1 4 0 _ _ _ h1) (gwSW qw_662 qw_663 qw_38 qz_L_removed) ⟨rfl, rfl, (Nat.le_of_ble_eq_true rfl), (Nat.le_of_ble_eq_true rfl)⟩ dd_L_removed rfl rfl hl.1 (Nat.le_of_ble_eq_true rfl) dL_law_170 ⟨(Nat.le_trans (m := 600086) (by omega) (Nat.le_refl _)), (Nat.le_trans (m := 7301442) (by omega) (Nat.le_refl _))⟩ (fun H locs hM hS => ?_)
          refine lv_bipush (v := (-5)) hx hb dL_law_173 (by decide) ?_
          refine lv_icmp_ne (tgt := 248) hx hb dL_law_175 (by decide) (fun c1 => ?_) (fun c1 => ?_)
          · have h := ifn c1 h
            exact tj_L_law_248 hfl heB hX hbl hbA hargs hC hr hlocks hE hy1 hy2 ⟨by omega, by omega⟩ h hM hS (lv_sub hl [1, 2, 3, 4, 5, 6, 8] rfl)
          · have h := ifp c1 h
            refine lv_aload_n hx hb dL_law_178 rfl (lv_at hl 2 rfl) ?_
            refine lv_iconst (v := (-1)) hx hb dL_law_179 (by decide) ?_
            refine lv_iconst (v := 0) hx hb dL_law_180 (by decide) ?_
            refine lv_iconst (v := 0) hx hb dL_law_181 (by decide) ?_
            obtain ⟨v59, M60, h1, h⟩ := ob2 h
            refine kSW (As := [.ref x1, .int (-1), .int 0, .int 0]) (rest := []) hC hE hS hM (mt_L_written _ hfl E x1 (-1) 0 0 _ _ _ h1) (gwSW qw_672 qw_673 qw_38 qz_L_written) ⟨rfl, rfl, (Nat.le_of_ble_eq_true rfl), (Nat.le_of_ble_eq_true rfl)⟩ dd_L_written rfl rfl hl.1 (Nat.le_of_ble_eq_true rfl) dL_law_182 ⟨(Nat.le_trans (m := 600086) (by omega) (Nat.le_refl _)), (Nat.le_trans (m := 7301442) (by omega) (Nat.le_refl _))⟩ (fun H locs hM hS => ?_)
            refine lv_bipush (v := (-5)) hx hb dL_law_185 (by decide) ?_
            refine lv_icmp_ne (tgt := 248) hx hb dL_law_187 (by decide) (fun c1 => ?_) (fun c1 => ?_)
            · have h := ifn c1 h
              exact tj_L_law_248 hfl heB hX hbl hbA hargs hC hr hlocks hE hy1 hy2 ⟨by omega, by omega⟩ h hM hS (lv_sub hl [1, 2, 3, 4, 5, 6, 8] rfl)
            · have h := ifp c1 h
              refine lv_aload_n hx hb dL_law_190 rfl (lv_at hl 2 rfl) ?_
              refine lv_iconst (v := 0) hx hb dL_law_191 (by decide) ?_
              refine lv_iconst (v := 4) hx hb dL_law_192 (by decide) ?_
              obtain ⟨v61, M62, h1, h⟩ := ob2 h
              refine kSW (As := [.ref x1, .int 0, .int 4]) (rest := []) hC hE hS hM (mt_L_merged _ hfl E x1 0 4 _ _ _ h1) (gwSW qw_690 qw_691 qw_38 qz_L_merged) ⟨rfl, rfl, (Nat.le_of_ble_eq_true rfl), (Nat.le_of_ble_eq_true rfl)⟩ dd_L_merged rfl rfl hl.1 (Nat.le_of_ble_eq_true rfl) dL_law_193 ⟨(Nat.le_trans (m := 600086) (by omega) (Nat.le_refl _)), (Nat.le_trans (m := 7301442) (by omega) (Nat.le_refl _))⟩ (fun H locs hM hS => ?_)
              refine lv_bipush (v := (-5)) hx hb dL_law_196 (by decide) ?_
              refine lv_icmp_ne (tgt := 248) hx hb dL_law_198 (by decide) (fun c1 => ?_) (fun c1 => ?_)
              · have h := ifn c1 h
                exact tj_L_law_248 hfl heB hX hbl hbA hargs hC hr hlocks hE hy1 hy2 ⟨by omega, by omega⟩ h hM hS (lv_sub hl [1, 2, 3, 4, 5, 6, 8] rfl)
              · have h := ifp c1 h
                refine lv_aload_n hx hb dL_law_201 rfl (lv_at hl 2 rfl) ?_
                refine lv_iconst (v := 4) hx hb dL_law_202 (by decide) ?_
                obtain ⟨v63, M64, h1, h⟩ := ob2 h
                refine kSW (As := [.ref x1, .int 4]) (rest := []) hC hE hS hM (mt_L_sent _ hfl E x1 4 _ _ _ h1) (gwSW qw_707 qw_708 qw_38 qz_L_sent) ⟨rfl, rfl, (Nat.le_of_ble_eq_true rfl), (Nat.le_of_ble_eq_true rfl)⟩ dd_L_sent rfl rfl hl.1 (Nat.le_of_ble_eq_true rfl) dL_law_203 ⟨(Nat.le_trans (m := 600086) (by omega) (Nat.le_refl _)), (Nat.le_trans (m := 7301442) (by omega) (Nat.le_refl _))⟩ (fun H locs hM hS => ?_)
                refine lv_bipush (v := (-5)) hx hb dL_law_206 (by decide) ?_
                refine lv_icmp_ne (tgt := 248) hx hb dL_law_208 (by decide) (fun c1 => ?_) (fun c1 => ?_)
                · have h := ifn c1 h
                  exact tj_L_law_248 hfl heB hX hbl hbA hargs hC hr hlocks hE hy1 hy2 ⟨by omega, by omega⟩ h hM hS (lv_sub hl [1, 2, 3, 4, 5, 6, 8] rfl)
                · have h := ifp c1 h
                  refine lv_aload_n hx hb dL_law_211 rfl (lv_at hl 2 rfl) ?_
                  refine lv_bipush (v := 6) hx hb dL_law_212 (by decide) ?_
                  refine lv_iconst (v := 0) hx hb dL_law_214 (by decide) ?_
                  obtain ⟨v65, M66, h1, h⟩ := ob2 h
                  refine kSW (As := [.ref x1, .int 6, .int 0]) (rest := []) hC hE hS hM (mt_L_delivered _ hfl E x1 6 0 _ _ _ h1) (gwSW qw_716 qw_717 qw_38 qz_L_delivered) ⟨rfl, rfl, (Nat.le_of_ble_eq_true rfl), (Nat.le_of_ble_eq_true rfl)⟩ dd_L_delivered rfl rfl hl.1 (Nat.le_of_ble_eq_true rfl) dL_law_215 ⟨(Nat.le_trans (m := 600086) (by omega) (Nat.le_refl _)), (Nat.le_trans (m := 7301442) (by omega) (Nat.le_refl _))⟩ (fun H locs hM hS => ?_)
                  refine lv_bipush (v := (-5)) hx hb dL_law_218 (by decide) ?_
                  refine lv_icmp_ne (tgt := 248) hx hb dL_law_220 (by decide) (fun c1 => ?_) (fun c1 => ?_)
                  · have h := ifn c1 h
                    exact tj_L_law_248 hfl heB hX hbl hbA hargs hC hr hlocks hE hy1 hy2 ⟨by omega, by omega⟩ h hM hS (lv_sub hl [1, 2, 3, 4, 5, 6, 8] rfl)
                  · have h := ifp c1 h
                    refine lv_aload_n hx hb dL_law_223 rfl (lv_at hl 2 rfl) ?_
                    refine lv_bipush (v := 6) hx hb dL_law_224 (by decide) ?_
                    obtain ⟨v67, M68, h1, h⟩ := ob2 h
                    refine kSW (As := [.ref x1, .int 6]) (rest := []) hC hE hS hM (mt_L_dropped _ hfl E x1 6 _ _ _ h1) (gwSW qw_728 qw_729 qw_38 qz_L_dropped) ⟨rfl, rfl, (Nat.le_of_ble_eq_true rfl), (Nat.le_of_ble_eq_true rfl)⟩ dd_L_dropped rfl rfl hl.1 (Nat.le_of_ble_eq_true rfl) dL_law_226 ⟨(Nat.le_trans (m := 600086) (by omega) (Nat.le_refl _)), (Nat.le_trans (m := 7301442) (by omega) (Nat.le_refl _))⟩ (fun H locs hM hS => ?_)
                    refine lv_bipush (v := (-5)) hx hb dL_law_229 (by decide) ?_
                    refine lv_icmp_ne (tgt := 248) hx hb dL_law_231 (by decide) (fun c1 => ?_) (fun c1 => ?_)
                    · have h := ifn c1 h
                      exact tj_L_law_248 hfl heB hX hbl hbA hargs hC hr hlocks hE hy1 hy2 ⟨by omega, by omega⟩ h hM hS (lv_sub hl [1, 2, 3, 4, 5, 6, 8] rfl)
                    · have h := ifp c1 h
                      refine lv_aload_n hx hb dL_law_234 rfl (lv_at hl 2 rfl) ?_
                      obtain ⟨v69, M70, h1, h⟩ := ob2 h
                      refine kS1 (As := [.ref x1]) (rest := []) hC hE hS hM (mt_L_sum _ E x1 _ _ _ h1) (gwS qw_982 qw_983 qw_38 qw_984) ⟨rfl, rfl, (Nat.le_of_ble_eq_true rfl), (Nat.le_of_ble_eq_true rfl)⟩ dd_L_sum rfl rfl hl.1 (Nat.le_of_ble_eq_true rfl) dL_law_235 ⟨(Nat.le_trans (m := 600086) (by omega) (Nat.le_refl _)), (Nat.le_trans (m := 7301442) (by omega) (Nat.le_refl _))⟩ (fun H locs hM hS => ?_)
                      refine lv_lload hx hb dL_law_238 (lv_at hl 0 rfl) ?_
                      refine W.lcmp hx hb dL_law_240 ?_
                      refine lv_if_ne (tgt := 248) hx hb dL_law_241 (by decide) (fun c1 => ?_) (fun c1 => ?_)
                      · have h := ifn c1 h
                        exact tj_L_law_248 hfl heB hX hbl hbA hargs hC hr hlocks hE hy1 hy2 ⟨by omega, by omega⟩ h hM hS (lv_sub hl [1, 2, 3, 4, 5, 6, 8] rfl)
                      · have h := ifp c1 h
                        refine lv_iconst (v := 1) hx hb dL_law_244 (by decide) ?_
                        refine lv_goto (tgt := 249) hx hb dL_law_245 (by decide) ?_
                        exact tj_L_law_249 hfl heB hX hbl hbA hargs hC hr hlocks hE hy1 hy2 ⟨by omega, by omega⟩ h hM hS (lv_sub hl [1, 2, 3, 4, 5, 6, 8] rfl)
noncomputable def fj_L_law_116 (xs : Nat → Int32) (L : Nat) (x1 : Nat) (x2 : Nat) (x4 : Int32) (x5 : Int32) (s0 : Int32) (M : Mem) : Option ((Int32 × Int32 × Mem) ⊕ (Int32 × Mem)) :=
  bn (f_L_sum x1 M) fun v21 M22 =>
  fj_L_law_126 xs L x1 x2 x4 x5 v21 s0 0 M22
set_option maxHeartbeats 4000000 in
set_option maxRecDepth 100000 in
theorem tj_L_law_116 {p : Program} {l : Launch} {e : Env} {s : State} {m : MethodId} {args : Array Value} {below : List Frame} {meth : Method} {c : Code} {E : KEnv} {b L : Nat} {xs : Nat → Int32} {H : Heap} {locs : List Loc} {ls : Array Slot} {cells slots : Nat} {x1 : Nat} {x2 : Nat} {x4 : Int32} {x5 : Int32} {s0 : Int32} {y1 : ((Int32 × Int32 × Mem) ⊕ (Int32 × Mem))} {n34 : Nat} {M : Mem} {M' : Mem} (hfl : l.stackTraces = false) (heB : eB E = s.heap.size) (hX : va_X b L xs s s.heap) (hbl : b < s.heap.size) (hbA : ¬ eA E b) (hargs : args = #[Value.ref b]) (hC : CallFix p m c code 11 s args lw_G RL) (hr : meth.sig.returnType = ret) (hlocks : meth.locks = false) (hE : EnvOK E s) (hy1 : (∀ q : (Int32 × Int32 × Mem), y1 = .inl q → ∀ (H : Heap) (locs : List Loc) (ls : Array Slot) (cells slots : Nat), (cells + (0 + n34 * 3083) ≤ 600086 ∧ slots + (0 + n34 * 214969) ≤ 7301442) → MOK E (q.2.2) H → va_S (eA E) s.heap H locs → lv_has ls 11 [(0, .ref b), (1, .ref x1), (2, .ref x2), (3, .int q.1), (4, .int q.2.1)] → W p l e room_1 s m args below meth c H locs cells slots (lw_Z below args s) (F0 m 34 ls [])) ∧ ∀ z, y1 = .inr z → z = (1, M')) (hcs : cells + (2914 + n34 * 3083) ≤ 600086 ∧ slots + (154101 + n34 * 214969) ≤ 7301442) (h : fj_L_law_116 xs L x1 x2 x4 x5 s0 M = some y1) (hM : MOK E M H) (hS : va_S (eA E) s.heap H locs) (hl : lv_has ls 11 [(0, .ref b), (1, .ref x1), (2, .ref x2), (4, .int x4), (5, .int x5)]) : W p l e room_1 s m args below meth c H locs cells slots (lw_Z below args s) (F0 m 116 ls [.int s0]) := by
  obtain ⟨hx, hb, hml, hown, hts⟩ := id hC
  unfold fj_L_law_116 at h
  refine lv_istore_n (lv' := [(3, .int s0), (0, .ref b), (1, .ref x1), (2, .ref x2), (4, .int x4), (5, .int x5)]) hx hb dL_law_116 rfl hl (by decide) rfl (fun ls hl => ?_)
  refine lv_aload_n hx hb dL_law_117 rfl (lv_at hl 2 rfl) ?_
  obtain ⟨v21, M22, h1, h⟩ := ob2 h
  refine kS1 (As := [.ref x1]) (rest := []) hC hE hS hM (mt_L_sum _ E x1 _ _ _ h1) (gwS qw_982 qw_983 qw_38 qw_984) ⟨rfl, rfl, (Nat.le_of_ble_eq_true rfl), (Nat.le_of_ble_eq_true rfl)⟩ dd_L_sum rfl rfl hl.1 (Nat.le_of_ble_eq_true rfl) dL_law_118 ⟨(Nat.le_trans (m := 600086) (by omega) (Nat.le_refl _)), (Nat.le_trans (m := 7301442) (by omega) (Nat.le_refl _))⟩ (fun H locs hM hS => ?_)
  refine lv_lstore (lv' := [(6, .long v21), (3, .int s0), (0, .ref b), (1, .ref x1), (2, .ref x2), (4, .int x4), (5, .int x5)]) hx hb dL_law_121 hl (by decide) rfl (fun ls hl => ?_)
  refine lv_iconst (v := 0) hx hb dL_law_123 (by decide) ?_
  refine lv_istore (lv' := [(8, .int 0), (6, .long v21), (3, .int s0), (0, .ref b), (1, .ref x1), (2, .ref x2), (4, .int x4), (5, .int x5)]) hx hb dL_law_124 hl (by decide) rfl (fun ls hl => ?_)
  exact tj_L_law_126 hfl heB hX hbl hbA hargs hC hr hlocks hE hy1 ⟨by omega, by omega⟩ h hM hS (lv_sub hl [3, 4, 5, 6, 7, 1, 2, 0] rfl)
noncomputable def fj_L_law_115 (xs : Nat → Int32) (L : Nat) (x1 : Nat) (x2 : Nat) (x4 : Int32) (x5 : Int32) (M : Mem) : Option ((Int32 × Int32 × Mem) ⊕ (Int32 × Mem)) :=
  fj_L_law_116 xs L x1 x2 x4 x5 0 M
set_option maxHeartbeats 4000000 in
set_option maxRecDepth 100000 in
theorem tj_L_law_115 {p : Program} {l : Launch} {e : Env} {s : State} {m : MethodId} {args : Array Value} {below : List Frame} {meth : Method} {c : Code} {E : KEnv} {b L : Nat} {xs : Nat → Int32} {H : Heap} {locs : List Loc} {ls : Array Slot} {cells slots : Nat} {x1 : Nat} {x2 : Nat} {x4 : Int32} {x5 : Int32} {y1 : ((Int32 × Int32 × Mem) ⊕ (Int32 × Mem))} {n34 : Nat} {M : Mem} {M' : Mem} (hfl : l.stackTraces = false) (heB : eB E = s.heap.size) (hX : va_X b L xs s s.heap) (hbl : b < s.heap.size) (hbA : ¬ eA E b) (hargs : args = #[Value.ref b]) (hC : CallFix p m c code 11 s args lw_G RL) (hr : meth.sig.returnType = ret) (hlocks : meth.locks = false) (hE : EnvOK E s) (hy1 : (∀ q : (Int32 × Int32 × Mem), y1 = .inl q → ∀ (H : Heap) (locs : List Loc) (ls : Array Slot) (cells slots : Nat), (cells + (0 + n34 * 3083) ≤ 600086 ∧ slots + (0 + n34 * 214969) ≤ 7301442) → MOK E (q.2.2) H → va_S (eA E) s.heap H locs → lv_has ls 11 [(0, .ref b), (1, .ref x1), (2, .ref x2), (3, .int q.1), (4, .int q.2.1)] → W p l e room_1 s m args below meth c H locs cells slots (lw_Z below args s) (F0 m 34 ls [])) ∧ ∀ z, y1 = .inr z → z = (1, M')) (hcs : cells + (2914 + n34 * 3083) ≤ 600086 ∧ slots + (154101 + n34 * 214969) ≤ 7301442) (h : fj_L_law_115 xs L x1 x2 x4 x5 M = some y1) (hM : MOK E M H) (hS : va_S (eA E) s.heap H locs) (hl : lv_has ls 11 [(0, .ref b), (1, .ref x1), (2, .ref x2), (4, .int x4), (5, .int x5)]) : W p l e room_1 s m args below meth c H locs cells slots (lw_Z below args s) (F0 m 115 ls []) := by
  obtain ⟨hx, hb, hml, hown, hts⟩ := id hC
  unfold fj_L_law_115 at h
  refine lv_iconst (v := 0) hx hb dL_law_115 (by decide) ?_
  exact tj_L_law_116 hfl heB hX hbl hbA hargs hC hr hlocks hE hy1 ⟨by omega, by omega⟩ h hM hS (lv_sub hl [0, 1, 2, 3, 4] rfl)
noncomputable def fj_L_law_63 (xs : Nat → Int32) (L : Nat) (x1 : Nat) (x2 : Nat) (x4 : Int32) (s0 : Nat) (s1 : Int32) (s2 : Int32) (s3 : Int32) (M : Mem) : Option ((Int32 × Int32 × Mem) ⊕ (Int32 × Mem)) :=
  (sA 9 s0 s1 (s2 ^^^ s3) M).bind fun M10 =>
  bn (f_L_next x2 M10) fun v11 M12 =>
  bn (f_L_next x2 M12) fun v13 M14 =>
  bn (f_L_next x2 M14) fun v15 M16 =>
  bn (f_L_notes (1 + (v11 - v11 / 4 * 4)) (v13 - v13 / 3 * 3) (v15 - v15 / 3 * 3) x2 M16) fun v17 M18 =>
  bn (f_L_load x1 v17 M18) fun v19 M20 =>
  (if v19 = (1 + (v11 - v11 / 4 * 4)) then
  bq (cK 5 x1 M20 (f_X4_save x1 x4 M20)) fun v71 M72 =>
  (if v71 = 0 then
  fj_L_law_116 xs L x1 x2 x4 (1 + (v11 - v11 / 4 * 4)) 1 M72
  else
  fj_L_law_115 xs L x1 x2 x4 (1 + (v11 - v11 / 4 * 4)) M72)
  else
  fj_L_law_115 xs L x1 x2 x4 (1 + (v11 - v11 / 4 * 4)) M20)
set_option maxHeartbeats 4000000 in
set_option maxRecDepth 100000 in
theorem tj_L_law_63 {p : Program} {l : Launch} {e : Env} {s : State} {m : MethodId} {args : Array Value} {below : List Frame} {meth : Method} {c : Code} {E : KEnv} {b L : Nat} {xs : Nat → Int32} {H : Heap} {locs : List Loc} {ls : Array Slot} {cells slots : Nat} {x1 : Nat} {x2 : Nat} {x4 : Int32} {s0 : Nat} {s1 : Int32} {s2 : Int32} {s3 : Int32} {y1 : ((Int32 × Int32 × Mem) ⊕ (Int32 × Mem))} {n34 : Nat} {M : Mem} {M' : Mem} (hfl : l.stackTraces = false) (heB : eB E = s.heap.size) (hX : va_X b L xs s s.heap) (hbl : b < s.heap.size) (hbA : ¬ eA E b) (hargs : args = #[Value.ref b]) (hC : CallFix p m c code 11 s args lw_G RL) (hr : meth.sig.returnType = ret) (hlocks : meth.locks = false) (hE : EnvOK E s) (hy1 : (∀ q : (Int32 × Int32 × Mem), y1 = .inl q → ∀ (H : Heap) (locs : List Loc) (ls : Array Slot) (cells slots : Nat), (cells + (0 + n34 * 3083) ≤ 600086 ∧ slots + (0 + n34 * 214969) ≤ 7301442) → MOK E (q.2.2) H → va_S (eA E) s.heap H locs → lv_has ls 11 [(0, .ref b), (1, .ref x1), (2, .ref x2), (3, .int q.1), (4, .int q.2.1)] → W p l e room_1 s m args below meth c H locs cells slots (lw_Z below args s) (F0 m 34 ls [])) ∧ ∀ z, y1 = .inr z → z = (1, M')) (hcs : cells + (3083 + n34 * 3083) ≤ 600086 ∧ slots + (214969 + n34 * 214969) ≤ 7301442) (h : fj_L_law_63 xs L x1 x2 x4 s0 s1 s2 s3 M = some y1) (hM : MOK E M H) (hS : va_S (eA E) s.heap H locs) (hl : lv_has ls 11 [(0, .ref b), (1, .ref x1), (2, .ref x2), (4, .int x4)]) : W p l e room_1 s m args below meth c H locs cells slots (lw_Z below args s) (F0 m 63 ls [.int s3, .int s2, .int s1, .ref s0]) := by
  obtain ⟨hx, hb, hml, hown, hts⟩ := id hC
  unfold fj_L_law_63 at h
  refine lv_ixor hx hb dL_law_63 ?_
  obtain ⟨M10, h1, h⟩ := ob h
  refine r_iast hx hb hE hM hS h1 dL_law_64 (fun H locs hM hS => ?_)
  refine lv_iconst (v := 1) hx hb dL_law_65 (by decide) ?_
  refine lv_aload_n hx hb dL_law_66 rfl (lv_at hl 2 rfl) ?_
  obtain ⟨v11, M12, h1, h⟩ := ob2 h
  refine kS1 (As := [.ref x2]) (rest := [.int 1]) hC hE hS hM (mt_L_next _ E x2 _ _ _ h1) (gwS qw_547 qw_548 qw_38 qw_549) ⟨rfl, rfl, (Nat.le_of_ble_eq_true rfl), (Nat.le_of_ble_eq_true rfl)⟩ dd_L_next rfl rfl hl.1 (Nat.le_of_ble_eq_true rfl) dL_law_67 ⟨(Nat.le_trans (m := 600086) (by omega) (Nat.le_refl _)), (Nat.le_trans (m := 7301442) (by omega) (Nat.le_refl _))⟩ (fun H locs hM hS => ?_)
  refine lv_iconst (v := 4) hx hb dL_law_70 (by decide) ?_
  refine lv_irem hx hb dL_law_71 (by decide) ?_
  refine lv_iadd hx hb dL_law_72 ?_
  refine lv_istore (lv' := [(5, .int (1 + (v11 - v11 / 4 * 4))), (0, .ref b), (1, .ref x1), (2, .ref x2), (4, .int x4)]) hx hb dL_law_73 hl (by decide) rfl (fun ls hl => ?_)
  refine lv_aload_n hx hb dL_law_75 rfl (lv_at hl 2 rfl) ?_
  refine lv_iload hx hb dL_law_76 (lv_at hl 0 rfl) ?_
  refine lv_aload_n hx hb dL_law_78 rfl (lv_at hl 3 rfl) ?_
  obtain ⟨v13, M14, h1, h⟩ := ob2 h
  refine kS1 (As := [.ref x2]) (rest := [.int (1 + (v11 - v11 / 4 * 4)), .ref x1]) hC hE hS hM (mt_L_next _ E x2 _ _ _ h1) (gwS qw_547 qw_548 qw_38 qw_549) ⟨rfl, rfl, (Nat.le_of_ble_eq_true rfl), (Nat.le_of_ble_eq_true rfl)⟩ dd_L_next rfl rfl hl.1 (Nat.le_of_ble_eq_true rfl) dL_law_79 ⟨(Nat.le_trans (m := 600086) (by omega) (Nat.le_refl _)), (Nat.le_trans (m := 7301442) (by omega) (Nat.le_refl _))⟩ (fun H locs hM hS => ?_)
  refine lv_iconst (v := 3) hx hb dL_law_82 (by decide) ?_
  refine lv_irem hx hb dL_law_83 (by decide) ?_
  refine lv_aload_n hx hb dL_law_84 rfl (lv_at hl 3 rfl) ?_
  obtain ⟨v15, M16, h1, h⟩ := ob2 h
  refine kS1 (As := [.ref x2]) (rest := [.int (v13 - v13 / 3 * 3), .int (1 + (v11 - v11 / 4 * 4)), .ref x1]) hC hE hS hM (mt_L_next _ E x2 _ _ _ h1) (gwS qw_547 qw_548 qw_38 qw_549) ⟨rfl, rfl, (Nat.le_of_ble_eq_true rfl), (Nat.le_of_ble_eq_true rfl)⟩ dd_L_next rfl rfl hl.1 (Nat.le_of_ble_eq_true rfl) dL_law_85 ⟨(Nat.le_trans (m := 600086) (by omega) (Nat.le_refl _)), (Nat.le_trans (m := 7301442) (by omega) (Nat.le_refl _))⟩ (fun H locs hM hS => ?_)
  refine lv_iconst (v := 3) hx hb dL_law_88 (by decide) ?_
  refine lv_irem hx hb dL_law_89 (by decide) ?_
  refine lv_aload_n hx hb dL_law_90 rfl (lv_at hl 3 rfl) ?_
  obtain ⟨v17, M18, h1, h⟩ := ob2 h
  refine kS1 (As := [.int (1 + (v11 - v11 / 4 * 4)), .int (v13 - v13 / 3 * 3), .int (v15 - v15 / 3 * 3), .ref x2]) (rest := [.ref x1]) hC hE hS hM (mt_L_notes _ E (1 + (v11 - v11 / 4 * 4)) (v13 - v13 / 3 * 3) (v15 - v15 / 3 * 3) x2 _ _ _ h1) (gwS qw_739 qw_740 qw_38 qw_741) ⟨rfl, rfl, (Nat.le_of_ble_eq_true rfl), (Nat.le_of_ble_eq_true rfl)⟩ dd_L_notes rfl rfl hl.1 (Nat.le_of_ble_eq_true rfl) dL_law_91 ⟨(Nat.le_trans (m := 600086) (by omega) (Nat.le_refl _)), (Nat.le_trans (m := 7301442) (by omega) (Nat.le_refl _))⟩ (fun H locs hM hS => ?_)
  obtain ⟨v19, M20, h1, h⟩ := ob2 h
  refine kSW (As := [.ref x1, .ref v17]) (rest := []) hC hE hS hM (mt_L_load _ hfl E x1 v17 _ _ _ h1) (gwSW qw_551 qw_552 qw_38 qz_L_load) ⟨rfl, rfl, (Nat.le_of_ble_eq_true rfl), (Nat.le_of_ble_eq_true rfl)⟩ dd_L_load rfl rfl hl.1 (Nat.le_of_ble_eq_true rfl) dL_law_94 ⟨(Nat.le_trans (m := 600086) (by omega) (Nat.le_refl _)), (Nat.le_trans (m := 7301442) (by omega) (Nat.le_refl _))⟩ (fun H locs hM hS => ?_)
  refine lv_iload hx hb dL_law_97 (lv_at hl 0 rfl) ?_
  refine lv_icmp_ne (tgt := 115) hx hb dL_law_99 (by decide) (fun c1 => ?_) (fun c1 => ?_)
  · have h := ifn c1 h
    exact tj_L_law_115 hfl heB hX hbl hbA hargs hC hr hlocks hE hy1 ⟨by omega, by omega⟩ h hM hS (lv_sub hl [1, 2, 3, 4, 0] rfl)
  · have h := ifp c1 h
    refine lv_aload_n hx hb dL_law_102 rfl (lv_at hl 2 rfl) ?_
    refine lv_iload hx hb dL_law_103 (lv_at hl 4 rfl) ?_
    obtain ⟨v71, M72, h1, h⟩ := obq h
    obtain ⟨hk1, h1⟩ := ifg h1
    refine kV1 (ci := 4) (As := [.int x4]) (rest := []) hC hE hS hM (mq_X4_save _ E x1 x4 _ _ _ h1) (gwV qw_543 qw_544 qw_545 qw_39 qw_546) ⟨rfl, rfl, (Nat.le_of_ble_eq_true rfl), (Nat.le_of_ble_eq_true rfl)⟩ dd_X4_save rfl hk1 rfl rfl hl.1 (Nat.le_of_ble_eq_true rfl) dL_law_105 ⟨(Nat.le_trans (m := 600086) (by omega) (Nat.le_refl _)), (Nat.le_trans (m := 7301442) (by omega) (Nat.le_refl _))⟩ (fun H locs hM hS => ?_)
    refine lv_if_ne (tgt := 115) hx hb dL_law_108 (by decide) (fun c1 => ?_) (fun c1 => ?_)
    · have h := ifn c1 h
      exact tj_L_law_115 hfl heB hX hbl hbA hargs hC hr hlocks hE hy1 ⟨by omega, by omega⟩ h hM hS (lv_sub hl [1, 2, 3, 4, 0] rfl)
    · have h := ifp c1 h
      refine lv_iconst (v := 1) hx hb dL_law_111 (by decide) ?_
      refine lv_goto (tgt := 116) hx hb dL_law_112 (by decide) ?_
      exact tj_L_law_116 hfl heB hX hbl hbA hargs hC hr hlocks hE hy1 ⟨by omega, by omega⟩ h hM hS (lv_sub hl [1, 2, 3, 4, 0] rfl)
noncomputable def fc_L_law_34 (xs : Nat → Int32) (L : Nat) (x1 : Nat) (x2 : Nat) (x3 : Int32) (x4 : Int32) (M : Mem) : Option ((Int32 × Int32 × Mem) ⊕ (Int32 × Mem)) :=
  (if (2 : Int32) ≤ x4 then
  (fj_L_law_418 xs L x3 M).map Sum.inr
  else
  (if x3 = 0 then
  (fj_L_law_418 xs L x3 M).map Sum.inr
  else
  (gA 9 x2 0 M).bind fun v9 =>
  (if (Int32.ofNat L) ≤ x4 then
  fj_L_law_63 xs L x1 x2 x4 x2 0 v9 0 M
  else
  (gX xs L x4).bind fun v73 =>
  fj_L_law_63 xs L x1 x2 x4 x2 0 v9 v73 M)))
noncomputable def fj_L_law_34 (xs : Nat → Int32) (L : Nat) (x1 : Nat) (x2 : Nat) (x3 : Int32) (x4 : Int32) (M : Mem) : Option (Int32 × Mem) := loopM (fun q : (Int32 × Int32 × Mem) => fc_L_law_34 xs L x1 x2 q.1 q.2.1 q.2.2) 3 (x3, x4, M)
set_option maxHeartbeats 4000000 in
set_option maxRecDepth 100000 in
theorem tj_L_law_34 {p : Program} {l : Launch} {e : Env} {s : State} {m : MethodId} {args : Array Value} {below : List Frame} {meth : Method} {c : Code} {E : KEnv} {b L : Nat} {xs : Nat → Int32} {H : Heap} {locs : List Loc} {ls : Array Slot} {cells slots : Nat} {x1 : Nat} {x2 : Nat} {x3 : Int32} {x4 : Int32} {M : Mem} {M' : Mem} (hfl : l.stackTraces = false) (heB : eB E = s.heap.size) (hX : va_X b L xs s s.heap) (hbl : b < s.heap.size) (hbA : ¬ eA E b) (hargs : args = #[Value.ref b]) (hC : CallFix p m c code 11 s args lw_G RL) (hr : meth.sig.returnType = ret) (hlocks : meth.locks = false) (hE : EnvOK E s) (hcs : cells + (0 + 3 * 3083) ≤ 600086 ∧ slots + (0 + 3 * 214969) ≤ 7301442) (h : fj_L_law_34 xs L x1 x2 x3 x4 M = some (1, M')) (hM : MOK E M H) (hS : va_S (eA E) s.heap H locs) (hl : lv_has ls 11 [(0, .ref b), (1, .ref x1), (2, .ref x2), (3, .int x3), (4, .int x4)]) : W p l e room_1 s m args below meth c H locs cells slots (lw_Z below args s) (F0 m 34 ls []) := by
  refine loopM_indF (body := fun q : (Int32 × Int32 × Mem) => fc_L_law_34 xs L x1 x2 q.1 q.2.1 q.2.2) (x0 := (1, M')) (Wd := fun n34 q => ∀ (H : Heap) (locs : List Loc) (ls : Array Slot) (cells slots : Nat), (cells + (0 + n34 * 3083) ≤ 600086 ∧ slots + (0 + n34 * 214969) ≤ 7301442) → MOK E (q.2.2) H → va_S (eA E) s.heap H locs → lv_has ls 11 [(0, .ref b), (1, .ref x1), (2, .ref x2), (3, .int q.1), (4, .int q.2.1)] → W p l e room_1 s m args below meth c H locs cells slots (lw_Z below args s) (F0 m 34 ls [])) ?_ 3 (x3, x4, M) h H locs ls cells slots hcs hM hS hl
  clear h hM hS hl hcs H locs ls M cells slots x3 x4
  obtain ⟨hx, hb, hml, hown, hts⟩ := id hC
  intro n34 q y1 h hy1 H locs ls cells slots hcs hM hS hl
  obtain ⟨x3, x4, M⟩ := q
  have h : fc_L_law_34 xs L x1 x2 x3 x4 M = some y1 := h
  have hM : MOK E M H := hM
  have hl : lv_has ls 11 [(0, .ref b), (1, .ref x1), (2, .ref x2), (3, .int x3), (4, .int x4)] := hl
  have hcs : cells + (0 + (n34 + 1) * 3083) ≤ 600086 ∧ slots + (0 + (n34 + 1) * 214969) ≤ 7301442 := hcs
  unfold fc_L_law_34 at h
  show W p l e room_1 s m args below meth c H locs cells slots _ _
  refine lv_iload hx hb dL_law_34 (lv_at hl 4 rfl) ?_
  refine lv_iconst (v := 2) hx hb dL_law_36 (by decide) ?_
  refine lv_icmp_ge (tgt := 418) hx hb dL_law_37 (by decide) (fun c1 => ?_) (fun c1 => ?_)
  · have h := ifp c1 h
    obtain ⟨z0, h9, rfl⟩ := om h
    have e0 := hy1.2 _ rfl
    subst e0
    have h := h9
    exact tj_L_law_418 hfl heB hX hbl hbA hargs hC hr hlocks hE ⟨by omega, by omega⟩ h hM hS (lv_sub hl [3] rfl)
  · have h := ifn c1 h
    refine lv_iload_n hx hb dL_law_40 rfl (lv_at hl 3 rfl) ?_
    refine lv_if_eq (tgt := 418) hx hb dL_law_41 (by decide) (fun c1 => ?_) (fun c1 => ?_)
    · have h := ifp c1 h
      obtain ⟨z0, h9, rfl⟩ := om h
      have e0 := hy1.2 _ rfl
      subst e0
      have h := h9
      exact tj_L_law_418 hfl heB hX hbl hbA hargs hC hr hlocks hE ⟨by omega, by omega⟩ h hM hS (lv_sub hl [3] rfl)
    · have h := ifn c1 h
      refine lv_aload_n hx hb dL_law_44 rfl (lv_at hl 2 rfl) ?_
      refine lv_iconst (v := 0) hx hb dL_law_45 (by decide) ?_
      refine lv_dup2_11 hx hb dL_law_46 rfl rfl ?_
      obtain ⟨v9, h1, h⟩ := ob h
      refine r_iald hx hb hE hM h1 dL_law_47 ?_
      refine lv_iload hx hb dL_law_48 (lv_at hl 4 rfl) ?_
      refine lv_aload_n hx hb dL_law_50 rfl (lv_at hl 0 rfl) ?_
      refine va_slen hx hb hX hbl hbA hS dL_law_51 ?_
      refine lv_icmp_ge (tgt := 62) hx hb dL_law_52 (by decide) (fun c1 => ?_) (fun c1 => ?_)
      · have h := ifp c1 h
        refine lv_iconst (v := 0) hx hb dL_law_62 (by decide) ?_
        exact tj_L_law_63 hfl heB hX hbl hbA hargs hC hr hlocks hE hy1 ⟨by omega, by omega⟩ h hM hS (lv_sub hl [0, 1, 2, 4] rfl)
      · have h := ifn c1 h
        refine lv_aload_n hx hb dL_law_55 rfl (lv_at hl 0 rfl) ?_
        refine lv_iload hx hb dL_law_56 (lv_at hl 4 rfl) ?_
        obtain ⟨v73, h1, h⟩ := ob h
        refine r_sx hx hb hX hbl hbA hS h1 dL_law_58 ?_
        refine lv_goto (tgt := 63) hx hb dL_law_59 (by decide) ?_
        exact tj_L_law_63 hfl heB hX hbl hbA hargs hC hr hlocks hE hy1 ⟨by omega, by omega⟩ h hM hS (lv_sub hl [0, 1, 2, 4] rfl)
noncomputable def fj_L_law_27 (xs : Nat → Int32) (L : Nat) (x1 : Nat) (s0 : Nat) (s1 : Nat) (s2 : Int32) (s3 : Int32) (M : Mem) : Option (Int32 × Mem) :=
  (sA 9 s1 s2 s3 M).bind fun M8 =>
  fj_L_law_34 xs L x1 s0 1 0 M8
set_option maxHeartbeats 4000000 in
set_option maxRecDepth 100000 in
theorem tj_L_law_27 {p : Program} {l : Launch} {e : Env} {s : State} {m : MethodId} {args : Array Value} {below : List Frame} {meth : Method} {c : Code} {E : KEnv} {b L : Nat} {xs : Nat → Int32} {H : Heap} {locs : List Loc} {ls : Array Slot} {cells slots : Nat} {x1 : Nat} {s0 : Nat} {s1 : Nat} {s2 : Int32} {s3 : Int32} {M : Mem} {M' : Mem} (hfl : l.stackTraces = false) (heB : eB E = s.heap.size) (hX : va_X b L xs s s.heap) (hbl : b < s.heap.size) (hbA : ¬ eA E b) (hargs : args = #[Value.ref b]) (hC : CallFix p m c code 11 s args lw_G RL) (hr : meth.sig.returnType = ret) (hlocks : meth.locks = false) (hE : EnvOK E s) (hcs : cells + (9249) ≤ 600086 ∧ slots + (644907) ≤ 7301442) (h : fj_L_law_27 xs L x1 s0 s1 s2 s3 M = some (1, M')) (hM : MOK E M H) (hS : va_S (eA E) s.heap H locs) (hl : lv_has ls 11 [(0, .ref b), (1, .ref x1)]) : W p l e room_1 s m args below meth c H locs cells slots (lw_Z below args s) (F0 m 27 ls [.int s3, .int s2, .ref s1, .ref s0]) := by
  obtain ⟨hx, hb, hml, hown, hts⟩ := id hC
  unfold fj_L_law_27 at h
  obtain ⟨M8, h1, h⟩ := ob h
  refine r_iast hx hb hE hM hS h1 dL_law_27 (fun H locs hM hS => ?_)
  refine lv_astore_n (lv' := [(2, .ref s0), (0, .ref b), (1, .ref x1)]) hx hb dL_law_28 rfl hl (by decide) rfl (fun ls hl => ?_)
  refine lv_iconst (v := 1) hx hb dL_law_29 (by decide) ?_
  refine lv_istore_n (lv' := [(3, .int 1), (2, .ref s0), (0, .ref b), (1, .ref x1)]) hx hb dL_law_30 rfl hl (by decide) rfl (fun ls hl => ?_)
  refine lv_iconst (v := 0) hx hb dL_law_31 (by decide) ?_
  refine lv_istore (lv' := [(4, .int 0), (3, .int 1), (2, .ref s0), (0, .ref b), (1, .ref x1)]) hx hb dL_law_32 hl (by decide) rfl (fun ls hl => ?_)
  exact tj_L_law_34 hfl heB hX hbl hbA hargs hC hr hlocks hE ⟨by omega, by omega⟩ h hM hS (lv_sub hl [3, 4, 2, 1, 0] rfl)
noncomputable def f_L_law (xs : Nat → Int32) (L : Nat) (M : Mem) : Option (Int32 × Mem) :=
  bnew 5 M fun v1 M2 =>
  (f_X4_init v1 M2).bind fun M4 =>
  bnewa 9 1 M4 fun v5 M6 =>
  (if (Int32.ofNat L) = 0 then
  fj_L_law_27 xs L v1 v5 v5 0 1932 M6
  else
  (gX xs L 0).bind fun v7 =>
  fj_L_law_27 xs L v1 v5 v5 0 v7 M6)
set_option maxHeartbeats 4000000 in
set_option maxRecDepth 100000 in
theorem law_walk {p : Program} {l : Launch} {e : Env} {s : State} {m : MethodId} {args : Array Value} {below : List Frame} {meth : Method} {c : Code} {E : KEnv} {H : Heap} {locs : List Loc} {ls : Array Slot} {b L : Nat} {xs : Nat → Int32} {M M' : Mem} (hfl : l.stackTraces = false) (heB : eB E = s.heap.size) (hX : va_X b L xs s s.heap) (hbl : b < s.heap.size) (hbA : ¬ eA E b) (hargs : args = #[Value.ref b]) (hC : CallFix p m c code 11 s args lw_G RL) (hr : meth.sig.returnType = ret) (hlocks : meth.locks = false) (hE : EnvOK E s) (h : f_L_law xs L M = some (1, M')) (hM : MOK E M H) (hS : va_S (eA E) s.heap H locs) (hl : lv_has ls 11 [(0, .ref b)]) : W p l e room_1 s m args below meth c H locs 0 0 (lw_Z below args s) (F0 m 0 ls []) := by
  obtain ⟨hx, hb, hml, hown, hts⟩ := id hC
  unfold f_L_law at h
  obtain ⟨v1, M2, eq, eM, h⟩ := obnew h
  refine rn_4 hx hb hts hown hE hM hS qw_61 qw_62 qw_39 eq eM (Nat.le_trans (m := 600086) (by omega) (Nat.le_refl _)) (Nat.le_trans (m := 7301442) (by omega) (Nat.le_refl _)) dL_law_0 (fun H hM hS => ?_)
  refine lv_dup hx hb dL_law_3 rfl ?_
  obtain ⟨M4, h1, h⟩ := ob h
  refine kI (As := []) (rest := [.ref v1]) hC hE hS hM (mt_X4_init _ E v1 _ _ h1) qw_65 qw_63 qw_64 qw_39 ⟨rfl, rfl, (Nat.le_of_ble_eq_true rfl), (Nat.le_of_ble_eq_true rfl)⟩ dd_X4_init.2 rfl rfl rfl hl.1 (Nat.le_of_ble_eq_true rfl) dL_law_4 ⟨(Nat.le_trans (m := 600086) (by omega) (Nat.le_refl _)), (Nat.le_trans (m := 7301442) (by omega) (Nat.le_refl _))⟩ (fun H locs hM hS => ?_)
  refine lv_astore_n (lv' := [(1, .ref v1), (0, .ref b)]) hx hb dL_law_7 rfl hl (by decide) rfl (fun ls hl => ?_)
  refine lv_iconst (v := 1) hx hb dL_law_8 (by decide) ?_
  obtain ⟨v5, M6, eq, eM, h⟩ := obnewa h
  refine rna_int (N' := 1) hx hb hts qw_87 hE hM hS (by decide) (by decide) (Nat.le_of_ble_eq_true rfl) (Nat.le_trans (m := 600086) (by omega) (Nat.le_refl _)) (Nat.le_trans (m := 7301442) (by omega) (Nat.le_refl _)) eq eM dL_law_9 (fun H hM hS => ?_)
  refine lv_dup hx hb dL_law_11 rfl ?_
  refine lv_iconst (v := 0) hx hb dL_law_12 (by decide) ?_
  refine lv_aload_n hx hb dL_law_13 rfl (lv_at hl 1 rfl) ?_
  refine va_slen hx hb hX hbl hbA hS dL_law_14 ?_
  refine lv_if_ne (tgt := 24) hx hb dL_law_15 (by decide) (fun c1 => ?_) (fun c1 => ?_)
  · have h := ifn c1 h
    refine lv_aload_n hx hb dL_law_24 rfl (lv_at hl 1 rfl) ?_
    refine lv_iconst (v := 0) hx hb dL_law_25 (by decide) ?_
    obtain ⟨v7, h1, h⟩ := ob h
    refine r_sx hx hb hX hbl hbA hS h1 dL_law_26 ?_
    exact tj_L_law_27 hfl heB hX hbl hbA hargs hC hr hlocks hE ⟨by omega, by omega⟩ h hM hS (lv_sub hl [1, 0] rfl)
  · have h := ifp c1 h
    refine lv_sipush (v := 1932) hx hb dL_law_18 (by decide) ?_
    refine lv_goto (tgt := 27) hx hb dL_law_21 (by decide) ?_
    exact tj_L_law_27 hfl heB hX hbl hbA hargs hC hr hlocks hE ⟨by omega, by omega⟩ h hM hS (lv_sub hl [1, 0] rfl)
