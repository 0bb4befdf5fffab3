/-! THE RUN'S TABLES AND CONSTANTS, OUT OF THE START (written by genenv.py) -/
def gvL : List Cond := flatC (Jvm.Cond.and given_1 narrow_1)
def exO : List Nat := [264, 397, 409, 416, 423, 430, 440, 449, 458, 466, 846, 859, 870, 883, 892, 897, 910, 921, 525, 553, 583, 638, 657, 706, 747, 827, 676, 721, 767, 796, 477, 493, 608]
def srO : List Nat := [146, 254, 304, 313, 314, 335, 352, 361, 377, 393, 744, 909, 911, 977, 978, 979, 980, 981, 565, 574, 584, 627, 632, 656, 683, 727, 633, 670, 684, 714, 484, 519, 603]
def sOwn (i : Nat) : String := (sST.getD i ("", 0, "")).1
def sIdx (i : Nat) : Nat := (sST.getD i ("", 0, "")).2.1
def sTx (i : Nat) : String := (sST.getD i ("", 0, "")).2.2
def sTm (i : Nat) : Term := .string (sOwn i) (sIdx i)
theorem gv_ex : ∀ i : Fin 33, gvL[exO.getD i.val 0]? = some (Cond.exactly (sTm i.val) "java/lang/String") := by decide +kernel
theorem gv_co : ∀ i : Fin 18, gvL[exO.getD i.val 0 + 1]? = some (Cond.eq (.field (sTm i.val) "java/lang/String" "coder" "B") (.int 0)) := by decide +kernel
theorem gv_ar : ∀ i : Fin 18, gvL[exO.getD i.val 0 + 2]? = some (Cond.arrayOf (.field (sTm i.val) "java/lang/String" "value" "[B") .byte) := by decide +kernel
theorem gv_le : ∀ i : Fin 18, gvL[exO.getD i.val 0 + 3]? = some (Cond.eq (.length (.field (sTm i.val) "java/lang/String" "value" "[B")) (.int (Int32.ofNat (sLEN.getD i.val 0)))) := by decide +kernel
theorem gv_el : ∀ i : Fin 18, ∀ j : Fin 129, j.val < sLEN.getD i.val 0 → gvL[exO.getD i.val 0 + 4 + j.val]? = some (Cond.eq (.elem (.field (sTm i.val) "java/lang/String" "value" "[B") (.int (Int32.ofNat j.val))) (.int ((sBYT.getD i.val []).getD j.val 0))) := by decide +kernel
theorem sr_ok : ∀ i : Fin 33, lw_tbl[srO.getD i.val 0]? = some (Cond.stringRef (sOwn i.val) (sIdx i.val) (sTx i.val)) := by decide +kernel
theorem sST_len : sST.length = 33 := rfl
theorem sLEN_129 : ∀ i : Fin 18, sLEN.getD i.val 0 ≤ 129 := by decide +kernel
theorem jS_of {args : Array Value} {s : State} {A : Nat → Prop} (hg : ∀ c ∈ gvL, c.before args s = true) (hA : ∀ a : Nat, a < s.heap.size → ¬ A a) : ∃ adK adV : Nat → Nat, (∀ i : Nat, i < 18 → va_O "java/lang/String" (adK i) A s s.heap ∧ va_OF "java/lang/String" "coder" "B" (.int 0) (adK i) A s s.heap ∧ va_OF "java/lang/String" "value" "[B" (.ref (adV i)) (adK i) A s s.heap ∧ va_T .byte (adV i) (sLEN.getD i 0) (fun j => .int ((sBYT.getD i []).getD j 0)) A s s.heap) ∧ ∀ i : Nat, i < 33 → (sTm i).eval args s none [] s = some (.ref (adK i)) := by
  have G : ∀ {k : Nat} {w : Cond}, gvL[k]? = some w → w.before args s = true := fun h => hg _ (List.mem_of_getElem? h)
  have h1 : ∀ i : Nat, ∃ a : Nat, i < 33 → (sTm i).eval args s none [] s = some (.ref a) := by
    intro i
    by_cases hi : i < 33
    · obtain ⟨a, c, cA, kA, q1, -⟩ := Cond.exactly_spec (args := args) (first := s) (o := none) (s := s) (idx := []) (t := sTm i) (cls := "java/lang/String") (G (gv_ex ⟨i, hi⟩))
      exact ⟨a, fun _ => q1⟩
    · exact ⟨0, fun h => absurd h hi⟩
  obtain ⟨adK, hK⟩ := Classical.axiomOfChoice h1
  have h2 : ∀ i : Nat, ∃ t : Nat, i < 18 → va_O "java/lang/String" (adK i) A s s.heap ∧ va_OF "java/lang/String" "coder" "B" (.int 0) (adK i) A s s.heap ∧ va_OF "java/lang/String" "value" "[B" (.ref t) (adK i) A s s.heap ∧ va_T .byte t (sLEN.getD i 0) (fun j => .int ((sBYT.getD i []).getD j 0)) A s s.heap := by
    intro i
    by_cases hi : i < 18
    · have q1 := hK i (by omega)
      have ln := sLEN_129 ⟨i, hi⟩
      dsimp only at ln
      obtain ⟨t, ht, hT⟩ := va_Tof (f := fun j => .int ((sBYT.getD i []).getD j 0)) (A := A) (show sLEN.getD i 0 < 2 ^ 31 by omega) (G (gv_ar ⟨i, hi⟩)) (va_eqt (G (gv_le ⟨i, hi⟩))) (fun j hj => va_eqt (G (gv_el ⟨i, hi⟩ ⟨j, by omega⟩ hj))) hA
      exact ⟨t, fun _ => ⟨va_Oof (G (gv_ex ⟨i, by omega⟩)) q1 hA, vk_OFof q1 (va_eqt (G (gv_co ⟨i, hi⟩))) hA, vk_OFof q1 ht hA, hT⟩⟩
    · exact ⟨0, fun h => absurd h hi⟩
  obtain ⟨adV, hV⟩ := Classical.axiomOfChoice h2
  exact ⟨adK, adV, hV, hK⟩
/-- arrays of numbers, arrays of objects -/
theorem ar_n {args : Array Value} {s : State} {ty : FieldType} (hn : ∀ C, ty ≠ .object C) (h : (Cond.arrayClass ty).before args s = true) : ∃ cA, ArrOfT s cA ty ∧ va_RA s cA ty := by
  obtain ⟨cA, kA, comp, h1, h2, h3⟩ := Cond.arrayClass_spec h
  refine ⟨cA, fun n z => ⟨fun k h => (by cases h), kA, h2, comp, h3⟩, ?_⟩
  unfold va_RA
  cases ty with
  | object C => exact absurd rfl (hn C)
  | _ => exact h1
theorem ar_o {args : Array Value} {s : State} {C : String} (h : (Cond.arrayOver (.object C)).before args s = true) : ∃ cA, ArrOfT s cA (.object C) ∧ va_RA s cA (.object C) := by
  obtain ⟨comp, cA, kA, h1, h2, h3, h4, h5⟩ := Cond.arrayOver_spec h
  exact ⟨cA, fun n z => ⟨fun k h => (by cases h), kA, h3, comp, h4⟩, kA, comp, h3, h4, h1, h5⟩
def dgO : List Nat := [12, 115]
theorem dg_ar : ∀ i : Fin 2, gvL[dgO.getD i.val 0]? = some (Cond.arrayOf (.static "java/lang/Integer" (dgN i.val) "[B") .byte) := by decide +kernel
theorem dg_le : ∀ i : Fin 2, gvL[dgO.getD i.val 0 + 1]? = some (Cond.eq (.length (.static "java/lang/Integer" (dgN i.val) "[B")) (.int (Int32.ofNat 100))) := by decide +kernel
theorem dg_el : ∀ i : Fin 2, ∀ j : Fin 100, gvL[dgO.getD i.val 0 + 2 + j.val]? = some (Cond.eq (.elem (.static "java/lang/Integer" (dgN i.val) "[B") (.int (Int32.ofNat j.val))) (.int (dgV i.val j.val))) := by decide +kernel
theorem jT_of {args : Array Value} {s : State} {A : Nat → Prop} (hg : ∀ c ∈ gvL, c.before args s = true) (hts : ∀ w ∈ lw_tbl, w.before args s = true) (hA : ∀ a : Nat, a < s.heap.size → ¬ A a) : ∃ adT : Nat → Nat, ∀ i : Nat, i < 2 → va_Z "java/lang/Integer" (dgN i) "[B" (.ref (adT i)) A s s.heap ∧ va_T .byte (adT i) 100 (fun j => .int (dgV i j)) A s s.heap := by
  have G : ∀ {k : Nat} {w : Cond}, gvL[k]? = some w → w.before args s = true := fun h => hg _ (List.mem_of_getElem? h)
  have key : ∀ i : Nat, ∃ t : Nat, i < 2 → va_Z "java/lang/Integer" (dgN i) "[B" (.ref t) A s s.heap ∧ va_T .byte t 100 (fun j => .int (dgV i j)) A s s.heap := by
    intro i
    by_cases hi : i < 2
    · obtain ⟨t, ht, hT⟩ := va_Tof (f := fun j => .int (dgV i j)) (N := 100) (A := A) (by decide) (G (dg_ar ⟨i, hi⟩)) (va_eqt (G (dg_le ⟨i, hi⟩))) (fun j hj => va_eqt (G (dg_el ⟨i, hi⟩ ⟨j, hj⟩))) hA
      refine ⟨t, fun _ => ⟨?_, hT⟩⟩
      rcases (show i = 0 ∨ i = 1 by omega) with rfl | rfl
      · exact va_Zof (hts _ (List.mem_of_getElem? (i := 879) (by decide +kernel))) (hts _ (List.mem_of_getElem? (i := 54) (by decide +kernel))) ht hA
      · exact va_Zof (hts _ (List.mem_of_getElem? (i := 881) (by decide +kernel))) (hts _ (List.mem_of_getElem? (i := 54) (by decide +kernel))) ht hA
    · exact ⟨0, fun h => absurd h hi⟩
  exact Classical.axiomOfChoice key
set_option maxRecDepth 100000 in
theorem env_of {p : Program} {s : State} {m : MethodId} {meth : Method} {c : Code} {b L : Nat} {xs : Nat → Int32} (C0 : lw_At p s m meth c b L xs) : ∃ E : KEnv, EnvOK E s ∧ eB E = s.heap.size := by
  obtain ⟨hx, hb, hr, hml, hown, hts, hX, hbl, hlocks, hgv⟩ := id C0
  have hg : ∀ c ∈ gvL, c.before #[Value.ref b] s = true := flat_of_before _ hgv
  have htG : ∀ w ∈ lw_G, w.before #[Value.ref b] s = true := fun w hw => lw_allT hts w (lw_Gin w hw)
  have hA : ∀ a : Nat, a < s.heap.size → ¬ (fun q : Nat => s.heap.size ≤ q) a := fun a h => Nat.not_le.mpr h
  obtain ⟨c0, iS0, hKn0⟩ := u_known (C := RX0) (T := TX0) (N := 3) (n := 3) htG inG0 (hts _ (List.mem_of_getElem? (i := 124) (by decide +kernel)))
  obtain ⟨c1, iS1, hKn1⟩ := u_known (C := RX1) (T := TX1) (N := 8) (n := 8) htG inG1 (hts _ (List.mem_of_getElem? (i := 145) (by decide +kernel)))
  obtain ⟨c2, iS2, hKn2⟩ := u_known (C := RX2) (T := TX2) (N := 1) (n := 1) htG inG2 (hts _ (List.mem_of_getElem? (i := 77) (by decide +kernel)))
  obtain ⟨c3, iS3, hKn3⟩ := u_known (C := RX3) (T := TX3) (N := 7) (n := 7) htG inG3 (hts _ (List.mem_of_getElem? (i := 70) (by decide +kernel)))
  obtain ⟨c4, iS4, hKn4⟩ := u_known (C := RX4) (T := TX4) (N := 12) (n := 12) htG inG4 (hts _ (List.mem_of_getElem? (i := 62) (by decide +kernel)))
  obtain ⟨c5, iS5, hKn5⟩ := u_known (C := RJ0) (T := TJ0) (N := 4) (n := 4) htG inG5 (hts _ (List.mem_of_getElem? (i := 917) (by decide +kernel)))
  obtain ⟨c6, iS6, hKn6⟩ := u_known (C := RJ4) (T := TJ4) (N := 4) (n := 4) htG inG6 (hts _ (List.mem_of_getElem? (i := 743) (by decide +kernel)))
  obtain ⟨dC, dI, hKc⟩ : ∃ (dC : Nat → ClassId) (dI : Nat → Nat → Nat), ∀ (k : Nat) (q : vw_C), vwCl[k]? = some q → u_Kn s q.1 q.2.1 q.2.2 (dC k) (dI k) := by
    refine ⟨fun k => match k with | 0 => c0 | 1 => c1 | 2 => c2 | 3 => c3 | 4 => c4 | 5 => c5 | _ => c6, fun k => match k with | 0 => iS0 | 1 => iS1 | 2 => iS2 | 3 => iS3 | 4 => iS4 | 5 => iS5 | _ => iS6, ?_⟩
    intro k q hq
    match k, hq with
    | 0, hq => cases hq; exact hKn0
    | 1, hq => cases hq; exact hKn1
    | 2, hq => cases hq; exact hKn2
    | 3, hq => cases hq; exact hKn3
    | 4, hq => cases hq; exact hKn4
    | 5, hq => cases hq; exact hKn5
    | 6, hq => cases hq; exact hKn6
    | k + 7, hq => simp [vwCl] at hq
  obtain ⟨a7, hr7⟩ := ar_n (ty := .byte) (fun C h => by cases h) (hts _ (List.mem_of_getElem? (i := 231) (by decide +kernel)))
  obtain ⟨a8, hr8⟩ := ar_n (ty := .char) (fun C h => by cases h) (hts _ (List.mem_of_getElem? (i := 86) (by decide +kernel)))
  obtain ⟨a9, hr9⟩ := ar_n (ty := .int) (fun C h => by cases h) (hts _ (List.mem_of_getElem? (i := 87) (by decide +kernel)))
  have ho10 : (Cond.arrayOver (.object "OfflineNotes$State")).before #[Value.ref b] s = true := (hts _ (List.mem_of_getElem? (i := 76) (by decide +kernel)))
  obtain ⟨a10, hr10⟩ := ar_o (C := "OfflineNotes$State") ho10
  have ho11 : (Cond.arrayOver (.object "OfflineNotes$World")).before #[Value.ref b] s = true := (hts _ (List.mem_of_getElem? (i := 130) (by decide +kernel)))
  obtain ⟨a11, hr11⟩ := ar_o (C := "OfflineNotes$World") ho11
  obtain ⟨adK, adV, hSt, hEv⟩ := jS_of (A := fun q : Nat => s.heap.size ≤ q) hg hA
  obtain ⟨cy, hcy⟩ : ∃ cy : Nat → ClassId, cy 7 = a7 ∧ cy 8 = a8 ∧ cy 9 = a9 ∧ cy 10 = a10 ∧ cy 11 = a11 := ⟨fun k => match k with | 7 => a7 | 8 => a8 | 9 => a9 | 10 => a10 | _ => a11, rfl, rfl, rfl, rfl, rfl⟩
  obtain ⟨y7, y8, y9, y10, y11⟩ := hcy
  obtain ⟨adT, hTd⟩ := jT_of (A := fun q : Nat => s.heap.size ≤ q) hg hts hA
  refine ⟨((dC, dI), cy, adK, (fun k => if k < 100 then adV k else adT (k - 100)), s.heap.size), ⟨⟨hKc, ?_⟩, fun i hi => ?_, ?_, ?_, ?_, ?_, ?_, ?_, ?_, ?_, ?_, ?_, fun i hi => ?_⟩, rfl⟩
  · intro k q hq
    match k, hq with
    | 0, hq => cases hq; rw [← y7] at hr7; exact hr7
    | 1, hq => cases hq; rw [← y8] at hr8; exact hr8
    | 2, hq => cases hq; rw [← y9] at hr9; exact hr9
    | 3, hq => cases hq; rw [← y10] at hr10; exact hr10
    | 4, hq => cases hq; rw [← y11] at hr11; exact hr11
    | k + 5, hq => simp [vtys] at hq
  · have e : (if i < 100 then adV i else adT (i - 100)) = adV i := if_pos (by omega)
    refine ⟨(hSt i hi).1, (hSt i hi).2.1, ?_, ?_⟩
    · show va_OF _ _ _ (.ref (if i < 100 then adV i else adT (i - 100))) _ _ _ _
      rw [e]; exact (hSt i hi).2.2.1
    · show va_T _ (if i < 100 then adV i else adT (i - 100)) _ _ _ _ _
      rw [e]; exact (hSt i hi).2.2.2
  · intro i q hq
    have hi : i < 33 := by
      have := (List.getElem?_eq_some_iff.mp hq).1
      rwa [sST_len] at this
    have e : sST.getD i ("", 0, "") = q := by rw [List.getD_eq_getElem?_getD, hq]; rfl
    have h1 : (Cond.stringRef (sOwn i) (sIdx i) (sTx i)).before #[Value.ref b] s = true := hts _ (List.mem_of_getElem? (sr_ok ⟨i, hi⟩))
    have h2 : (Term.string (sOwn i) (sIdx i)).eval #[Value.ref b] s none [] s = some (.ref (adK i)) := hEv i hi
    unfold sOwn sIdx at h1 h2
    unfold sTx at h1
    rw [e] at h1 h2
    exact vk_R.of h1 h2
  · exact vx_Zqof (hts _ (List.mem_of_getElem? (i := 470) (by decide +kernel))) (hts _ (List.mem_of_getElem? (i := 55) (by decide +kernel))) (hg _ (List.mem_of_getElem? (i := 9) (by decide +kernel))) hA
  · exact vx_Zqof (hts _ (List.mem_of_getElem? (i := 472) (by decide +kernel))) (hts _ (List.mem_of_getElem? (i := 55) (by decide +kernel))) (hg _ (List.mem_of_getElem? (i := 10) (by decide +kernel))) hA
  · exact va_Zof (hts _ (List.mem_of_getElem? (i := 156) (by decide +kernel))) (hts _ (List.mem_of_getElem? (i := 44) (by decide +kernel))) (va_eqi (hg _ (List.mem_of_getElem? (i := 4) (by decide +kernel)))) hA
  · exact va_Zqof (hts _ (List.mem_of_getElem? (i := 179) (by decide +kernel))) (hts _ (List.mem_of_getElem? (i := 47) (by decide +kernel))) (hg _ (List.mem_of_getElem? (i := 5) (by decide +kernel))) hA
  · exact List.forall_mem_cons.mpr ⟨va_Nw.of rfl (hts _ (List.mem_of_getElem? (i := 512) (by decide +kernel))), List.forall_mem_cons.mpr ⟨va_Nw.of rfl (hts _ (List.mem_of_getElem? (i := 445) (by decide +kernel))), List.forall_mem_cons.mpr ⟨va_Nw.of rfl (hts _ (List.mem_of_getElem? (i := 577) (by decide +kernel))), List.forall_mem_cons.mpr ⟨va_Nw.of rfl (hts _ (List.mem_of_getElem? (i := 804) (by decide +kernel))), fun _ h => absurd h List.not_mem_nil⟩⟩⟩⟩
  · exact List.forall_mem_cons.mpr ⟨va_Nw.of rfl (hts _ (List.mem_of_getElem? (i := 447) (by decide +kernel))), List.forall_mem_cons.mpr ⟨va_Nw.of rfl (hts _ (List.mem_of_getElem? (i := 449) (by decide +kernel))), List.forall_mem_cons.mpr ⟨va_Nw.of rfl (hts _ (List.mem_of_getElem? (i := 451) (by decide +kernel))), fun _ h => absurd h List.not_mem_nil⟩⟩⟩
  · exact List.forall_mem_cons.mpr ⟨va_Nw.of rfl (hts _ (List.mem_of_getElem? (i := 78) (by decide +kernel))), List.forall_mem_cons.mpr ⟨va_Nw.of rfl (hts _ (List.mem_of_getElem? (i := 125) (by decide +kernel))), List.forall_mem_cons.mpr ⟨va_Nw.of rfl (hts _ (List.mem_of_getElem? (i := 143) (by decide +kernel))), fun _ h => absurd h List.not_mem_nil⟩⟩⟩
  · exact List.forall_mem_cons.mpr ⟨va_AO.of ho10, List.forall_mem_cons.mpr ⟨va_AO.of ho11, fun _ h => absurd h List.not_mem_nil⟩⟩
  · exact List.forall_mem_cons.mpr ⟨va_Nc.of (hg _ (List.mem_of_getElem? (i := 224) (by decide +kernel))), List.forall_mem_cons.mpr ⟨va_Nc.of (hg _ (List.mem_of_getElem? (i := 225) (by decide +kernel))), fun _ h => absurd h List.not_mem_nil⟩⟩
  · have e : (if 100 + i < 100 then adV (100 + i) else adT (100 + i - 100)) = adT i := by rw [if_neg (by omega), show 100 + i - 100 = i by omega]
    refine ⟨?_, ?_⟩
    · show va_Z _ _ _ (.ref (if 100 + i < 100 then adV (100 + i) else adT (100 + i - 100))) _ _ _
      rw [e]; exact (hTd i hi).1
    · show va_T _ (if 100 + i < 100 then adV (100 + i) else adT (100 + i - 100)) _ _ _ _ _
      rw [e]; exact (hTd i hi).2
