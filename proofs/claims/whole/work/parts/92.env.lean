/-! THE RUN'S TABLES AND CONSTANTS, OUT OF THE START (written by genenv.py) -/
def gvL : List Cond := flatC (Jvm.Cond.and given_1 narrow_1)
def exO : List Nat := [55, 188, 200, 207, 214, 221, 231, 240, 249, 257, 268, 296, 326, 351, 370, 389, 404, 424, 443, 473, 499, 528, 559, 575, 607, 637]
def srO : List Nat := [195, 303, 353, 362, 363, 384, 401, 410, 426, 442, 641, 689, 705, 731, 768, 811, 857, 939, 958, 982, 991, 1011, 1042, 1043, 1052, 1093]
def sOwn (i : Nat) : String := (sST.getD i ("", 0, "")).1
def sIdx (i : Nat) : Nat := (sST.getD i ("", 0, "")).2.1
def sTx (i : Nat) : String := (sST.getD i ("", 0, "")).2.2
def sTm (i : Nat) : Term := .string (sOwn i) (sIdx i)
theorem gv_ex : ∀ i : Fin 26, gvL[exO.getD i.val 0]? = some (Cond.exactly (sTm i.val) "java/lang/String") := by decide +kernel
theorem gv_co : ∀ i : Fin 10, gvL[exO.getD i.val 0 + 1]? = some (Cond.eq (.field (sTm i.val) "java/lang/String" "coder" "B") (.int 0)) := by decide +kernel
theorem gv_ar : ∀ i : Fin 10, gvL[exO.getD i.val 0 + 2]? = some (Cond.arrayOf (.field (sTm i.val) "java/lang/String" "value" "[B") .byte) := by decide +kernel
theorem gv_le : ∀ i : Fin 10, gvL[exO.getD i.val 0 + 3]? = some (Cond.eq (.length (.field (sTm i.val) "java/lang/String" "value" "[B")) (.int (Int32.ofNat (sLEN.getD i.val 0)))) := by decide +kernel
theorem gv_el : ∀ i : Fin 10, ∀ j : Fin 129, j.val < sLEN.getD i.val 0 → gvL[exO.getD i.val 0 + 4 + j.val]? = some (Cond.eq (.elem (.field (sTm i.val) "java/lang/String" "value" "[B") (.int (Int32.ofNat j.val))) (.int ((sBYT.getD i.val []).getD j.val 0))) := by decide +kernel
theorem sr_ok : ∀ i : Fin 26, lw_tbl[srO.getD i.val 0]? = some (Cond.stringRef (sOwn i.val) (sIdx i.val) (sTx i.val)) := by decide +kernel
theorem sST_len : sST.length = 26 := rfl
theorem sLEN_129 : ∀ i : Fin 10, sLEN.getD i.val 0 ≤ 129 := by decide +kernel
theorem jS_of {args : Array Value} {s : State} {A : Nat → Prop} (hg : ∀ c ∈ gvL, c.before args s = true) (hA : ∀ a : Nat, a < s.heap.size → ¬ A a) : ∃ adK adV : Nat → Nat, (∀ i : Nat, i < 10 → va_O "java/lang/String" (adK i) A s s.heap ∧ va_OF "java/lang/String" "coder" "B" (.int 0) (adK i) A s s.heap ∧ va_OF "java/lang/String" "value" "[B" (.ref (adV i)) (adK i) A s s.heap ∧ va_T .byte (adV i) (sLEN.getD i 0) (fun j => .int ((sBYT.getD i []).getD j 0)) A s s.heap) ∧ ∀ i : Nat, i < 26 → (sTm i).eval args s none [] s = some (.ref (adK i)) := by
  have G : ∀ {k : Nat} {w : Cond}, gvL[k]? = some w → w.before args s = true := fun h => hg _ (List.mem_of_getElem? h)
  have h1 : ∀ i : Nat, ∃ a : Nat, i < 26 → (sTm i).eval args s none [] s = some (.ref a) := by
    intro i
    by_cases hi : i < 26
    · obtain ⟨a, c, cA, kA, q1, -⟩ := Cond.exactly_spec (args := args) (first := s) (o := none) (s := s) (idx := []) (t := sTm i) (cls := "java/lang/String") (G (gv_ex ⟨i, hi⟩))
      exact ⟨a, fun _ => q1⟩
    · exact ⟨0, fun h => absurd h hi⟩
  obtain ⟨adK, hK⟩ := Classical.axiomOfChoice h1
  have h2 : ∀ i : Nat, ∃ t : Nat, i < 10 → va_O "java/lang/String" (adK i) A s s.heap ∧ va_OF "java/lang/String" "coder" "B" (.int 0) (adK i) A s s.heap ∧ va_OF "java/lang/String" "value" "[B" (.ref t) (adK i) A s s.heap ∧ va_T .byte t (sLEN.getD i 0) (fun j => .int ((sBYT.getD i []).getD j 0)) A s s.heap := by
    intro i
    by_cases hi : i < 10
    · have q1 := hK i (by omega)
      have ln := sLEN_129 ⟨i, hi⟩
      dsimp only at ln
      obtain ⟨t, ht, hT⟩ := va_Tof (f := fun j => .int ((sBYT.getD i []).getD j 0)) (A := A) (show sLEN.getD i 0 < 2 ^ 31 by omega) (G (gv_ar ⟨i, hi⟩)) (va_eqt (G (gv_le ⟨i, hi⟩))) (fun j hj => va_eqt (G (gv_el ⟨i, hi⟩ ⟨j, by omega⟩ hj))) hA
      exact ⟨t, fun _ => ⟨va_Oof (G (gv_ex ⟨i, by omega⟩)) q1 hA, vk_OFof q1 (va_eqt (G (gv_co ⟨i, hi⟩))) hA, vk_OFof q1 ht hA, hT⟩⟩
    · exact ⟨0, fun h => absurd h hi⟩
  obtain ⟨adV, hV⟩ := Classical.axiomOfChoice h2
  exact ⟨adK, adV, hV, hK⟩
/-- arrays of numbers, arrays of objects -/
theorem ar_n {args : Array Value} {s : State} {ty : FieldType} (hn : ∀ C, ty ≠ .object C) (h : (Cond.arrayClass ty).before args s = true) : ∃ cA, ArrOfT s cA ty ∧ va_RA s cA ty := by
  obtain ⟨cA, kA, comp, h1, h2, h3⟩ := Cond.arrayClass_spec h
  refine ⟨cA, fun n z => ⟨fun k h => (by cases h), kA, h2, comp, h3⟩, ?_⟩
  unfold va_RA
  cases ty with
  | object C => exact absurd rfl (hn C)
  | _ => exact h1
theorem ar_o {args : Array Value} {s : State} {C : String} (h : (Cond.arrayOver (.object C)).before args s = true) : ∃ cA, ArrOfT s cA (.object C) ∧ va_RA s cA (.object C) := by
  obtain ⟨comp, cA, kA, h1, h2, h3, h4, h5⟩ := Cond.arrayOver_spec h
  exact ⟨cA, fun n z => ⟨fun k h => (by cases h), kA, h3, comp, h4⟩, kA, comp, h3, h4, h1, h5⟩
set_option maxRecDepth 100000 in
theorem env_of {p : Program} {s : State} {m : MethodId} {meth : Method} {c : Code} {b L : Nat} {xs : Nat → Int32} (C0 : lw_At p s m meth c b L xs) : ∃ E : KEnv, EnvOK E s ∧ eB E = s.heap.size := by
  obtain ⟨hx, hb, hr, hml, hown, hts, hX, hbl, hlocks, hgv⟩ := id C0
  have hg : ∀ c ∈ gvL, c.before #[Value.ref b] s = true := flat_of_before _ hgv
  have htG : ∀ w ∈ lw_G, w.before #[Value.ref b] s = true := fun w hw => hts w (lw_Gin w hw)
  have hA : ∀ a : Nat, a < s.heap.size → ¬ (fun q : Nat => s.heap.size ≤ q) a := fun a h => Nat.not_le.mpr h
  obtain ⟨c0, iS0, hKn0⟩ := u_known (C := RX0) (T := TX0) (N := 3) (n := 3) htG inG0 (hts _ (List.mem_of_getElem? (i := 173) (by decide +kernel)))
  obtain ⟨c1, iS1, hKn1⟩ := u_known (C := RX1) (T := TX1) (N := 8) (n := 8) htG inG1 (hts _ (List.mem_of_getElem? (i := 194) (by decide +kernel)))
  obtain ⟨c2, iS2, hKn2⟩ := u_known (C := RX2) (T := TX2) (N := 1) (n := 1) htG inG2 (hts _ (List.mem_of_getElem? (i := 126) (by decide +kernel)))
  obtain ⟨c3, iS3, hKn3⟩ := u_known (C := RX3) (T := TX3) (N := 7) (n := 7) htG inG3 (hts _ (List.mem_of_getElem? (i := 119) (by decide +kernel)))
  obtain ⟨c4, iS4, hKn4⟩ := u_known (C := RX4) (T := TX4) (N := 12) (n := 12) htG inG4 (hts _ (List.mem_of_getElem? (i := 111) (by decide +kernel)))
  obtain ⟨c5, iS5, hKn5⟩ := u_known (C := RX5) (T := TX5) (N := 21) (n := 21) htG inG5 (hts _ (List.mem_of_getElem? (i := 1095) (by decide +kernel)))
  obtain ⟨dC, dI, hKc⟩ : ∃ (dC : Nat → ClassId) (dI : Nat → Nat → Nat), ∀ (k : Nat) (q : vw_C), vwCl[k]? = some q → u_Kn s q.1 q.2.1 q.2.2 (dC k) (dI k) := by
    refine ⟨fun k => match k with | 0 => c0 | 1 => c1 | 2 => c2 | 3 => c3 | 4 => c4 | _ => c5, fun k => match k with | 0 => iS0 | 1 => iS1 | 2 => iS2 | 3 => iS3 | 4 => iS4 | _ => iS5, ?_⟩
    intro k q hq
    match k, hq with
    | 0, hq => cases hq; exact hKn0
    | 1, hq => cases hq; exact hKn1
    | 2, hq => cases hq; exact hKn2
    | 3, hq => cases hq; exact hKn3
    | 4, hq => cases hq; exact hKn4
    | 5, hq => cases hq; exact hKn5
    | k + 6, hq => simp [vwCl] at hq
  obtain ⟨a7, hr7⟩ := ar_n (ty := .byte) (fun C h => by cases h) (hts _ (List.mem_of_getElem? (i := 280) (by decide +kernel)))
  obtain ⟨a8, hr8⟩ := ar_n (ty := .char) (fun C h => by cases h) (hts _ (List.mem_of_getElem? (i := 135) (by decide +kernel)))
  obtain ⟨a9, hr9⟩ := ar_n (ty := .int) (fun C h => by cases h) (hts _ (List.mem_of_getElem? (i := 136) (by decide +kernel)))
  obtain ⟨a12, hr12⟩ := ar_n (ty := .long) (fun C h => by cases h) (hts _ (List.mem_of_getElem? (i := 1617) (by decide +kernel)))
  have ho10 : (Cond.arrayOver (.object "OfflineNotes$State")).before #[Value.ref b] s = true := (hts _ (List.mem_of_getElem? (i := 125) (by decide +kernel)))
  obtain ⟨a10, hr10⟩ := ar_o (C := "OfflineNotes$State") ho10
  have ho11 : (Cond.arrayOver (.object "OfflineNotes$World")).before #[Value.ref b] s = true := (hts _ (List.mem_of_getElem? (i := 179) (by decide +kernel)))
  obtain ⟨a11, hr11⟩ := ar_o (C := "OfflineNotes$World") ho11
  obtain ⟨adK, adV, hSt, hEv⟩ := jS_of (A := fun q : Nat => s.heap.size ≤ q) hg hA
  obtain ⟨cy, hcy⟩ : ∃ cy : Nat → ClassId, cy 7 = a7 ∧ cy 8 = a8 ∧ cy 9 = a9 ∧ cy 10 = a10 ∧ cy 11 = a11 ∧ cy 12 = a12 := ⟨fun k => match k with | 7 => a7 | 8 => a8 | 9 => a9 | 10 => a10 | 11 => a11 | _ => a12, rfl, rfl, rfl, rfl, rfl, rfl⟩
  obtain ⟨y7, y8, y9, y10, y11, y12⟩ := hcy
  refine ⟨((dC, dI), cy, adK, adV, s.heap.size), ⟨⟨hKc, ?_⟩, hSt, ?_, ?_, ?_, ?_, ?_, ?_, ?_, ?_, ?_, ?_⟩, rfl⟩
  · intro k q hq
    match k, hq with
    | 0, hq => cases hq; rw [← y7] at hr7; exact hr7
    | 1, hq => cases hq; rw [← y8] at hr8; exact hr8
    | 2, hq => cases hq; rw [← y9] at hr9; exact hr9
    | 3, hq => cases hq; rw [← y10] at hr10; exact hr10
    | 4, hq => cases hq; rw [← y11] at hr11; exact hr11
    | 5, hq => cases hq; rw [← y12] at hr12; exact hr12
    | k + 6, hq => simp [vtys] at hq
  · intro i q hq
    have hi : i < 26 := by
      have := (List.getElem?_eq_some_iff.mp hq).1
      rwa [sST_len] at this
    have e : sST.getD i ("", 0, "") = q := by rw [List.getD_eq_getElem?_getD, hq]; rfl
    have h1 : (Cond.stringRef (sOwn i) (sIdx i) (sTx i)).before #[Value.ref b] s = true := hts _ (List.mem_of_getElem? (sr_ok ⟨i, hi⟩))
    have h2 : (Term.string (sOwn i) (sIdx i)).eval #[Value.ref b] s none [] s = some (.ref (adK i)) := hEv i hi
    unfold sOwn sIdx at h1 h2
    unfold sTx at h1
    rw [e] at h1 h2
    exact vk_R.of h1 h2
  · exact vx_Zqof (hts _ (List.mem_of_getElem? (i := 627) (by decide +kernel))) (hts _ (List.mem_of_getElem? (i := 104) (by decide +kernel))) (hg _ (List.mem_of_getElem? (i := 9) (by decide +kernel))) hA
  · exact vx_Zqof (hts _ (List.mem_of_getElem? (i := 629) (by decide +kernel))) (hts _ (List.mem_of_getElem? (i := 104) (by decide +kernel))) (hg _ (List.mem_of_getElem? (i := 10) (by decide +kernel))) hA
  · exact va_Zof (hts _ (List.mem_of_getElem? (i := 205) (by decide +kernel))) (hts _ (List.mem_of_getElem? (i := 97) (by decide +kernel))) (va_eqi (hg _ (List.mem_of_getElem? (i := 4) (by decide +kernel)))) hA
  · exact va_Zqof (hts _ (List.mem_of_getElem? (i := 228) (by decide +kernel))) (hts _ (List.mem_of_getElem? (i := 100) (by decide +kernel))) (hg _ (List.mem_of_getElem? (i := 5) (by decide +kernel))) hA
  · exact List.forall_mem_cons.mpr ⟨va_Nw.of rfl (hts _ (List.mem_of_getElem? (i := 602) (by decide +kernel))), List.forall_mem_cons.mpr ⟨va_Nw.of rfl (hts _ (List.mem_of_getElem? (i := 682) (by decide +kernel))), List.forall_mem_cons.mpr ⟨va_Nw.of rfl (hts _ (List.mem_of_getElem? (i := 698) (by decide +kernel))), fun _ h => absurd h List.not_mem_nil⟩⟩⟩
  · exact List.forall_mem_cons.mpr ⟨va_Nw.of rfl (hts _ (List.mem_of_getElem? (i := 604) (by decide +kernel))), List.forall_mem_cons.mpr ⟨va_Nw.of rfl (hts _ (List.mem_of_getElem? (i := 606) (by decide +kernel))), List.forall_mem_cons.mpr ⟨va_Nw.of rfl (hts _ (List.mem_of_getElem? (i := 608) (by decide +kernel))), fun _ h => absurd h List.not_mem_nil⟩⟩⟩
  · exact List.forall_mem_cons.mpr ⟨va_Nw.of rfl (hts _ (List.mem_of_getElem? (i := 127) (by decide +kernel))), List.forall_mem_cons.mpr ⟨va_Nw.of rfl (hts _ (List.mem_of_getElem? (i := 174) (by decide +kernel))), List.forall_mem_cons.mpr ⟨va_Nw.of rfl (hts _ (List.mem_of_getElem? (i := 192) (by decide +kernel))), fun _ h => absurd h List.not_mem_nil⟩⟩⟩
  · exact List.forall_mem_cons.mpr ⟨va_AO.of ho10, List.forall_mem_cons.mpr ⟨va_AO.of ho11, fun _ h => absurd h List.not_mem_nil⟩⟩
  · exact List.forall_mem_cons.mpr ⟨va_Nc.of (hg _ (List.mem_of_getElem? (i := 26) (by decide +kernel))), List.forall_mem_cons.mpr ⟨va_Nc.of (hg _ (List.mem_of_getElem? (i := 25) (by decide +kernel))), fun _ h => absurd h List.not_mem_nil⟩⟩
