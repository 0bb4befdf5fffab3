/-! THE OUTPUT -/
theorem chr_ok : ∀ c : Fin 128, (((nI c.val).toUInt32 % 65536).toInt32) = nI c.val ∧ vp_nar .char (nI c.val) = nI c.val ∧ (nI c.val).toInt8.toInt32 = nI c.val ∧ vp_nar .byte (nI c.val) = nI c.val := by decide
def holds (f : Nat → Int32) (L : List Nat) : Prop := ∀ i c, L[i]? = some c → f i = nI c
theorem holds_nil (f : Nat → Int32) : holds f [] := fun i c h => by cases h
theorem holds_app {f : Nat → Int32} {L : List Nat} (h : holds f L) (c : Nat) : holds (u1 f L.length (nI c)) (L ++ [c]) := by
  intro i d hd
  rw [List.getElem?_append] at hd
  by_cases q : i < L.length
  · rw [if_pos q] at hd; rw [u1_ne _ _ (by omega)]; exact h i d hd
  · rw [if_neg q] at hd
    by_cases q2 : i = L.length
    · rw [q2] at hd ⊢; rw [Nat.sub_self] at hd; cases hd; rw [u1_self]
    · obtain ⟨k, hk⟩ : ∃ k, i - L.length = k + 1 := ⟨i - L.length - 1, by omega⟩
      rw [hk] at hd; cases hd
theorem holds_eq {f g : Nat → Int32} {L : List Nat} (h : holds f L) (k : holds g L) : ∀ i, i < L.length → f i = g i := fun i hi => by
  obtain ⟨c, hc⟩ : ∃ c, L[i]? = some c := ⟨L[i], List.getElem?_eq_getElem hi⟩
  rw [h i c hc, k i c hc]
section CO
variable {n x : Nat} {M : Mem}
def cOut (x : Nat) (M : Mem) (f : Nat → Int32) (k : Nat) : Mem := wI (wA M (x + 2) f) 133 x (nI k)
def rOut (x : Nat) (M : Mem) (g : Nat → Int32) (f : Nat → Int32) (k : Nat) : Mem := wA (wI (wA M (x + 67) f) 171 (x + 60) (nI k)) (x + 62) g
theorem cc_put (fx : Fix x M) {f : Nat → Int32} {k c : Nat} (hk : k < 32) (hc : c < 128) : f_X4_put x (nI c) (cOut x M f k) = some (cOut x M (u1 f k (nI c)) (k + 1)) := by
  obtain ⟨o1, o2, o3, o4⟩ := chr_ok ⟨c, hc⟩
  dsimp only at o1 o2
  have k5 : mK (cOut x M f k) x = 5 := fx.1.1
  have i133 : gI 5 133 x (cOut x M f k) = some (nI k) := by unfold gI; rw [if_pos k5]; show some (mI (wI (wA M (x + 2) f) 133 x (nI k)) 133 x) = _; rw [mI_wI, if_pos ⟨rfl, rfl⟩]
  have r132 : gRn 5 132 x (cOut x M f k) = some (x + 2) := gRn_ok k5 fx.1.2.2.1
  have sa : sA 8 (x + 2) (nI k) (((nI c).toUInt32 % 65536).toInt32) (cOut x M f k) = some (cOut x M (u1 f k (nI c)) k) := by
    rw [o1, sA_w, if_pos ⟨show mK (cOut x M f k) (x + 2) = 8 from fx.2.1.2.2.1, by rw [show mN (cOut x M f k) (x + 2) = 32 from fx.2.1.2.2.2, inT hk (by omega)]; exact not_false⟩, nI_cl (by omega)]
    have e1 : mA (cOut x M f k) (x + 2) = f := wA_self M _ _
    have e2 : nar 8 (nI c) = nI c := o2
    rw [e1, e2]
    show some (wA (wI (wA M (x + 2) f) 133 x (nI k)) (x + 2) (u1 f k (nI c))) = _
    rw [show wA (wI (wA M (x + 2) f) 133 x (nI k)) (x + 2) (u1 f k (nI c)) = wI (wA (wA M (x + 2) f) (x + 2) (u1 f k (nI c))) 133 x (nI k) from rfl, wA_again]; rfl
  have i133' : gI 5 133 x (cOut x M (u1 f k (nI c)) k) = some (nI k) := by unfold gI; rw [if_pos (show mK (cOut x M (u1 f k (nI c)) k) x = 5 from fx.1.1)]; show some (mI (wI (wA M (x + 2) (u1 f k (nI c))) 133 x (nI k)) 133 x) = _; rw [mI_wI, if_pos ⟨rfl, rfl⟩]
  have si : sI 5 133 x (nI (k + 1)) (cOut x M (u1 f k (nI c)) k) = some (cOut x M (u1 f k (nI c)) (k + 1)) := by
    rw [sI_w, if_pos (show mK (cOut x M (u1 f k (nI c)) k) x = 5 from fx.1.1)]
    exact congrArg some (wI_again _ _ _ _ _)
  have hl : ¬ ((32 : Int32) ≤ nI k) := nI_ge hk (by decide)
  have ek : nI k + 1 = nI (k + 1) := nI_add k 1
  simp only [f_X4_put, fj_X4_put_30, i133, Option.bind_some, hl, if_false, r132, sa, i133', ek, si]
theorem rr_put (fx : Fix x M) {g f : Nat → Int32} {k c : Nat} (hk : k < 40) (hc : c < 128) : f_X5_writes (x + 60) (nI c) (rOut x M g f k) = some (rOut x M g (u1 f k (nI c)) (k + 1)) := by
  obtain ⟨o1, o2, o3, o4⟩ := chr_ok ⟨c, hc⟩
  dsimp only at o3 o4
  obtain ⟨g1, g2, g3, g4, g5, g6, g7, g8⟩ := fx.2.2.2.2.2.2.1
  obtain ⟨i1, i2, i3, i4, i5, i6, i7⟩ := fx.2.2.2.2.2.2.2.1
  have r170 : gRn 6 170 (x + 60) (rOut x M g f k) = some (x + 67) := gRn_ok (M := rOut x M g f k) g1 g8
  have i171 : ∀ f, gI 6 171 (x + 60) (rOut x M g f k) = some (nI k) := fun f => by
    unfold gI; rw [if_pos (show mK (rOut x M g f k) (x + 60) = 6 from g1)]
    show some (mI (wI (wA M (x + 67) f) 171 (x + 60) (nI k)) 171 (x + 60)) = _; rw [mI_wI, if_pos ⟨rfl, rfl⟩]
  have sa : sA 7 (x + 67) (nI k) ((nI c).toInt8.toInt32) (rOut x M g f k) = some (rOut x M g (u1 f k (nI c)) k) := by
    rw [o3, sA_w, if_pos ⟨show mK (rOut x M g f k) (x + 67) = 7 from i7.1, by rw [show mN (rOut x M g f k) (x + 67) = 40 from i7.2, inT hk (by omega)]; exact not_false⟩, nI_cl (by omega)]
    have e1 : mA (rOut x M g f k) (x + 67) = f := by
      show mA (wA (wI (wA M (x + 67) f) 171 (x + 60) (nI k)) (x + 62) g) (x + 67) = f
      rw [mA_ne (by omega)]; exact wA_self M _ _
    have e2 : nar 7 (nI c) = nI c := o4
    rw [e1, e2]
    unfold rOut
    rw [wA_comm (show x + 62 ≠ x + 67 by omega), show wA (wI (wA M (x + 67) f) 171 (x + 60) (nI k)) (x + 67) (u1 f k (nI c)) = wI (wA (wA M (x + 67) f) (x + 67) (u1 f k (nI c))) 171 (x + 60) (nI k) from rfl, wA_again]
  have si : sI 6 171 (x + 60) (nI (k + 1)) (rOut x M g (u1 f k (nI c)) k) = some (rOut x M g (u1 f k (nI c)) (k + 1)) := by
    rw [sI_w, if_pos (show mK (rOut x M g (u1 f k (nI c)) k) (x + 60) = 6 from g1)]
    unfold rOut
    rw [wI_wA, wI_again]
  have ek : nI k + 1 = nI (k + 1) := nI_add k 1
  simp only [f_X5_writes, r170, i171, Option.bind_some, sa, ek, si]
/-- the end of a call that has written -/
theorem fin_out {w : Nat} {p : Nat → Nat} {h b : Nat} (hD : InvD n x M w p h b) {f1 f2 : Nat → Int32} {L : List Nat} (hL : L.length ≤ 32) (h1 : holds f1 L) (h2 : holds f2 L) {fL : Nat → Int64} {z : Nat} : Inv (n + 1) x (wI (rOut x (setZ (wL (cOut x M f1 L.length) (x + 68) fL) z) (mA M (x + 62)) f2 L.length) 161 (x + 60) 0) := by
  obtain ⟨a1, a2, a3, ⟨len, ol, b1, b2, b3, b4, b5, b6, b7, b8, b9, b10⟩, a5, a6, a7, a8⟩ := hD
  let M4 := wI (rOut x (setZ (wL (cOut x M f1 L.length) (x + 68) fL) z) (mA M (x + 62)) f2 L.length) 161 (x + 60) 0
  have e62 : mA M4 (x + 62) = mA M (x + 62) := wA_self _ _ _
  have eA : ∀ a, a ≠ x + 2 → a ≠ x + 67 → mA M4 a = mA M a := fun a h1 h2 => by
    by_cases c : a = x + 62
    · rw [c, e62]
    · show mA (wA (wI (wA (wA M (x + 2) f1) (x + 67) f2) 171 (x + 60) (nI L.length)) (x + 62) (mA M (x + 62))) a = _
      rw [mA_ne c]
      show mA (wA (wA M (x + 2) f1) (x + 67) f2) a = _
      rw [mA_ne h2, mA_ne h1]
  have e2 : mA M4 (x + 2) = f1 := by
    show mA (wA (wI (wA (wA M (x + 2) f1) (x + 67) f2) 171 (x + 60) (nI L.length)) (x + 62) (mA M (x + 62))) (x + 2) = _
    rw [mA_ne (by omega)]
    show mA (wA (wA M (x + 2) f1) (x + 67) f2) (x + 2) = _
    rw [mA_ne (by omega), wA_self]
  have e67 : mA M4 (x + 67) = f2 := by
    show mA (wA (wI (wA (wA M (x + 2) f1) (x + 67) f2) 171 (x + 60) (nI L.length)) (x + 62) (mA M (x + 62))) (x + 67) = _
    rw [mA_ne (by omega)]
    exact wA_self _ _ _
  have eI : ∀ f a, mI M4 f a = if f = 161 ∧ a = x + 60 then 0 else if f = 171 ∧ a = x + 60 then nI L.length else if f = 133 ∧ a = x then nI L.length else mI M f a := fun f a => by
    show mI (wI (wI (wI M 133 x (nI L.length)) 171 (x + 60) (nI L.length)) 161 (x + 60) 0) f a = _
    rw [mI_wI, mI_wI, mI_wI]
  have kp : Keep x M M4 := ⟨rfl, rfl, rfl, rfl, fun a h1 h2 h3 h4 h5 => eA a h4 (by omega), fun f a h1 h2 => by rw [eI, if_neg (by omega), if_neg (by omega), if_neg (by omega)]⟩
  refine ⟨w, p, h, b, ?_, ?_, ?_, ⟨len, L.length, b1, hL, ?_, ?_, ?_, ?_, ?_, ?_, ?_, ?_⟩, ?_, ?_, ?_, ?_⟩
  · show Cls x w p M4 (mA M4 (x + 62)) (mA M4 (x + 64)) h (mA M4 (x + 65)) b
    rw [e62, eA _ (by omega) (by omega), eA _ (by omega) (by omega)]; exact a1.keep kp
  · show mI M4 165 (x + 60) = _; rw [eI, if_neg (by omega), if_neg (by omega), if_neg (by omega)]; exact a2
  · show mI M4 167 (x + 60) = _; rw [eI, if_neg (by omega), if_neg (by omega), if_neg (by omega)]; exact a3
  · show mI M4 129 x = _; rw [eI, if_neg (by omega), if_neg (by omega), if_neg (by omega)]; exact b3
  · show mI M4 169 (x + 60) = _; rw [eI, if_neg (by omega), if_neg (by omega), if_neg (by omega)]; exact b4
  · show mI M4 133 x = _; rw [eI, if_neg (by omega), if_neg (by omega), if_pos ⟨rfl, rfl⟩]
  · show mI M4 171 (x + 60) = _; rw [eI, if_neg (by omega), if_pos ⟨rfl, rfl⟩]
  · show mI M4 130 x = mI M4 172 (x + 60); rw [eI, eI, if_neg (by omega), if_neg (by omega), if_neg (by omega), if_neg (by omega), if_neg (by omega), if_neg (by omega)]; exact b7
  · show mI M4 131 x = mI M4 173 (x + 60); rw [eI, eI, if_neg (by omega), if_neg (by omega), if_neg (by omega), if_neg (by omega), if_neg (by omega), if_neg (by omega)]; exact b8
  · show ∀ i, i < len → (0 ≤ (mA M4 (x + 1) i).toInt ∧ (mA M4 (x + 1) i).toInt ≤ 255) ∧ mA M4 (x + 66) i = vp_nar .byte (mA M4 (x + 1) i)
    rw [eA _ (by omega) (by omega), eA _ (by omega) (by omega)]; exact b9
  · show ∀ i, i < L.length → mA M4 (x + 2) i = mA M4 (x + 67) i
    rw [e2, e67]; exact holds_eq h1 h2
  · show ∀ i, i < 72 → mA M4 (x + 61) i = keyF i
    rw [eA _ (by omega) (by omega)]; exact a5
  · show Wf (n + 1) (mA M4 (x + 62))
    rw [e62]; exact a6.mono (by omega)
  · show ∀ j, j < h → Wf (n + 1) (sl (mA M4 (x + 64)) j)
    rw [eA _ (by omega) (by omega)]; exact fun j hj => (a7 j hj).mono (by omega)
  · show ∀ s, s < 2 → bit b s → Wf (n + 1) (sl (mA M4 (x + 65)) s)
    rw [eA _ (by omega) (by omega)]; exact fun s hs hb => (a8 s hs hb).mono (by omega)
theorem Fix.cOut (fx : Fix x M) {f : Nat → Int32} {k : Nat} : Fix x (cOut x M f k) := fx
theorem Cx.cOut {w : Nat} {p : Nat → Nat} {g : Nat → Int32} {R C Q m k : Nat} (hx : Cx x w p M g R C Q m k) {f : Nat → Int32} {l : Nat} : Cx x w p (Jvm.Pilot.COfflineNotesLaw_law_r8908_f384f3.cOut x M f l) g R C Q m k := by
  obtain ⟨h1, h2, h3, h4, h5, h6⟩ := hx
  have pl := h6
  unfold Place at pl
  refine ⟨h1, h2, h3.same (fun i _ => ⟨rfl, rfl, fun f => rfl⟩) (fun i hi => ⟨fun f' => ?_, ?_, rfl⟩), h4, h5, h6⟩
  · show mI (wI M 133 x (nI l)) f' (w + i) = _; rw [mI_wI, if_neg (by omega)]
  · show mA (wA M (x + 2) f) (w + i) = _; rw [mA_ne (by omega)]
def ltag (a : Nat → Int32) : Nat → List Nat
  | 0 => []
  | t + 1 => ltag a t ++ (if 0 < lve a (36 + 4 * t) then [97 + t] else []) ++ (if 1 < lve a (36 + 4 * t) then [33] else [])
theorem ltag_le (a : Nat → Int32) (t : Nat) : (ltag a t).length ≤ 2 * t := by
  induction t with
  | zero => exact Nat.le_refl 0
  | succ t ih =>
    unfold ltag
    rw [List.length_append, List.length_append]
    have h1 : (if 0 < lve a (36 + 4 * t) then [97 + t] else []).length ≤ 1 := by split <;> simp
    have h2 : (if 1 < lve a (36 + 4 * t) then [33] else []).length ≤ 1 := by split <;> simp
    omega
theorem case_50 (hI : Inv n x M) {a : Int32} : fk_law_50 x (x + 60) (x + 68) a M (Inv (n + 1) x) := by
  obtain ⟨w, p, h, bb, hD⟩ := hI.d
  obtain ⟨R, C, Q, m, hx⟩ := hD.cx
  have hR := hx.Rle
  have hc := hx.2.2.2.1
  have fx := hI.fix
  refine lw_gen (H := hnd1 0) (F := f_X4_writeTags x a M) (G := f_X5_writeTags (x + 60) a) hI ?_
  rcases rng a R (by omega) with ⟨r, hr, rfl⟩ | ha
  · have cl : ∃ y, fj_X4_writeTags_13 x (sto w p r) 0 (cOut x M (mA M (x + 2)) 0) = some y ∧ (∃ f, y = (.inl (nI (ltag (row (mA M (x + 62)) r) 16).length), cOut x M f (ltag (row (mA M (x + 62)) r) 16).length) ∧ holds f (ltag (row (mA M (x + 62)) r) 16)) := by
      unfold fj_X4_writeTags_13
      refine loopM_inv (N := 16) (P := fun i s => s.1 = nI i ∧ ∃ f, s.2 = cOut x M f (ltag (row (mA M (x + 62)) r) i).length ∧ holds f (ltag (row (mA M (x + 62)) r) i)) ⟨rfl, _, rfl, holds_nil _⟩ (fun i s hi hp => ?_) (fun s hp => ?_) (FUn (by decide))
      · obtain ⟨s1, M2⟩ := s
        obtain ⟨e1, f, e2, e3⟩ := hp
        dsimp only at e1 e2
        subst e1 e2
        have hx2 := hx.cOut (f := f) (l := (ltag (row (mA M (x + 62)) r) i).length)
        obtain ⟨c0, d0, e0⟩ := hx2.cl (show r < 4 + m by omega)
        have ed := X2_dotsOfTag c0 hi
        rw [dl (f := 36 + i * 4) (f' := 36 + 4 * i) d0 e0 (by omega) (by omega)] at ed
        have hl := lve_lt (row (mA M (x + 62)) r) (36 + 4 * i)
        have le := ltag_le (row (mA M (x + 62)) r) i
        have h16 : ¬ ((16 : Int32) ≤ nI i) := nI_ge hi (by decide)
        have ei : nI i + 1 = nI (i + 1) := nI_add i 1
        have e97 : (97 : Int32) + nI i = nI (97 + i) := nI_add 97 i
        have k5 : ∀ f l, (mK (Jvm.Pilot.COfflineNotesLaw_law_r8908_f384f3.cOut x M f l) x = 5) = True := fun f l => eq_true fx.1.1
        by_cases q0 : 0 < lve (row (mA M (x + 62)) r) (36 + 4 * i)
        · have p1 := cc_put fx (f := f) (k := (ltag (row (mA M (x + 62)) r) i).length) (c := 97 + i) (by omega) (by omega)
          have z0 : ¬ (nI (lve (row (mA M (x + 62)) r) (36 + 4 * i)) ≤ 0) := nI_ge (a := 0) q0 (by omega)
          have h97 := holds_app e3 (97 + i)
          by_cases q1 : 1 < lve (row (mA M (x + 62)) r) (36 + 4 * i)
          · have z1 : ¬ (nI (lve (row (mA M (x + 62)) r) (36 + 4 * i)) ≤ 1) := nI_ge (a := 1) q1 (by omega)
            have lL : ltag (row (mA M (x + 62)) r) (i + 1) = ltag (row (mA M (x + 62)) r) i ++ [97 + i] ++ [33] := by show _ ++ (if 0 < lve (row (mA M (x + 62)) r) (36 + 4 * i) then _ else _) ++ (if 1 < lve (row (mA M (x + 62)) r) (36 + 4 * i) then _ else _) = _; rw [if_pos q0, if_pos q1]
            have p2 : f_X4_put x 33 _ = _ := cc_put fx (f := u1 f (ltag (row (mA M (x + 62)) r) i).length (nI (97 + i))) (k := (ltag (row (mA M (x + 62)) r) i).length + 1) (c := 33) (by omega) (by omega)
            have h33 := holds_app h97 33
            rw [List.length_append] at h33
            refine ⟨(nI (i + 1), cOut x M (u1 (u1 f (ltag (row (mA M (x + 62)) r) i).length (nI (97 + i))) ((ltag (row (mA M (x + 62)) r) i).length + 1) (nI 33)) ((ltag (row (mA M (x + 62)) r) i).length + 1 + 1)), ?_, rfl, u1 (u1 f (ltag (row (mA M (x + 62)) r) i).length (nI (97 + i))) ((ltag (row (mA M (x + 62)) r) i).length + 1) (nI 33), ?_, ?_⟩
            · simp only [fc_X4_writeTags_13, fj_X4_writeTags_39, fj_X4_writeTags_51, h16, if_false, cK, hx2.s3 (show r < 4 + m by omega), if_true, ed, bn, z0, z1, k5, e97, p1, p2, Option.bind_some, ei]
            · dsimp only; rw [lL, List.length_append, List.length_append]; rfl
            · rw [lL]; exact h33
          · have z1 : nI (lve (row (mA M (x + 62)) r) (36 + 4 * i)) ≤ 1 := nI_le (b := 1) (by omega) (by omega)
            have lL : ltag (row (mA M (x + 62)) r) (i + 1) = ltag (row (mA M (x + 62)) r) i ++ [97 + i] := by show _ ++ (if 0 < lve (row (mA M (x + 62)) r) (36 + 4 * i) then _ else _) ++ (if 1 < lve (row (mA M (x + 62)) r) (36 + 4 * i) then _ else _) = _; rw [if_pos q0, if_neg q1, List.append_nil]
            refine ⟨(nI (i + 1), cOut x M (u1 f (ltag (row (mA M (x + 62)) r) i).length (nI (97 + i))) ((ltag (row (mA M (x + 62)) r) i).length + 1)), ?_, rfl, u1 f (ltag (row (mA M (x + 62)) r) i).length (nI (97 + i)), ?_, ?_⟩
            · simp only [fc_X4_writeTags_13, fj_X4_writeTags_39, fj_X4_writeTags_51, h16, if_false, cK, hx2.s3 (show r < 4 + m by omega), if_true, ed, bn, z0, z1, k5, e97, p1, Option.bind_some, ei]
            · dsimp only; rw [lL, List.length_append]; rfl
            · rw [lL]; exact h97
        · have z0 : nI (lve (row (mA M (x + 62)) r) (36 + 4 * i)) ≤ 0 := nI_le (b := 0) (by omega) (by omega)
          have z1 : nI (lve (row (mA M (x + 62)) r) (36 + 4 * i)) ≤ 1 := nI_le (b := 1) (by omega) (by omega)
          have lL : ltag (row (mA M (x + 62)) r) (i + 1) = ltag (row (mA M (x + 62)) r) i := by show _ ++ (if 0 < lve (row (mA M (x + 62)) r) (36 + 4 * i) then _ else _) ++ (if 1 < lve (row (mA M (x + 62)) r) (36 + 4 * i) then _ else _) = _; rw [if_neg q0, if_neg (by omega), List.append_nil, List.append_nil]
          refine ⟨(nI (i + 1), cOut x M f (ltag (row (mA M (x + 62)) r) i).length), ?_, rfl, f, by rw [lL], by rw [lL]; exact e3⟩
          simp only [fc_X4_writeTags_13, fj_X4_writeTags_39, fj_X4_writeTags_51, h16, if_false, cK, hx2.s3 (show r < 4 + m by omega), if_true, ed, bn, z0, z1, ei]
      · obtain ⟨s1, M2⟩ := s
        obtain ⟨e1, f, e2, e3⟩ := hp
        dsimp only at e1 e2
        subst e1 e2
        have h16 : (16 : Int32) ≤ nI 16 := by decide
        have gi : gI 5 133 x (cOut x M f (ltag (row (mA M (x + 62)) r) 16).length) = some (nI (ltag (row (mA M (x + 62)) r) 16).length) := by
          unfold gI; rw [if_pos (show mK (cOut x M f (ltag (row (mA M (x + 62)) r) 16).length) x = 5 from fx.1.1)]; show some (mI (wI (wA M (x + 2) f) 133 x _) 133 x) = _; rw [mI_wI, if_pos ⟨rfl, rfl⟩]
        refine ⟨(.inl (nI (ltag (row (mA M (x + 62)) r) 16).length), cOut x M f (ltag (row (mA M (x + 62)) r) 16).length), ?_, f, rfl, e3⟩
        simp only [fc_X4_writeTags_13, fj_X4_writeTags_57, h16, if_true, gi, Option.bind_some, Option.map_some]
    obtain ⟨y, ec, f1, rfl, hf1⟩ := cl
    refine Or.inl ⟨nI (ltag (row (mA M (x + 62)) r) 16).length, cOut x M f1 (ltag (row (mA M (x + 62)) r) 16).length, ?_, fx, fun fL z _ => ?_⟩
    · have em : wI M 133 x 0 = cOut x M (mA M (x + 2)) 0 := by unfold cOut; rw [wA_id]; rfl
      simp only [f_X4_writeTags, cK, hx.k5, if_true, if_false, bx_l, bx_r, bn, Option.bind_some, Option.map_some, b01_or, hx.w134, hx.r100, hx.r101, hx.r102, hx.i96, hx.i97, hx.i98, hx.i99, sta_ok hx hr, sI_w, em, ec]
    · let M3 := setZ (wL (cOut x M f1 (ltag (row (mA M (x + 62)) r) 16).length) (x + 68) fL) z
      have f3 : Fix x M3 := fx
      have a62 : mA M3 (x + 62) = mA M (x + 62) := mA_ne (M := M) (g := f1) (by omega)
      have cr : ∃ y, fj_X5_writeTags_21 (x + 60) (nI r) 0 (rOut x M3 (mA M (x + 62)) (mA M3 (x + 67)) 0) = some y ∧ (∃ f, y = (nI (ltag (row (mA M (x + 62)) r) 16).length, wI (rOut x M3 (mA M (x + 62)) f (ltag (row (mA M (x + 62)) r) 16).length) 161 (x + 60) 0) ∧ holds f (ltag (row (mA M (x + 62)) r) 16)) := by
        unfold fj_X5_writeTags_21
        refine loopM_inv (N := 16) (P := fun i s => s.1 = nI i ∧ ∃ f, s.2 = rOut x M3 (mA M (x + 62)) f (ltag (row (mA M (x + 62)) r) i).length ∧ holds f (ltag (row (mA M (x + 62)) r) i)) ⟨rfl, _, rfl, holds_nil _⟩ (fun i s hi hp => ?_) (fun s hp => ?_) (FUn (by decide))
        · obtain ⟨s1, M2⟩ := s
          obtain ⟨e1, f, e2, e3⟩ := hp
          dsimp only at e1 e2
          subst e1 e2
          have rn : ∀ f l, Rn (wI (wA M3 (x + 67) f) 171 (x + 60) (nI l)) (x + 60) (x + 62) := fun f l => f3.rn
          have ed : f_X5_live (x + 60) (nI r) (nI i) (rOut x M3 (mA M (x + 62)) f (ltag (row (mA M (x + 62)) r) i).length) = some (nI (lve (row (mA M (x + 62)) r) (36 + 4 * i)), rOut x M3 (mA M (x + 62)) f (ltag (row (mA M (x + 62)) r) i).length) := X5_live (rn f _) (show r < 12 by omega) hi
          have hl := lve_lt (row (mA M (x + 62)) r) (36 + 4 * i)
          have le := ltag_le (row (mA M (x + 62)) r) i
          have h16 : ¬ ((16 : Int32) ≤ nI i) := nI_ge hi (by decide)
          have ei : nI i + 1 = nI (i + 1) := nI_add i 1
          have e97 : (97 : Int32) + nI i = nI (97 + i) := nI_add 97 i
          have k6 : ∀ f l, (mK (rOut x M3 (mA M (x + 62)) f l) (x + 60) = 6) = True := fun f l => eq_true f3.rn.1
          by_cases q0 : 0 < lve (row (mA M (x + 62)) r) (36 + 4 * i)
          · have p1 := rr_put f3 (g := mA M (x + 62)) (f := f) (k := (ltag (row (mA M (x + 62)) r) i).length) (c := 97 + i) (by omega) (by omega)
            have z0 : ¬ (nI (lve (row (mA M (x + 62)) r) (36 + 4 * i)) ≤ 0) := nI_ge (a := 0) q0 (by omega)
            have h97 := holds_app e3 (97 + i)
            by_cases q1 : 1 < lve (row (mA M (x + 62)) r) (36 + 4 * i)
            · have z1 : ¬ (nI (lve (row (mA M (x + 62)) r) (36 + 4 * i)) ≤ 1) := nI_ge (a := 1) q1 (by omega)
              have lL : ltag (row (mA M (x + 62)) r) (i + 1) = ltag (row (mA M (x + 62)) r) i ++ [97 + i] ++ [33] := by show _ ++ (if 0 < lve (row (mA M (x + 62)) r) (36 + 4 * i) then _ else _) ++ (if 1 < lve (row (mA M (x + 62)) r) (36 + 4 * i) then _ else _) = _; rw [if_pos q0, if_pos q1]
              have p2 : f_X5_writes (x + 60) 33 _ = _ := rr_put f3 (g := mA M (x + 62)) (f := u1 f (ltag (row (mA M (x + 62)) r) i).length (nI (97 + i))) (k := (ltag (row (mA M (x + 62)) r) i).length + 1) (c := 33) (by omega) (by omega)
              have h33 := holds_app h97 33
              rw [List.length_append] at h33
              refine ⟨(nI (i + 1), rOut x M3 (mA M (x + 62)) (u1 (u1 f (ltag (row (mA M (x + 62)) r) i).length (nI (97 + i))) ((ltag (row (mA M (x + 62)) r) i).length + 1) (nI 33)) ((ltag (row (mA M (x + 62)) r) i).length + 1 + 1)), ?_, rfl, u1 (u1 f (ltag (row (mA M (x + 62)) r) i).length (nI (97 + i))) ((ltag (row (mA M (x + 62)) r) i).length + 1) (nI 33), ?_, ?_⟩
              · simp only [fc_X5_writeTags_21, fj_X5_writeTags_46, fj_X5_writeTags_57, h16, if_false, cK, k6, if_true, ed, bn, z0, z1, e97, p1, p2, Option.bind_some, ei]
              · dsimp only; rw [lL, List.length_append, List.length_append]; rfl
              · rw [lL]; exact h33
            · have z1 : nI (lve (row (mA M (x + 62)) r) (36 + 4 * i)) ≤ 1 := nI_le (b := 1) (by omega) (by omega)
              have lL : ltag (row (mA M (x + 62)) r) (i + 1) = ltag (row (mA M (x + 62)) r) i ++ [97 + i] := by show _ ++ (if 0 < lve (row (mA M (x + 62)) r) (36 + 4 * i) then _ else _) ++ (if 1 < lve (row (mA M (x + 62)) r) (36 + 4 * i) then _ else _) = _; rw [if_pos q0, if_neg q1, List.append_nil]
              refine ⟨(nI (i + 1), rOut x M3 (mA M (x + 62)) (u1 f (ltag (row (mA M (x + 62)) r) i).length (nI (97 + i))) ((ltag (row (mA M (x + 62)) r) i).length + 1)), ?_, rfl, u1 f (ltag (row (mA M (x + 62)) r) i).length (nI (97 + i)), ?_, ?_⟩
              · simp only [fc_X5_writeTags_21, fj_X5_writeTags_46, fj_X5_writeTags_57, h16, if_false, cK, k6, if_true, ed, bn, z0, z1, e97, p1, Option.bind_some, ei]
              · dsimp only; rw [lL, List.length_append]; rfl
              · rw [lL]; exact h97
          · have z0 : nI (lve (row (mA M (x + 62)) r) (36 + 4 * i)) ≤ 0 := nI_le (b := 0) (by omega) (by omega)
            have z1 : nI (lve (row (mA M (x + 62)) r) (36 + 4 * i)) ≤ 1 := nI_le (b := 1) (by omega) (by omega)
            have lL : ltag (row (mA M (x + 62)) r) (i + 1) = ltag (row (mA M (x + 62)) r) i := by show _ ++ (if 0 < lve (row (mA M (x + 62)) r) (36 + 4 * i) then _ else _) ++ (if 1 < lve (row (mA M (x + 62)) r) (36 + 4 * i) then _ else _) = _; rw [if_neg q0, if_neg (by omega), List.append_nil, List.append_nil]
            refine ⟨(nI (i + 1), rOut x M3 (mA M (x + 62)) f (ltag (row (mA M (x + 62)) r) i).length), ?_, rfl, f, by rw [lL], by rw [lL]; exact e3⟩
            simp only [fc_X5_writeTags_21, fj_X5_writeTags_46, fj_X5_writeTags_57, h16, if_false, cK, k6, if_true, ed, bn, z0, z1, ei]
        · obtain ⟨s1, M2⟩ := s
          obtain ⟨e1, f, e2, e3⟩ := hp
          dsimp only at e1 e2
          subst e1 e2
          have rn : Rn (wI (wA M3 (x + 67) f) 171 (x + 60) (nI (ltag (row (mA M (x + 62)) r) 16).length)) (x + 60) (x + 62) := f3.rn
          have h16 : (16 : Int32) ≤ nI 16 := by decide
          have gi : gI 6 171 (x + 60) (rOut x M3 (mA M (x + 62)) f (ltag (row (mA M (x + 62)) r) 16).length) = some (nI (ltag (row (mA M (x + 62)) r) 16).length) := by
            unfold gI; rw [if_pos (show mK (rOut x M3 (mA M (x + 62)) f (ltag (row (mA M (x + 62)) r) 16).length) (x + 60) = 6 from f3.rn.1)]; show some (mI (wI (wA M3 (x + 67) f) 171 (x + 60) _) 171 (x + 60)) = _; rw [mI_wI, if_pos ⟨rfl, rfl⟩]
          have et : ∀ v, f_X5_told (x + 60) v (rOut x M3 (mA M (x + 62)) f (ltag (row (mA M (x + 62)) r) 16).length) = some (v, wI (rOut x M3 (mA M (x + 62)) f (ltag (row (mA M (x + 62)) r) 16).length) 161 (x + 60) 0) := fun v => told_eq rn
          have k6 : (mK (rOut x M3 (mA M (x + 62)) f (ltag (row (mA M (x + 62)) r) 16).length) (x + 60) = 6) = True := eq_true f3.rn.1
          refine ⟨(nI (ltag (row (mA M (x + 62)) r) 16).length, wI (rOut x M3 (mA M (x + 62)) f (ltag (row (mA M (x + 62)) r) 16).length) 161 (x + 60) 0), ?_, f, rfl, e3⟩
          simp only [fc_X5_writeTags_21, fj_X5_writeTags_63, h16, if_true, gi, cK, k6, et, bn, Option.bind_some, Option.map_some]
      obtain ⟨y, er, f2, rfl, hf2⟩ := cr
      refine ⟨wI (rOut x M3 (mA M (x + 62)) f2 (ltag (row (mA M (x + 62)) r) 16).length) 161 (x + 60) 0, ?_, f3, ?_, wL_self _ _ _, fin_out hD (by have := ltag_le (row (mA M (x + 62)) r) 16; omega) hf1 hf2⟩
      · have em : M3 = wA M3 (x + 62) (mA M (x + 62)) := by rw [← a62, wA_id]
        have em2 : wI M3 171 (x + 60) 0 = rOut x M3 (mA M (x + 62)) (mA M3 (x + 67)) 0 := by
          unfold rOut; rw [wA_id]; show _ = wA (wI M3 171 (x + 60) (nI 0)) (x + 62) (mA M (x + 62)); rw [← a62]; exact (wA_id (wI M3 171 (x + 60) (nI 0)) (x + 62)).symm
        have ei : f_X5_isReplica (x + 60) (nI r) M3 = some (1, M3) := by
          have := isR_ok (g := mA M (x + 62)) f3.rn hr hR.2.1 hc.1
          rwa [← em] at this
        have k6 : (mK M3 (x + 60) = 6) = True := eq_true f3.rn.1
        show f_X5_writeTags (x + 60) (nI r) M3 = _
        simp only [f_X5_writeTags, cK, k6, if_true, ei, bn, e10, if_false, sI_w, Option.bind_some, em2]
        exact er
      · rw [mI_wI, if_pos ⟨rfl, rfl⟩]
  · refine Or.inr (exc_of 0 1 (by decide) (fun M => rfl) ?_ (fun M2 f2 => ?_))
    · simp only [f_X4_writeTags, cK, hx.k5, if_true, if_false, bx_l, bx_r, bn, Option.bind_some, Option.map_some, b01_or, hx.w134, hx.r100, hx.r101, hx.r102, hx.i96, hx.i97, hx.i98, hx.i99, sta_no hx ha]
    · simp only [f_X5_writeTags, cK, kM f2.rn, if_true, if_false, bn, Option.bind_some, Option.map_some, told_eq f2.rn, refuse_eq f2.rn, refuses_eq f2.rn, e10, b01_or, true_or, or_true, isR_no f2.rn ha hR.2.1 hc.1]
end CO
