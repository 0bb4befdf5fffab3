/-! THE LAW'S CHANGES, each done -/
theorem i10 : ((1 : Int32) = 0) = False := eq_false (by decide)
theorem i20 : ((2 : Int32) = 0) = False := eq_false (by decide)
theorem i21 : ((2 : Int32) = 1) = False := eq_false (by decide)
theorem i30 : ((3 : Int32) = 0) = False := eq_false (by decide)
theorem i31 : ((3 : Int32) = 1) = False := eq_false (by decide)
theorem i32 : ((3 : Int32) = 2) = False := eq_false (by decide)
theorem i40 : ((4 : Int32) = 0) = False := eq_false (by decide)
theorem i41 : ((4 : Int32) = 1) = False := eq_false (by decide)
theorem i42 : ((4 : Int32) = 2) = False := eq_false (by decide)
theorem i43 : ((4 : Int32) = 3) = False := eq_false (by decide)
theorem i50 : ((5 : Int32) = 0) = False := eq_false (by decide)
theorem i51 : ((5 : Int32) = 1) = False := eq_false (by decide)
theorem i52 : ((5 : Int32) = 2) = False := eq_false (by decide)
theorem i53 : ((5 : Int32) = 3) = False := eq_false (by decide)
theorem i54 : ((5 : Int32) = 4) = False := eq_false (by decide)
theorem i60 : ((6 : Int32) = 0) = False := eq_false (by decide)
theorem i61 : ((6 : Int32) = 1) = False := eq_false (by decide)
theorem i62 : ((6 : Int32) = 2) = False := eq_false (by decide)
theorem i63 : ((6 : Int32) = 3) = False := eq_false (by decide)
theorem i64 : ((6 : Int32) = 4) = False := eq_false (by decide)
theorem i65 : ((6 : Int32) = 5) = False := eq_false (by decide)
theorem i70 : ((7 : Int32) = 0) = False := eq_false (by decide)
theorem i71 : ((7 : Int32) = 1) = False := eq_false (by decide)
theorem i72 : ((7 : Int32) = 2) = False := eq_false (by decide)
theorem i73 : ((7 : Int32) = 3) = False := eq_false (by decide)
theorem i74 : ((7 : Int32) = 4) = False := eq_false (by decide)
theorem i75 : ((7 : Int32) = 5) = False := eq_false (by decide)
theorem i76 : ((7 : Int32) = 6) = False := eq_false (by decide)
theorem i80 : ((8 : Int32) = 0) = False := eq_false (by decide)
theorem i81 : ((8 : Int32) = 1) = False := eq_false (by decide)
theorem i82 : ((8 : Int32) = 2) = False := eq_false (by decide)
theorem i83 : ((8 : Int32) = 3) = False := eq_false (by decide)
theorem i84 : ((8 : Int32) = 4) = False := eq_false (by decide)
theorem i85 : ((8 : Int32) = 5) = False := eq_false (by decide)
theorem i86 : ((8 : Int32) = 6) = False := eq_false (by decide)
theorem i87 : ((8 : Int32) = 7) = False := eq_false (by decide)

theorem lve_new {x : Nat → Int32} {f r : Nat} {v : Int32} (hf : 4 ≤ f) (hr : r < 4) (h : 0 < x r + 1) : lve (newN x f r v 4) f = 1 := by
  have e : lve (newN x f r v 4) f = cnt (fun j => j = r) 4 := cnt_congr (fun j hj => by
    rw [newN_f (by omega) (by omega)]
    by_cases c : j = r
    · rw [if_pos (by omega)]; exact ⟨fun _ => c, fun _ => h⟩
    · rw [if_neg (by omega)]; exact ⟨fun e => absurd e (by decide), fun e => absurd e c⟩)
  rw [e]
  rcases (show r = 0 ∨ r = 1 ∨ r = 2 ∨ r = 3 by omega) with rfl | rfl | rfl | rfl <;> decide
theorem lve_zap {x : Nat → Int32} {f : Nat} : lve (zap x f 4) f = 0 := by
  have e : lve (zap x f 4) f = cnt (fun _ => False) 4 := cnt_congr (fun j hj => by
    have : zap x f 4 (f + j) = 0 := if_pos (by omega)
    rw [this]; exact ⟨fun e => absurd e (by decide), fun e => e.elim⟩)
  rw [e]; decide
theorem gmax_new {x : Nat → Int32} {q r : Nat} {v : Int32} (hr : r < 4) (h : 0 < x r + 1) (hv : 0 ≤ v) : gmax (newN x (100 + 4 * q) r v 4) q 4 = v := by
  have ev : ∀ j, j < 4 → valE (newN x (100 + 4 * q) r v 4) q j = if j = r then v else -1 := fun j hj => by
    have e : newN x (100 + 4 * q) r v 4 (100 + (4 * q + j)) = if j = r then x r + 1 else 0 := by
      rw [newN_f (by omega) (by omega)]
      by_cases c : j = r
      · rw [if_pos c, if_pos (show 100 + (4 * q + j) = 100 + 4 * q + r by omega)]
      · rw [if_neg c, if_neg (show ¬ 100 + (4 * q + j) = 100 + 4 * q + r by omega)]
    unfold valE
    rw [e]
    by_cases c : j = r
    · rw [if_pos c, if_pos c, if_neg (Int32.not_le.mpr h), newN_v (by omega) (by omega) (by omega), if_pos (show 116 + (4 * q + j) = 100 + 4 * q + 16 + r by omega)]
    · rw [if_neg c, if_neg c, if_pos (Int32.le_refl _)]
  have hm : ¬ (v ≤ -1) := by
    rw [i32_le] at hv ⊢; rw [i32_0] at hv; have : (-1 : Int32).toInt = -1 := rfl
    omega
  have hp : (-1 : Int32) ≤ v := by
    rw [i32_le] at hv ⊢; rw [i32_0] at hv; have : (-1 : Int32).toInt = -1 := rfl
    omega
  have key : ∀ n, n ≤ 4 → gmax (newN x (100 + 4 * q) r v 4) q n = if r < n then v else -1 := by
    intro n
    induction n with
    | zero => intro _; rfl
    | succ n ih =>
      intro hn
      unfold gmax
      rw [ih (by omega), ev n (by omega)]
      by_cases c : n = r
      · rw [if_pos c, if_neg (show ¬ r < n by omega), if_pos (show r < n + 1 by omega), if_neg hm]
      · rw [if_neg c]
        by_cases c2 : r < n
        · rw [if_pos c2, if_pos (show r < n + 1 by omega), if_pos hp]
        · rw [if_neg c2, if_neg (show ¬ r < n + 1 by omega), if_pos (Int32.le_refl _)]
  rw [key 4 (Nat.le_refl _), if_pos hr]
theorem gmax_congr {a b : Nat → Int32} {q : Nat} (e : ∀ i, i < 132 → a i = b i) (hq : q < 4) : ∀ n, n ≤ 4 → gmax a q n = gmax b q n := by
  intro n
  induction n with
  | zero => intro _; rfl
  | succ n ih =>
    intro hn
    have ev : valE a q n = valE b q n := by unfold valE; rw [e _ (by omega), e _ (by omega)]
    unfold gmax; rw [ih (by omega), ev]
theorem tot_inc {a : Nat → Int32} {s r off : Nat} {c : Int32} (hs : s < 4) (hr : r < 4) (ho : off = 4 ∨ off = 20) : tot (u1 a (off + (4 * s + r)) (a (off + (4 * s + r)) + c)) s 4 = if off = 4 then tot a s 4 + c else tot a s 4 - c := by
  have key : ∀ n, n ≤ 4 → tot (u1 a (off + (4 * s + r)) (a (off + (4 * s + r)) + c)) s n = if r < n then (if off = 4 then tot a s n + c else tot a s n - c) else tot a s n := by
    intro n
    induction n with
    | zero => intro _; rfl
    | succ n ih =>
      intro hn
      show tot _ s n + (u1 a _ _ (4 + s * 4 + n) - u1 a _ _ (20 + s * 4 + n)) = _
      rw [ih (by omega)]
      by_cases q : n = r
      · subst q
        rw [if_neg (show ¬ n < n by omega), if_pos (show n < n + 1 by omega)]
        rcases ho with rfl | rfl
        · rw [show 4 + s * 4 + n = 4 + (4 * s + n) by omega, u1_self, u1_ne _ _ (by omega), if_pos rfl]
          show _ = tot a s n + (a (4 + s * 4 + n) - a (20 + s * 4 + n)) + c
          rw [show 4 + s * 4 + n = 4 + (4 * s + n) by omega, Int32.add_assoc, Int32.sub_eq_add_neg, Int32.sub_eq_add_neg, Int32.add_assoc, Int32.add_assoc, Int32.add_comm c]
        · rw [show 20 + s * 4 + n = 20 + (4 * s + n) by omega, u1_self, u1_ne _ _ (by omega), if_neg (by decide)]
          show _ = tot a s n + (a (4 + s * 4 + n) - a (20 + s * 4 + n)) - c
          rw [show 20 + s * 4 + n = 20 + (4 * s + n) by omega, Int32.sub_eq_add_neg, Int32.sub_eq_add_neg, Int32.sub_eq_add_neg, Int32.neg_add, Int32.add_assoc, Int32.add_assoc, Int32.sub_eq_add_neg]
      · rw [u1_ne _ _ (by omega), u1_ne _ _ (by omega)]
        by_cases c2 : r < n
        · rw [if_pos c2, if_pos (show r < n + 1 by omega)]
          rcases ho with rfl | rfl
          · rw [if_pos rfl, if_pos rfl]
            show _ = tot a s n + _ + c
            rw [Int32.add_assoc, Int32.add_assoc, Int32.add_comm c]
          · rw [if_neg (by decide), if_neg (by decide)]
            show _ = tot a s n + _ - c
            rw [Int32.sub_eq_add_neg (tot a s n), Int32.sub_eq_add_neg (tot a s n + _), Int32.add_assoc, Int32.add_assoc, Int32.add_comm (-c)]
        · rw [if_neg c2, if_neg (show ¬ r < n + 1 by omega)]; rfl
  rw [key 4 (Nat.le_refl _), if_pos hr]
section WRP
variable {n x R C Q m : Nat} {M : Mem} {g o : Nat → Int32} {h : Nat} {v : Nat → Int32} {b r s : Nat}
theorem w_rem (hd : DD n x R C Q m M g o h v b) (hr : r < R) (hs : s < 16) (c0 : lve (row g r) (36 + 4 * s) ≠ 0) : ∃ M', f_L_removed x (nI r) (nI s) M = some (nI (lve (row g r) (36 + 4 * s)), M') ∧ DD (n + 1) x R C Q m M' (put g r (zap (row g r) (36 + 4 * s) 4)) (remO o h g) (remH h) v b := by
  obtain ⟨w, p, cz, hx⟩ := hd.cx
  obtain ⟨M1, e, d1⟩ := hd.step (h_rem cz hx hr hs c0) (hd.2.2.1.zap hr hs)
  exact ⟨M1, by simp only [f_L_removed, cK, hx.k5, if_true, if_false, bq, bn, bx, Option.bind_some, Option.map_some, eq_self, reduceIte, e], d1⟩
theorem w_rem0 (hd : DD n x R C Q m M g o h v b) (hr : r < R) (hs : s < 16) (c0 : lve (row g r) (36 + 4 * s) = 0) : ∃ M', f_L_removed x (nI r) (nI s) M = some (-3, M') ∧ Fr (kpP x) M M' := by
  obtain ⟨w, p, cz, hx⟩ := hd.cx
  have e := c_rem0 hx hr hs c0
  exact ⟨_, by simp only [f_L_removed, cK, hx.k5, if_true, if_false, bq, bn, bx, Option.bind_some, Option.map_some, eq_self, reduceIte, e, show ((2 : Nat) = 0) = False from eq_false (by decide)], setZ_fr⟩
theorem w_cnt (hd : DD n x R C Q m M g o h v b) (hn : n < 100000) {c : Nat} (hr : r < R) (hs : s < C) (c1 : 1 ≤ c) (c2 : c ≤ 99) : ∃ M', f_L_counted x (nI r) (nI s) (nI c) M = some (tot (row g r) s 4 + nI c, M') ∧ DD (n + 1) x R C Q m M' (put g r (u1 (row g r) (4 + (4 * s + r)) (row g r (4 + (4 * s + r)) + nI c))) (remO o h g) (remH h) v b := by
  obtain ⟨w, p, cz, hx⟩ := hd.cx
  have hR := hx.Rle
  have ci : (nI c).toInt = c := nI_toI (by omega)
  have d1 : ¬ nI c < 1 := nI_nlt (b := 1) c1 (by omega)
  have d2 : nI c ≤ 99 := nI_le (b := 99) c2 (by omega)
  obtain ⟨M1, e, k1⟩ := hd.step (c_sum (off := 4) cz hx (Or.inl rfl) hr hs d1 d2) (hd.2.2.1.sum hn (Or.inl rfl) hr hs (by omega) (by omega))
  rw [tot_inc (by omega) (by omega) (Or.inl rfl), if_pos rfl] at e
  have e' : f_X4_changeCounter x 4 (nI r) (nI s) (nI c) M = _ := e
  exact ⟨M1, by simp only [f_L_counted, f_X4_increment, cK, hx.k5, if_true, if_false, bq, bn, bx, Option.bind_some, Option.map_some, eq_self, reduceIte, e'], k1⟩
theorem w_dis (hd : DD n x R C Q m M g o h v b) (hn : n < 100000) {c : Nat} (hr : r < R) (hs : s < C) (c1 : 1 ≤ c) (c2 : c ≤ 99) : ∃ M', f_L_discounted x (nI r) (nI s) (nI c) M = some (tot (row g r) s 4 - nI c, M') ∧ DD (n + 1) x R C Q m M' (put g r (u1 (row g r) (20 + (4 * s + r)) (row g r (20 + (4 * s + r)) + nI c))) (remO o h g) (remH h) v b := by
  obtain ⟨w, p, cz, hx⟩ := hd.cx
  have hR := hx.Rle
  have ci : (nI c).toInt = c := nI_toI (by omega)
  have d1 : ¬ nI c < 1 := nI_nlt (b := 1) c1 (by omega)
  have d2 : nI c ≤ 99 := nI_le (b := 99) c2 (by omega)
  obtain ⟨M1, e, k1⟩ := hd.step (c_sum (off := 20) cz hx (Or.inr rfl) hr hs d1 d2) (hd.2.2.1.sum hn (Or.inr rfl) hr hs (by omega) (by omega))
  rw [tot_inc (by omega) (by omega) (Or.inr rfl), if_neg (by decide)] at e
  have e' : f_X4_changeCounter x 20 (nI r) (nI s) (nI c) M = _ := e
  exact ⟨M1, by simp only [f_L_discounted, f_X4_decrement, cK, hx.k5, if_true, if_false, bq, bn, bx, Option.bind_some, Option.map_some, eq_self, reduceIte, e'], k1⟩
theorem w_wr (hd : DD n x R C Q m M g o h v b) (hn : n < 100000) {c : Nat} (hr : r < R) (hs : s < Q) (c2 : c ≤ 99) : ∃ M', f_L_written x (nI r) (nI s) (nI c) M = some (nI (lve (row g r) (100 + 4 * s)), M') ∧ DD (n + 1) x R C Q m M' (put g r (newN (row g r) (100 + 4 * s) r (nI c) 4)) (remO o h g) (remH h) v b := by
  obtain ⟨w, p, cz, hx⟩ := hd.cx
  have hR := hx.Rle
  have ci : (nI c).toInt = c := nI_toI (by omega)
  have d1 : ¬ nI c < 0 := nI_pos (by omega)
  have d2 : nI c ≤ 99 := nI_le (b := 99) c2 (by omega)
  obtain ⟨M1, e, k1⟩ := hd.step (c_wr cz hx hr hs d1 d2) (hd.2.2.1.new hn hr (Or.inr ⟨s, hs, rfl⟩) (by omega) (by omega))
  exact ⟨M1, by simp only [f_L_written, cK, hx.k5, if_true, if_false, bq, bn, bx, Option.bind_some, Option.map_some, eq_self, reduceIte, e], k1⟩
theorem b01_if {A : Prop} {M1 : Mem} : (if b01 A = 0 then some ((0 : Int32), M1) else some (1, M1)) = some (b01 A, M1) := by
  rcases b01_or A with e | e
  · rw [e]; rfl
  · rw [e]; rfl
theorem w_mer (hd : DD n x R C Q m M g o h v b) (hr : r < R) (hs : s < R) : ∃ M', f_L_merged x (nI r) (nI s) M = some (b01 (¬ cov (row g r) (row g s)), M') ∧ DD (n + 1) x R C Q m M' (put g r (absR (row g r) (row g s))) (remO o h g) (remH h) v b := by
  obtain ⟨w, p, cz, hx⟩ := hd.cx
  have hR := hx.Rle
  obtain ⟨M1, e, k1⟩ := hd.step (h_mer cz hx hr hs) (hd.2.2.1.mer hr (by omega))
  exact ⟨M1, by simp only [f_L_merged, cK, hx.k5, if_true, if_false, bq, bn, bx, Option.bind_some, Option.map_some, eq_self, reduceIte, e, b01_if], k1⟩
theorem w_del (hd : DD n x R C Q m M g o h v b) (hr : r < m) (hs : s < R) : ∃ M', f_L_delivered x (nI r) (nI s) M = some (b01 (¬ cov (row g s) (row g (4 + r))), M') ∧ DD (n + 1) x R C Q m M' (put g s (absR (row g s) (row g (4 + r)))) (remO o h g) (remH h) v b := by
  obtain ⟨w, p, cz, hx⟩ := hd.cx
  obtain ⟨M1, e, k1⟩ := hd.step (h_del cz hx hr hs) (hd.2.2.1.mer hs (by omega))
  exact ⟨M1, by simp only [f_L_delivered, cK, hx.k5, if_true, if_false, bq, bn, bx, Option.bind_some, Option.map_some, eq_self, reduceIte, e, b01_if], k1⟩
theorem w_send (hd : DD n x R C Q m M g o h v b) (hr : r < R) (h6 : m < 6) : ∃ M', f_L_sent x (nI r) M = some (nI m, M') ∧ DD (n + 1) x R C Q (m + 1) M' (sendG g r) (remO o h g) (remH h) v b := by
  obtain ⟨w, p, cz, hx⟩ := hd.cx
  obtain ⟨M1, e, k1⟩ := hd.step (c_send cz hx hr h6) (hd.2.2.1.send hr h6)
  exact ⟨M1, by simp only [f_L_sent, cK, hx.k5, if_true, if_false, bq, bn, bx, Option.bind_some, Option.map_some, eq_self, reduceIte, e], k1⟩
theorem w_send6 (hd : DD n x R C Q m M g o h v b) (hr : r < R) (h6 : ¬ m < 6) : ∃ M', f_L_sent x (nI r) M = some (-3, M') ∧ Fr (kpP x) M M' := by
  obtain ⟨w, p, cz, hx⟩ := hd.cx
  have e := c_send6 hx hr h6
  exact ⟨_, by simp only [f_L_sent, cK, hx.k5, if_true, if_false, bq, bn, bx, Option.bind_some, Option.map_some, eq_self, reduceIte, e, show ((2 : Nat) = 0) = False from eq_false (by decide)], setZ_fr⟩
theorem w_drop (hd : DD n x R C Q m M g o h v b) (hr : r < m) : ∃ M', f_L_dropped x (nI r) M = some (nI (m - 1), M') ∧ DD (n + 1) x R C Q (m - 1) M' (dropG g r) (remO o h g) (remH h) v b := by
  obtain ⟨w, p, cz, hx⟩ := hd.cx
  obtain ⟨M1, e, k1⟩ := hd.step (c_drop cz hx hr) (hd.2.2.1.drop hr)
  exact ⟨M1, by simp only [f_L_dropped, cK, hx.k5, if_true, if_false, bq, bn, bx, Option.bind_some, Option.map_some, eq_self, reduceIte, e], k1⟩
theorem w_mall (hd : DD n x R C Q m M g o h v b) : ∃ M', f_X4_mergeAll x M = some (nI (difU g (upR g (R - 1)) R), M') ∧ DD (n + 1) x R C Q m M' (allU g (upR g (R - 1)) R) (remO o h g) (remH h) v b := by
  obtain ⟨w, p, cz, hx⟩ := hd.cx
  obtain ⟨M3, e, c3, kp⟩ := c_mall cz hx
  have hc : Ch x w M g o h v b (some (.inl (nI (difU g (upR g (R - 1)) R)), M3)) (nI (difU g (upR g (R - 1)) R)) (allU g (upR g (R - 1)) R) := ⟨M3, p, rfl, c3, kp⟩
  obtain ⟨M1, e1, k1⟩ := hd.step hc hd.2.2.1.all
  cases e1
  exact ⟨M3, e, k1⟩
theorem w_undo (hd : DD n x R C Q m M g o h v b) (h0 : 1 ≤ h) : ∃ M' y m', y < 10 ∧ f_L_undone x M = some (nI y, M') ∧ DD n x R C Q m' M' (sl o (h - 1)) o (h - 1) v b ∧ (∀ m2, Wk n R C Q m2 (sl o (h - 1)) → m2 = m') := by
  obtain ⟨w, p, cz, hx⟩ := hd.cx
  have h10 := cz.h10
  obtain ⟨M1, u, q, e, c1, kp⟩ := c_undo cz hx (by omega)
  obtain ⟨_, i, k, ks⟩ := hd
  obtain ⟨m', k'⟩ := ks (h - 1) (by omega)
  refine ⟨M1, h - 1, m', by omega, by simp only [f_L_undone, cK, hx.k5, if_true, if_false, bq, bn, bx, Option.bind_some, Option.map_some, eq_self, reduceIte, e], ⟨⟨u, q, c1⟩, kp.2.1.trans i, k', fun j hj => ks j (by omega)⟩, fun m2 k2 => ?_⟩
  have e1 := k2.1.2.2.2.1
  have e2 := k'.1.2.2.2.1
  have := k2.1.2.2.2.2
  have := k'.1.2.2.2.2
  exact (nI_eq (by omega) (by omega)).mp (e1.symm.trans e2)
end WRP
