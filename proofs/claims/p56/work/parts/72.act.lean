/-! THE LAW'S MERGING, AND ONE ACT -/
theorem cnt_move {p q r s : Nat → Prop} [DecidablePred p] [DecidablePred q] [DecidablePred r] [DecidablePred s] (h : ∀ i, r i ↔ (q i ∧ ¬ p i)) (k : ∀ i, s i ↔ (p i ∧ ¬ q i)) : ∀ n, cnt p n + cnt r n = cnt q n + cnt s n := by
  intro n
  induction n with
  | zero => rfl
  | succ n ih =>
    by_cases c1 : p n
    · by_cases c2 : q n
      · rw [cnt_t c1, cnt_t c2, cnt_f (fun e => ((h n).mp e).2 c1), cnt_f (fun e => ((k n).mp e).2 c2)]; omega
      · rw [cnt_t c1, cnt_f c2, cnt_f (fun e => c2 ((h n).mp e).1), cnt_t ((k n).mpr ⟨c1, c2⟩)]; omega
    · by_cases c2 : q n
      · rw [cnt_f c1, cnt_t c2, cnt_t ((h n).mpr ⟨c2, c1⟩), cnt_f (fun e => c1 ((k n).mp e).1)]; omega
      · rw [cnt_f c1, cnt_f c2, cnt_f (fun e => c2 ((h n).mp e).1), cnt_f (fun e => c1 ((k n).mp e).1)]; omega
theorem miss_iff (a m : Nat → Int32) (i : Nat) : missE a m i ↔ (tagE a i ∧ ¬ tagE m i) := ⟨fun h => ⟨h.1, fun e => Nat.ne_of_gt (show 0 < lve m (36 + 4 * i) from e) h.2⟩, fun h => ⟨h.1, Nat.eq_zero_of_not_pos h.2⟩⟩
theorem tag_move (a m : Nat → Int32) (n : Nat) : cnt (tagE m) n + cnt (missE a m) n = cnt (tagE a) n + cnt (missE m a) n := cnt_move (miss_iff a m) (miss_iff m a) n
section AC
variable {n x R C Q m : Nat} {M : Mem} {g o : Nat → Int32} {h : Nat} {v : Nat → Int32} {b t u : Nat}
theorem m_117 (hd : DD n x R C Q m M g o h v b) {U : Nat → Int32} (eU : eqS (upR g (R - 1)) U) {V : Int32} (hV : C ≠ 0 → V = tot U 0 4) : ∃ M', fj_L_merging_117 x V (nI (cnt (tagE U) 16)) (nI (cnt (confE U) 4)) 1 M = some (1, M') ∧ Fr (kpP x) M M' := by
  obtain ⟨w, p, cz, hx⟩ := hd.cx
  have hR := hx.Rle
  obtain ⟨M1, e1, s1⟩ := q_mtags hx
  have hx1 := hx.tr s1
  rw [tagE_congr eU] at e1
  obtain ⟨M2, e2, s2⟩ := q_mconf hx1
  have hx2 := hx1.tr s2
  rw [confE_congr eU] at e2
  by_cases c : C = 0
  · subst c
    refine ⟨M2, ?_, (s1.trans s2).fr⟩
    have z0 : nI 0 = 0 := rfl
    simp only [fj_L_merging_117, fj_L_merging_159, fj_L_merging_164, cK, hx.k5, if_true, if_false, bq, bn, bx, Option.bind_some, Option.map_some, eq_self, reduceIte, hx1.k5, hx2.k5, e1, e2, e10, q_C hx2, z0, or_true]
  · obtain ⟨M3, e3, s3⟩ := q_mval hx2 (r := 0) (by omega)
    rw [tot_congr (b := U) (c := 0) eU (by omega) 4 (by omega), ← hV c] at e3
    have e3' : f_X4_mergedValue x 0 M2 = some (.inl V, M3) := e3
    have c0 : (nI C = 0) = False := nI_eqF (b := 0) c (by omega) (by omega)
    refine ⟨M3, ?_, (s1.trans (s2.trans s3)).fr⟩
    simp only [fj_L_merging_117, fj_L_merging_159, fj_L_merging_164, cK, hx.k5, if_true, if_false, bq, bn, bx, Option.bind_some, Option.map_some, eq_self, reduceIte, hx1.k5, hx2.k5, e1, e2, e10, q_C hx2, c0, e3', or_true]
/-- done: one, and the law's state again -/
def Act (n x R C Q : Nat) (v : Nat → Int32) (b : Nat) (F : Option (Int32 × Mem)) : Prop := ∃ M' g' o' h' m', F = some (1, M') ∧ DD n x R C Q m' M' g' o' h' v b ∧ 1 ≤ h'
theorem m_46 (hd : DD n x R C Q m M g o h v b) (ht : t < R) (hu : u < R) {V : Int32} (hV : C ≠ 0 → V = tot (upR g (R - 1)) 0 4) : Act (n + 2) x R C Q v b (fj_L_merging_46 x (nI t) (nI u) (nI (cnt (missE (absR (row g t) (row g u)) (row g t)) 16)) (nI (cnt (missE (row g t) (absR (row g t) (row g u))) 16)) (nI (cnt (tagE (row g t)) 16)) (b01 (cov (row g t) (row g u))) V M) := by
  have hk := hd.2.2.1
  have m6 := hk.1.2.2.2.2
  obtain ⟨w, p, cz, hx⟩ := hd.cx
  obtain ⟨M1, e1, s1⟩ := q_mtags hx
  obtain ⟨M2, e2, s2⟩ := q_mconf (hx.tr s1)
  have hx1 := hx.tr s1
  have hd2 := hd.sim (s1.trans s2).fr
  obtain ⟨M3, e3, hd3⟩ := w_mer hd2 ht hu
  obtain ⟨w3, p3, cz3, hx3⟩ := hd3.cx
  have wt := hk.wr ht
  have wu := hk.wr hu
  have rt : ∀ i, i < 132 → row (put g t (absR (row g t) (row g u))) t i = absR (row g t) (row g u) i := fun i hi => row_put hi
  have ck : cov (row (put g t (absR (row g t) (row g u))) t) (row (put g t (absR (row g t) (row g u))) u) := by
    rw [hd3.2.2.1.covL (by omega) (by omega)]
    by_cases q : u = t
    · subst q; exact Le.refl _
    · exact (Le.absRr wt wu).congr rt (fun i hi => row_put_ne hi q)
  obtain ⟨M4, e4, s4⟩ := q_cov hx3 ht hu
  rw [b01_t ck] at e4
  have hd4 := hd3.sim s4.fr
  obtain ⟨M5, e5, hd5⟩ := w_mer hd4 ht hu
  rw [b01_f (fun h => h ck)] at e5
  have eU := up_mer hk ht hu
  have eU2 := up_mer hd3.2.2.1 ht hu
  obtain ⟨M6, e6, s6⟩ := m_117 hd5 (U := upR g (R - 1)) (fun i hi => (eU2 i hi).trans (eU i hi)) hV
  have tm := tag_move (row g t) (absR (row g t) (row g u)) 16
  have b1 := cnt_le (tagE (row g t)) 16
  have b2 := cnt_le (missE (absR (row g t) (row g u)) (row g t)) 16
  have ar : (nI (cnt (tagE (row g t)) 16) + nI (cnt (missE (absR (row g t) (row g u)) (row g t)) 16)) - nI (cnt (missE (row g t) (absR (row g t) (row g u))) 16) = nI (cnt (tagE (absR (row g t) (row g u))) 16) := by
    rw [nI_add, nI_sub (by omega)]; exact congrArg nI (by omega)
  have et := q_tags hx3 ht
  rw [tagE_congr rt] at et
  refine ⟨M6, _, _, _, m, ?_, hd5.sim s6, remH_pos _⟩
  have mid : ∀ s : Int32, fj_L_merging_76 x (nI t) (nI u) (nI (cnt (missE (absR (row g t) (row g u)) (row g t)) 16)) (nI (cnt (missE (row g t) (absR (row g t) (row g u))) 16)) (nI (cnt (tagE (row g t)) 16)) V (nI (cnt (tagE (upR g (R - 1))) 16)) (nI (cnt (confE (upR g (R - 1))) 4)) s s M3 = some (1, M6) := fun s => by
    simp only [fj_L_merging_76, cK, hx3.k5, if_true, if_false, bq, bn, eq_self, e10, et, ar, e4, e5, e6]
  by_cases c : cov (row g t) (row g u)
  · rw [b01_f (fun h => h c)] at e3
    rw [b01_t c]
    simp only [fj_L_merging_46, cK, hx.k5, if_true, if_false, bq, bn, bx, Option.bind_some, Option.map_some, eq_self, reduceIte, hx1.k5, e1, e2, e3, e10, mid]
  · rw [b01_t c] at e3
    rw [b01_f c]
    simp only [fj_L_merging_46, cK, hx.k5, if_true, if_false, bq, bn, bx, Option.bind_some, Option.map_some, eq_self, reduceIte, hx1.k5, e1, e2, e3, e10, mid]
theorem w_merging (hd : DD n x R C Q m M g o h v b) (ht : t < R) (hu : u < R) : Act (n + 2) x R C Q v b (f_L_merging x (nI t) (nI u) M) := by
  obtain ⟨w, p, cz, hx⟩ := hd.cx
  have hR := hx.Rle
  obtain ⟨M1, e1, s1⟩ := q_gain hx ht hu
  have hx1 := hx.tr s1
  obtain ⟨M2, e2, s2⟩ := q_lost hx1 ht hu
  have hx2 := hx1.tr s2
  obtain ⟨M3, e3, s3⟩ := q_cov hx2 ht hu
  have hx3 := hx2.tr s3
  have hd3 := hd.sim (s1.trans (s2.trans s3)).fr
  by_cases c : C = 0
  · subst c
    obtain ⟨M', g', o', h', m', e, k⟩ := m_46 hd3 ht hu (V := 0) (fun h => absurd rfl h)
    refine ⟨M', g', o', h', m', ?_, k⟩
    have z0 : nI 0 = 0 := rfl
    simp only [f_L_merging, cK, hx.k5, if_true, if_false, bq, bn, bx, Option.bind_some, Option.map_some, eq_self, reduceIte, hx1.k5, hx2.k5, hx3.k5, e1, e2, e3, q_tags hx2 ht, q_C hx3, z0]
    exact e
  · obtain ⟨M4, e4, s4⟩ := q_mval hx3 (r := 0) (by omega)
    have e4' : f_X4_mergedValue x 0 M3 = _ := e4
    have c0 : (nI C = 0) = False := nI_eqF (b := 0) c (by omega) (by omega)
    obtain ⟨M', g', o', h', m', e, k⟩ := m_46 (hd3.sim s4.fr) ht hu (V := tot (upR g (R - 1)) 0 4) (fun _ => rfl)
    refine ⟨M', g', o', h', m', ?_, k⟩
    simp only [f_L_merging, cK, hx.k5, if_true, if_false, bq, bn, bx, Option.bind_some, Option.map_some, eq_self, reduceIte, hx1.k5, hx2.k5, hx3.k5, e1, e2, e3, q_tags hx2 ht, q_C hx3, c0, e4']
    exact e
/-- what an act has drawn ahead of its choice -/
def Drawn (n x R C Q m : Nat) (M : Mem) (g o : Nat → Int32) (h : Nat) (v : Nat → Int32) (b r1 r2 r3 : Nat) (M3 : Mem) : Prop := ∃ M1 M2, f_L_next (x + 60) M = some (nI r1, M1) ∧ f_L_next (x + 60) M1 = some (nI r2, M2) ∧ f_L_next (x + 60) M2 = some (nI r3, M3) ∧ DD n x R C Q m M g o h v b ∧ DD n x R C Q m M2 g o h v b ∧ DD n x R C Q m M3 g o h v b ∧ r1 < 8388608 ∧ r2 < 8388608 ∧ r3 < 8388608 ∧ mK M1 x = 5
theorem gz_R {R : Nat} (h1 : 1 ≤ R) (h2 : R ≤ 4) : gz (nI R) = some () := by
  have : ¬ (nI R = 0) := fun e => absurd ((nI_eq (b := 0) (by omega) (by omega)).mp e) (by omega)
  unfold gz; rw [if_pos this]
theorem up_pos {k : Nat} {a : Nat → Int32} {r : Nat} (w : WFr k a) (hk : k < 100000) (hr : r < 4) : 0 < a r + 1 ∧ (a r + 1 ≤ 0) = False := by
  have b := w.1 r hr
  have q1 : (1 : Int32).toInt = 1 := rfl
  have e : (a r + 1).toInt = (a r).toInt + 1 := by rw [i32_add (by rw [q1]; omega), q1]
  refine ⟨by rw [i32_lt, e, i32_0]; omega, eq_false (by rw [i32_le, e, i32_0]; omega)⟩
theorem w_addA (hd : DD n x R C Q m M g o h v b) (hn : n + 1 < 100000) (ht : t < R) (s : Nat) (hs : s < 16) : ∃ M' g' o' h', f_L_added x (nI t) (nI s) M = some (row g t t + 1, M') ∧ (row g t t + 1 ≤ 0) = False ∧ DD (n + 2) x R C Q m M' g' o' h' v b ∧ 1 ≤ h' := by
  obtain ⟨M', e, d⟩ := w_add hd (by omega) ht hs
  exact ⟨M', _, _, _, e, (up_pos (hd.2.2.1.wr ht) (by omega) (by have := hd.2.2.1.1.2.2.2.2; omega)).2, d.mono (by omega), remH_pos _⟩
variable {r1 r2 r3 : Nat} {M3 : Mem}
theorem a_0 (D : Drawn n x R C Q m M g o h v b r1 r2 r3 M3) (hn : n + 2 < 100000) (c : r3 % 9 = 0) : Act (n + 2) x R C Q v b (f_L_act x (x + 60) M) := by
  obtain ⟨M1, M2, n1, n2, n3, hd, hd2, hd3, b1, b2, b3, kM1⟩ := D
  obtain ⟨w, p, cz, hx⟩ := hd.cx
  obtain ⟨w2, p2, cz2, hx2⟩ := hd2.cx
  have hR := hx.Rle
  have k1 := nI_rem (a := r1) (b := R) (by omega) (by omega)
  have k3 : nI r3 - nI r3 / 9 * 9 = 0 := by have := nI_rem (a := r3) (b := 9) (by omega) (by omega); rw [c] at this; exact this
  have ht : r1 % R < R := Nat.mod_lt _ (by omega)
  obtain ⟨r4, M4, b4, n4, s4⟩ := w_next hd3
  have k4 : nI r4 - nI r4 / 16 * 16 = nI (r4 % 16) := nI_rem (a := r4) (b := 16) (by omega) (by omega)
  have hs : r4 % 16 < 16 := Nat.mod_lt _ (by omega)
  have hd4 := hd3.sim s4
  obtain ⟨w4, p4, cz4, hx4⟩ := hd4.cx
  obtain ⟨w3, p3, cz3, hx3⟩ := hd3.cx
  obtain ⟨M5, e5, hd5⟩ := w_add hd4 (by omega) ht hs
  obtain ⟨w5, p5, cz5, hx5⟩ := hd5.cx
  have hp := (up_pos (r := r1 % R) (hd.2.2.1.wr ht) (by omega) (by omega)).1
  have el := q_live hx5 ht hs
  rw [lve_congr (b := newN (row g (r1 % R)) (36 + 4 * (r4 % 16)) (r1 % R) 0 4) (fun i hi => row_put hi) (by omega), lve_new (by omega) (by omega) hp] at el
  have ed := q_tdot hx5 ht hs ht
  rw [row_put (by omega), newN_f (by omega) (by omega), if_pos (by omega)] at ed
  have ev := q_ver hx5 ht ht
  rw [row_put (by omega), newN_r] at ev
  refine ⟨M5, _, _, _, m, ?_, hd5.mono (by omega), remH_pos _⟩
  have l1 : nI 1 = 1 := rfl
  simp only [f_L_act, fj_L_act_155, cK, hx.k5, if_true, if_false, bq, bn, bx, Option.bind_some, Option.map_some, eq_self, reduceIte, hx2.k5, hx4.k5, hx5.k5, q_R hx, n1, gz_R hR.1 hR.2.1, n2, q_m hx2, n3, k1, k3, n4, k4, q_ver hx4 ht ht, e5, el, l1, ed, ev, e10, or_true]
theorem a_1 (D : Drawn n x R C Q m M g o h v b r1 r2 r3 M3) (hn : n + 2 < 100000) (c : r3 % 9 = 1) : Act (n + 2) x R C Q v b (f_L_act x (x + 60) M) := by
  obtain ⟨M1, M2, n1, n2, n3, hd, hd2, hd3, b1, b2, b3, kM1⟩ := D
  obtain ⟨w, p, cz, hx⟩ := hd.cx
  obtain ⟨w2, p2, cz2, hx2⟩ := hd2.cx
  have hR := hx.Rle
  have k1 := nI_rem (a := r1) (b := R) (by omega) (by omega)
  have k3 : nI r3 - nI r3 / 9 * 9 = 1 := by have := nI_rem (a := r3) (b := 9) (by omega) (by omega); rw [c] at this; exact this
  have ht : r1 % R < R := Nat.mod_lt _ (by omega)
  obtain ⟨r4, M4, b4, n4, s4⟩ := w_next hd3
  have k4 : nI r4 - nI r4 / 5 * 5 = nI (r4 % 5) := nI_rem (a := r4) (b := 5) (by omega) (by omega)
  have hs : r4 % 5 < 16 := by omega
  have hd4 := hd3.sim s4
  obtain ⟨w4, p4, cz4, hx4⟩ := hd4.cx
  have hl := lve_lt (row g (r1 % R)) (36 + 4 * (r4 % 5))
  by_cases c0 : lve (row g (r1 % R)) (36 + 4 * (r4 % 5)) = 0
  · have el := q_live hx4 ht hs
    rw [c0] at el
    obtain ⟨M5, e5, s5⟩ := w_rem0 hd4 ht hs c0
    obtain ⟨M6, g', o', h', e6, hp, hd6, h1⟩ := w_addA (hd4.sim s5) (by omega) ht 15 (by omega)
    have e6' : f_L_added x (nI (r1 % R)) 15 M5 = _ := e6
    have l0 : ((nI 0 ≤ 0)) = True := eq_true (Int32.le_refl _)
    refine ⟨M6, g', o', h', m, ?_, hd6, h1⟩
    simp only [f_L_act, fj_L_act_234, cK, hx.k5, if_true, if_false, bq, bn, bx, Option.bind_some, Option.map_some, eq_self, reduceIte, hx2.k5, hx4.k5, q_R hx, n1, gz_R hR.1 hR.2.1, n2, q_m hx2, n3, k1, k3, i10, n4, k4, el, e5, l0, e6', hp, e10, or_true]
  · obtain ⟨M5, e5, hd5⟩ := w_rem hd4 ht hs c0
    obtain ⟨w5, p5, cz5, hx5⟩ := hd5.cx
    have l0 : ((nI (lve (row g (r1 % R)) (36 + 4 * (r4 % 5))) ≤ 0)) = False := nI_leF (b := 0) (by omega) hl
    have eh := q_has hx5 ht hs
    rw [b01_f (fun e => by
      have e0 : lve (row (put g (r1 % R) (zap (row g (r1 % R)) (36 + 4 * (r4 % 5)) 4)) (r1 % R)) (36 + 4 * (r4 % 5)) = 0 := by
        rw [lve_congr (b := zap (row g (r1 % R)) (36 + 4 * (r4 % 5)) 4) (fun i hi => row_put hi) (by omega)]; exact lve_zap
      unfold tagE at e; omega)] at eh
    refine ⟨M5, _, _, _, m, ?_, hd5.mono (by omega), remH_pos _⟩
    simp only [f_L_act, fj_L_act_234, cK, hx.k5, if_true, if_false, bq, bn, bx, Option.bind_some, Option.map_some, eq_self, reduceIte, hx2.k5, hx4.k5, hx5.k5, q_R hx, n1, gz_R hR.1 hR.2.1, n2, q_m hx2, n3, k1, k3, i10, n4, k4, q_live hx4 ht hs, e5, l0, eh, e10, or_true]
theorem a_2 (D : Drawn n x R C Q m M g o h v b r1 r2 r3 M3) (hn : n + 2 < 100000) (c : r3 % 9 = 2) : Act (n + 2) x R C Q v b (f_L_act x (x + 60) M) := by
  obtain ⟨M1, M2, n1, n2, n3, hd, hd2, hd3, b1, b2, b3, kM1⟩ := D
  obtain ⟨w, p, cz, hx⟩ := hd.cx
  obtain ⟨w2, p2, cz2, hx2⟩ := hd2.cx
  obtain ⟨w3, p3, cz3, hx3⟩ := hd3.cx
  have hR := hx.Rle
  have k1 := nI_rem (a := r1) (b := R) (by omega) (by omega)
  have k3 : nI r3 - nI r3 / 9 * 9 = 2 := by have := nI_rem (a := r3) (b := 9) (by omega) (by omega); rw [c] at this; exact this
  have ht : r1 % R < R := Nat.mod_lt _ (by omega)
  by_cases c0 : C = 0
  · subst c0
    have bc : Bad 0 0 := Or.inr (Int32.le_refl _)
    have e4 : f_L_counted x (nI (r1 % R)) 0 1 M3 = some (-99995, setZ M3 (mZ M3 + 1)) := by
      simp only [f_L_counted, f_X4_increment, f_X4_changeCounter, cK, hx3.k5, if_true, bx, sta_ok hx3 ht, cou_no hx3 bc]
    obtain ⟨M6, g', o', h', e6, hp, hd6, h1⟩ := w_addA (hd3.sim setZ_fr) (by omega) ht 14 (by omega)
    have e6' : f_L_added x (nI (r1 % R)) 14 (setZ M3 (mZ M3 + 1)) = _ := e6
    have z0 : nI 0 = 0 := rfl
    refine ⟨M6, g', o', h', m, ?_, hd6, h1⟩
    simp only [f_L_act, fj_L_act_269, cK, hx.k5, if_true, if_false, bq, bn, bx, Option.bind_some, Option.map_some, eq_self, reduceIte, hx2.k5, hx3.k5, q_R hx, n1, gz_R hR.1 hR.2.1, n2, q_m hx2, n3, k1, k3, i20, i21, q_C hx3, z0, e4, e6', hp, e10, or_true]
  · obtain ⟨r4, M4, b4, n4, s4⟩ := w_next hd3
    have k4 : nI r4 - nI r4 / 99 * 99 = nI (r4 % 99) := nI_rem (a := r4) (b := 99) (by omega) (by omega)
    have a1 : (1 : Int32) + nI (r4 % 99) = nI (1 + r4 % 99) := nI_add 1 _
    have hd4 := hd3.sim s4
    have hC : 0 < C := by omega
    obtain ⟨M5, e5, hd5⟩ := w_cnt hd4 (by omega) ht hC (show 1 ≤ 1 + r4 % 99 by omega) (by omega)
    obtain ⟨M6, e6, hd6⟩ := w_dis hd5 (by omega) ht hC (show 1 ≤ 2 by omega) (by omega)
    rw [tot_congr (c := 0) (b := u1 (row g (r1 % R)) (4 + (4 * 0 + r1 % R)) (row g (r1 % R) (4 + (4 * 0 + r1 % R)) + nI (1 + r4 % 99))) (fun i hi => row_put hi) (by omega) 4 (by omega), tot_inc (by omega) (by omega) (Or.inl rfl), if_pos rfl] at e6
    have e5' : f_L_counted x (nI (r1 % R)) 0 (nI (1 + r4 % 99)) M4 = _ := e5
    have e6' : f_L_discounted x (nI (r1 % R)) 0 2 M5 = some (tot (row g (r1 % R)) 0 4 + nI (1 + r4 % 99) - 2, M6) := e6
    have ev : f_X4_counterValue x (nI (r1 % R)) 0 M3 = some (.inl (tot (row g (r1 % R)) 0 4), M3) := q_val hx3 ht hC
    have z0 : (nI C = 0) = False := nI_eqF (b := 0) c0 (by omega) (by omega)
    refine ⟨M6, _, _, _, m, ?_, hd6, remH_pos _⟩
    simp only [f_L_act, fj_L_act_327, cK, hx.k5, if_true, if_false, bq, bn, bx, Option.bind_some, Option.map_some, eq_self, reduceIte, hx2.k5, hx3.k5, q_R hx, n1, gz_R hR.1 hR.2.1, n2, q_m hx2, n3, k1, k3, i20, i21, q_C hx3, z0, ev, n4, k4, a1, e5', e6', e10, or_true]
theorem a_3 (D : Drawn n x R C Q m M g o h v b r1 r2 r3 M3) (hn : n + 2 < 100000) (c : r3 % 9 = 3) : Act (n + 2) x R C Q v b (f_L_act x (x + 60) M) := by
  obtain ⟨M1, M2, n1, n2, n3, hd, hd2, hd3, b1, b2, b3, kM1⟩ := D
  obtain ⟨w, p, cz, hx⟩ := hd.cx
  obtain ⟨w2, p2, cz2, hx2⟩ := hd2.cx
  obtain ⟨w3, p3, cz3, hx3⟩ := hd3.cx
  have hR := hx.Rle
  have k1 := nI_rem (a := r1) (b := R) (by omega) (by omega)
  have k3 : nI r3 - nI r3 / 9 * 9 = 3 := by have := nI_rem (a := r3) (b := 9) (by omega) (by omega); rw [c] at this; exact this
  have ht : r1 % R < R := Nat.mod_lt _ (by omega)
  by_cases c0 : Q = 0
  · subst c0
    have bc : Bad 0 0 := Or.inr (Int32.le_refl _)
    have e4 : f_L_written x (nI (r1 % R)) 0 1 M3 = some (-5, setZ M3 (mZ M3 + 1)) := by
      simp only [f_L_written, f_X4_write, cK, hx3.k5, if_true, bx, sta_ok hx3 ht, reg_no hx3 bc]
    obtain ⟨M6, g', o', h', e6, hp, hd6, h1⟩ := w_addA (hd3.sim setZ_fr) (by omega) ht 13 (by omega)
    have e6' : f_L_added x (nI (r1 % R)) 13 (setZ M3 (mZ M3 + 1)) = _ := e6
    have z0 : nI 0 = 0 := rfl
    refine ⟨M6, g', o', h', m, ?_, hd6, h1⟩
    simp only [f_L_act, fj_L_act_362, cK, hx.k5, if_true, if_false, bq, bn, bx, Option.bind_some, Option.map_some, eq_self, reduceIte, hx2.k5, hx3.k5, q_R hx, n1, gz_R hR.1 hR.2.1, n2, q_m hx2, n3, k1, k3, i30, i31, i32, q_Q hx3, z0, e4, e6', hp, e10, or_true]
  · obtain ⟨r4, M4, b4, n4, s4⟩ := w_next hd3
    have k4 : nI r4 - nI r4 / 100 * 100 = nI (r4 % 100) := nI_rem (a := r4) (b := 100) (by omega) (by omega)
    have hd4 := hd3.sim s4
    have hQ : 0 < Q := by omega
    obtain ⟨M5, e5, hd5⟩ := w_wr hd4 (by omega) (c := r4 % 100) ht hQ (by omega)
    obtain ⟨w5, p5, cz5, hx5⟩ := hd5.cx
    have hp := (up_pos (r := r1 % R) (hd.2.2.1.wr ht) (by omega) (by omega)).1
    have rp : ∀ i, i < 132 → row (put g (r1 % R) (newN (row g (r1 % R)) (100 + 4 * 0) (r1 % R) (nI (r4 % 100)) 4)) (r1 % R) i = newN (row g (r1 % R)) (100 + 4 * 0) (r1 % R) (nI (r4 % 100)) 4 i := fun i hi => row_put hi
    have ee := q_ents hx5 ht hQ
    rw [lve_congr rp (by omega), lve_new (by omega) (by omega) hp] at ee
    have eg := q_great hx5 ht hQ
    rw [gmax_congr rp (by omega) 4 (by omega), gmax_new (by omega) hp (by rw [i32_le, i32_0, nI_toI (by omega)]; omega)] at eg
    have e5' : f_L_written x (nI (r1 % R)) 0 (nI (r4 % 100)) M4 = _ := e5
    have ee' : f_X4_entryCount x (nI (r1 % R)) 0 M5 = some (.inl 1, M5) := ee
    have eg' : f_X4_greatestValue x (nI (r1 % R)) 0 M5 = _ := eg
    have e0' : f_X4_entryCount x (nI (r1 % R)) 0 M3 = some (.inl (nI (lve (row g (r1 % R)) (100 + 4 * 0))), M3) := q_ents hx3 ht hQ
    have z0 : (nI Q = 0) = False := nI_eqF (b := 0) c0 (by omega) (by omega)
    refine ⟨M5, _, _, _, m, ?_, hd5.mono (by omega), remH_pos _⟩
    simp only [f_L_act, fj_L_act_419, cK, hx.k5, if_true, if_false, bq, bn, bx, Option.bind_some, Option.map_some, eq_self, reduceIte, hx2.k5, hx3.k5, hx5.k5, q_R hx, n1, gz_R hR.1 hR.2.1, n2, q_m hx2, n3, k1, k3, i30, i31, i32, q_Q hx3, z0, e0', n4, k4, e5', ee', eg', e10, or_true]
theorem a_4 (D : Drawn n x R C Q m M g o h v b r1 r2 r3 M3) (hn : n + 2 < 100000) (c : r3 % 9 = 4) : Act (n + 2) x R C Q v b (f_L_act x (x + 60) M) := by
  obtain ⟨M1, M2, n1, n2, n3, hd, hd2, hd3, b1, b2, b3, kM1⟩ := D
  obtain ⟨w, p, cz, hx⟩ := hd.cx
  obtain ⟨w2, p2, cz2, hx2⟩ := hd2.cx
  obtain ⟨w3, p3, cz3, hx3⟩ := hd3.cx
  have hR := hx.Rle
  have k1 := nI_rem (a := r1) (b := R) (by omega) (by omega)
  have k3 : nI r3 - nI r3 / 9 * 9 = 4 := by have := nI_rem (a := r3) (b := 9) (by omega) (by omega); rw [c] at this; exact this
  have ht : r1 % R < R := Nat.mod_lt _ (by omega)
  by_cases c0 : m < 6
  · have em := hd.2.2.1.1.m
    obtain ⟨M5, e5, hd5⟩ := w_send hd3 ht c0
    obtain ⟨w5, p5, cz5, hx5⟩ := hd5.cx
    have z0 : (nI m = 6) = False := nI_eqF (b := 6) (by omega) (by omega) (by omega)
    have eS := q_sender hx5 (r := m) (by omega)
    have sg : sendG g (r1 % R) (4 + m) = nI (r1 % R) := by unfold sendG; rw [u1_ne _ _ (by omega), put_lo (by omega), em, u1_self]
    rw [sg] at eS
    obtain ⟨M6, e6, s6⟩ := q_news hx5 (r := m) (by omega) ht
    have ck : cov (row (sendG g (r1 % R)) (r1 % R)) (row (sendG g (r1 % R)) (4 + m)) := by
      rw [hd5.2.2.1.covL (by omega) (by omega)]
      refine (Le.refl (row g (r1 % R))).congr (fun i hi => ?_) (fun i hi => ?_)
      · unfold sendG; rw [row_u1 (by omega), em, row_put_ne hi (by omega), row_u1 (by omega)]
      · unfold sendG; rw [row_u1 (by omega), em, row_put hi]
    rw [b01_f (fun h => h ck)] at e6
    refine ⟨M6, _, _, _, m + 1, ?_, (hd5.mono (by omega)).sim s6.fr, remH_pos _⟩
    simp only [f_L_act, fj_L_act_491, cK, hx.k5, if_true, if_false, bq, bn, bx, Option.bind_some, Option.map_some, eq_self, reduceIte, hx2.k5, hx5.k5, q_R hx, n1, gz_R hR.1 hR.2.1, n2, q_m hx2, n3, k1, k3, i40, i41, i42, i43, z0, e5, eS, e6, e10, or_true]
  · obtain rfl : m = 6 := by omega
    obtain ⟨M5, e5, s5⟩ := w_send6 hd3 ht c0
    obtain ⟨M6, g', o', h', e6, hp, hd6, h1⟩ := w_addA (hd3.sim s5) (by omega) ht 12 (by omega)
    have e6' : f_L_added x (nI (r1 % R)) 12 M5 = _ := e6
    have z0 : (nI 6 = 6) = True := eq_true rfl
    refine ⟨M6, g', o', h', 6, ?_, hd6, h1⟩
    simp only [f_L_act, fj_L_act_491, cK, hx.k5, if_true, if_false, bq, bn, bx, Option.bind_some, Option.map_some, eq_self, reduceIte, hx2.k5, q_R hx, n1, gz_R hR.1 hR.2.1, n2, q_m hx2, n3, k1, k3, i40, i41, i42, i43, z0, e5, e6', hp, e10, or_true]
theorem a_5 (D : Drawn n x R C Q m M g o h v b r1 r2 r3 M3) (hn : n + 2 < 100000) (c : r3 % 9 = 5) : Act (n + 2) x R C Q v b (f_L_act x (x + 60) M) := by
  obtain ⟨M1, M2, n1, n2, n3, hd, hd2, hd3, b1, b2, b3, kM1⟩ := D
  obtain ⟨w, p, cz, hx⟩ := hd.cx
  obtain ⟨w2, p2, cz2, hx2⟩ := hd2.cx
  have hR := hx.Rle
  have k1 := nI_rem (a := r1) (b := R) (by omega) (by omega)
  have k3 : nI r3 - nI r3 / 9 * 9 = 5 := by have := nI_rem (a := r3) (b := 9) (by omega) (by omega); rw [c] at this; exact this
  have ht : r1 % R < R := Nat.mod_lt _ (by omega)
  obtain ⟨r4, M4, b4, n4, s4⟩ := w_next hd3
  have k4 : nI r4 - nI r4 / 6 * 6 = nI (r4 % 6) := nI_rem (a := r4) (b := 6) (by omega) (by omega)
  have hd4 := hd3.sim s4
  obtain ⟨w4, p4, cz4, hx4⟩ := hd4.cx
  by_cases c0 : r4 % 6 < m
  · have l1 : ¬ (nI m ≤ nI (r4 % 6)) := nI_ge c0 (by omega)
    have l2 : nI (r4 % 6) < nI m := nI_lt c0 (by omega)
    obtain ⟨M5, e5, s5⟩ := q_news hx4 c0 ht
    have hd5 := hd4.sim s5.fr
    obtain ⟨M6, e6, hd6⟩ := w_del hd5 c0 ht
    obtain ⟨w6, p6, cz6, hx6⟩ := hd6.cx
    obtain ⟨M7, e7, s7⟩ := q_news hx6 c0 ht
    have ck : cov (row (put g (r1 % R) (absR (row g (r1 % R)) (row g (4 + r4 % 6)))) (r1 % R)) (row (put g (r1 % R) (absR (row g (r1 % R)) (row g (4 + r4 % 6)))) (4 + r4 % 6)) := by
      rw [hd6.2.2.1.covL (by omega) (by omega)]
      exact (Le.absRr (hd.2.2.1.2.1 (r1 % R) (by omega) (by omega)) (hd.2.2.1.2.1 (4 + r4 % 6) (by omega) (by omega))).congr (fun i hi => row_put hi) (fun i hi => row_put_ne hi (by omega))
    rw [b01_f (fun h => h ck)] at e7
    refine ⟨M7, _, _, _, m, ?_, (hd6.mono (by omega)).sim s7.fr, remH_pos _⟩
    rcases b01_or (¬ cov (row g (r1 % R)) (row g (4 + r4 % 6))) with bb | bb
    · rw [bb] at e5 e6
      simp only [f_L_act, fj_L_act_522, fj_L_act_523, fj_L_act_578, fj_L_act_596, cK, hx.k5, if_true, if_false, bq, bn, bx, Option.bind_some, Option.map_some, eq_self, reduceIte, hx2.k5, hx4.k5, hx6.k5, q_R hx, n1, gz_R hR.1 hR.2.1, n2, q_m hx2, n3, k1, k3, i50, i51, i52, i53, i54, n4, k4, l1, l2, e5, e6, e7, e10, or_true]
    · rw [bb] at e5 e6
      simp only [f_L_act, fj_L_act_522, fj_L_act_523, fj_L_act_578, fj_L_act_596, cK, hx.k5, if_true, if_false, bq, bn, bx, Option.bind_some, Option.map_some, eq_self, reduceIte, hx2.k5, hx4.k5, hx6.k5, q_R hx, n1, gz_R hR.1 hR.2.1, n2, q_m hx2, n3, k1, k3, i50, i51, i52, i53, i54, n4, k4, l1, l2, e5, e6, e7, e10, or_true]
  · have l1 : nI m ≤ nI (r4 % 6) := nI_le (by omega) (by omega)
    have l2 : ¬ (nI (r4 % 6) < nI m) := nI_nlt (by omega) (by omega)
    have bm : Bad (nI (r4 % 6)) m := Or.inr l1
    have e5 : f_L_delivered x (nI (r4 % 6)) (nI (r1 % R)) M4 = some (-5, setZ M4 (mZ M4 + 1)) := by
      simp only [f_L_delivered, f_X4_deliver, cK, hx4.k5, if_true, bx, mes_no hx4 bm]
    obtain ⟨M6, g', o', h', e6, hp, hd6, h1⟩ := w_addA (hd4.sim setZ_fr) (by omega) ht 11 (by omega)
    have e6' : f_L_added x (nI (r1 % R)) 11 (setZ M4 (mZ M4 + 1)) = _ := e6
    refine ⟨M6, g', o', h', m, ?_, hd6, h1⟩
    simp only [f_L_act, fj_L_act_522, fj_L_act_523, fj_L_act_578, fj_L_act_596, cK, hx.k5, if_true, if_false, bq, bn, bx, Option.bind_some, Option.map_some, eq_self, reduceIte, hx2.k5, hx4.k5, q_R hx, n1, gz_R hR.1 hR.2.1, n2, q_m hx2, n3, k1, k3, i50, i51, i52, i53, i54, n4, k4, l1, l2, e5, e6', hp, e10, or_true]
theorem a_6 (D : Drawn n x R C Q m M g o h v b r1 r2 r3 M3) (hn : n + 2 < 100000) (c : r3 % 9 = 6) : Act (n + 2) x R C Q v b (f_L_act x (x + 60) M) := by
  obtain ⟨M1, M2, n1, n2, n3, hd, hd2, hd3, b1, b2, b3, kM1⟩ := D
  obtain ⟨w, p, cz, hx⟩ := hd.cx
  obtain ⟨w2, p2, cz2, hx2⟩ := hd2.cx
  have hR := hx.Rle
  have k1 := nI_rem (a := r1) (b := R) (by omega) (by omega)
  have k3 : nI r3 - nI r3 / 9 * 9 = 6 := by have := nI_rem (a := r3) (b := 9) (by omega) (by omega); rw [c] at this; exact this
  have ht : r1 % R < R := Nat.mod_lt _ (by omega)
  obtain ⟨r4, M4, b4, n4, s4⟩ := w_next hd3
  have k4 : nI r4 - nI r4 / 6 * 6 = nI (r4 % 6) := nI_rem (a := r4) (b := 6) (by omega) (by omega)
  have hd4 := hd3.sim s4
  obtain ⟨w4, p4, cz4, hx4⟩ := hd4.cx
  by_cases c0 : r4 % 6 < m
  · obtain ⟨M5, e5, hd5⟩ := w_drop hd4 c0
    have em : nI m - 1 = nI (m - 1) := by rw [show (1 : Int32) = nI 1 from rfl, nI_sub (by omega)]
    have l0 : (0 : Int32) ≤ nI (m - 1) := nI_le (a := 0) (by omega) (by omega)
    refine ⟨M5, _, _, _, m - 1, ?_, hd5.mono (by omega), remH_pos _⟩
    simp only [f_L_act, fj_L_act_647, cK, hx.k5, if_true, if_false, bq, bn, bx, Option.bind_some, Option.map_some, eq_self, reduceIte, hx2.k5, hx4.k5, q_R hx, n1, gz_R hR.1 hR.2.1, n2, q_m hx2, n3, k1, k3, i60, i61, i62, i63, i64, i65, n4, k4, e5, l0, em, e10, or_true]
  · have bm : Bad (nI (r4 % 6)) m := Or.inr (nI_le (by omega) (by omega))
    have e5 : f_L_dropped x (nI (r4 % 6)) M4 = some (-5, setZ M4 (mZ M4 + 1)) := by
      simp only [f_L_dropped, f_X4_drop, cK, hx4.k5, if_true, bx, mes_no hx4 bm]
    obtain ⟨M6, g', o', h', e6, hp, hd6, h1⟩ := w_addA (hd4.sim setZ_fr) (by omega) ht 10 (by omega)
    have e6' : f_L_added x (nI (r1 % R)) 10 (setZ M4 (mZ M4 + 1)) = _ := e6
    have l0 : ((0 : Int32) ≤ -5) = False := eq_false (by decide)
    refine ⟨M6, g', o', h', m, ?_, hd6, h1⟩
    simp only [f_L_act, fj_L_act_647, cK, hx.k5, if_true, if_false, bq, bn, bx, Option.bind_some, Option.map_some, eq_self, reduceIte, hx2.k5, hx4.k5, q_R hx, n1, gz_R hR.1 hR.2.1, n2, q_m hx2, n3, k1, k3, i60, i61, i62, i63, i64, i65, n4, k4, e5, l0, e6', hp, e10, or_true]
theorem eqS_tr {a b c : Nat → Int32} (h : eqS a b) (k : eqS b c) : eqS a c := fun i hi => (h i hi).trans (k i hi)
/-- at most one kind is all of them together -/
theorem dif_le {g U : Nat → Int32} : ∀ n, dif g n ≤ difU g U n + 1 ∧ ((∀ k, k < n → ¬ eqS (row g k) U) → dif g n ≤ difU g U n) := by
  intro n
  induction n with
  | zero => exact ⟨by show 0 ≤ _; omega, fun _ => Nat.le_refl _⟩
  | succ n ih =>
    by_cases e : eqS (row g n) U
    · rw [difU_f e]
      refine ⟨?_, fun hn => absurd e (hn n (by omega))⟩
      by_cases s : sees g n n
      · rw [dif_f s]; exact ih.1
      · rw [dif_t s]
        have := ih.2 (fun k hk ek => s ⟨k, by omega, by omega, eqS_tr ek (eqS_symm.mp e)⟩)
        omega
    · rw [difU_t e]
      by_cases s : sees g n n
      · rw [dif_f s]
        exact ⟨by have := ih.1; omega, fun hn => by have := ih.2 (fun k hk => hn k (by omega)); omega⟩
      · rw [dif_t s]
        exact ⟨by have := ih.1; omega, fun hn => by have := ih.2 (fun k hk => hn k (by omega)); omega⟩
theorem dif_one {g U : Nat → Int32} {R : Nat} (h : ∀ k, k < R → eqS (row g k) U) : ∀ n, n ≤ R → dif g n = if n = 0 then 0 else 1 := by
  intro n
  induction n with
  | zero => intro _; rfl
  | succ n ih =>
    intro hn
    by_cases c : n = 0
    · subst c
      rw [dif_t (fun ⟨j, _, h2, _⟩ => by omega), ih (by omega)]; rfl
    · rw [dif_f ⟨0, by omega, by omega, eqS_tr (h 0 (by omega)) (eqS_symm.mp (h n (by omega)))⟩, ih (by omega), if_neg c, if_neg (by omega)]
theorem fp35 : ∀ b : Fin 5, 1 ≤ b.val → Op.cmpValue (FP.fcmp (FP.fdiv (FP.i2f (nI b.val)) (FP.i2f (nI b.val))) FP.fconst1) CmpOp.l = 0 := by decide
theorem shr_all {g : Nat → Int32} {R : Nat} (h : ∀ k, k < R → allC g k R) : ∀ n, n ≤ R → shr g R n = n := by
  intro n
  induction n with
  | zero => intro _; rfl
  | succ n ih => intro hn; rw [shr_t (h n (by omega)), ih (by omega)]
theorem a_7 (D : Drawn n x R C Q m M g o h v b r1 r2 r3 M3) (hn : n + 2 < 100000) (c : r3 % 9 = 7) : Act (n + 2) x R C Q v b (f_L_act x (x + 60) M) := by
  obtain ⟨M1, M2, n1, n2, n3, hd, hd2, hd3, b1, b2, b3, kM1⟩ := D
  obtain ⟨w, p, cz, hx⟩ := hd.cx
  obtain ⟨w2, p2, cz2, hx2⟩ := hd2.cx
  obtain ⟨w3, p3, cz3, hx3⟩ := hd3.cx
  have hR := hx.Rle
  have k1 := nI_rem (a := r1) (b := R) (by omega) (by omega)
  have k3 : nI r3 - nI r3 / 9 * 9 = 7 := by have := nI_rem (a := r3) (b := 9) (by omega) (by omega); rw [c] at this; exact this
  have ht : r1 % R < R := Nat.mod_lt _ (by omega)
  obtain ⟨M4, e4, s4⟩ := q_mtags hx3
  have hx4 := hx3.tr s4
  have hd4 := hd3.sim s4.fr
  obtain ⟨M5, e5, hd5⟩ := w_mall hd4
  obtain ⟨w5, p5, cz5, hx5⟩ := hd5.cx
  have rU : ∀ k, k < R → eqS (row (allU g (upR g (R - 1)) R) k) (upR g (R - 1)) := fun k hk i hi => by rw [allU_row _ _ _ _ _ hi, if_pos hk]
  have d1 := (dif_le (g := g) (U := upR g (R - 1)) R).1
  have d0 := dif_pos (g := g) hR.1
  have dR : dif g R ≤ R := @cnt_le (fun k => ¬ sees g k k) (fun _ => Classical.propDecidable _) R
  have dU : difU g (upR g (R - 1)) R ≤ R := @cnt_le (fun k => ¬ eqS (row g k) (upR g (R - 1))) (fun _ => Classical.propDecidable _) R
  have es : nI (dif g R) - 1 = nI (dif g R - 1) := by rw [show (1 : Int32) = nI 1 from rfl, nI_sub (by omega)]
  have l1 : ¬ (nI (difU g (upR g (R - 1)) R) < nI (dif g R - 1)) := nI_nlt (by omega) (by omega)
  have l2 : ¬ (nI R < nI (difU g (upR g (R - 1)) R)) := nI_nlt dU (by omega)
  have ed := q_diff hx5
  rw [dif_one rU R (Nat.le_refl _), if_neg (by omega)] at ed
  have et := q_tags hx5 ht
  rw [tagE_congr (rU _ ht)] at et
  obtain ⟨M6, e6, s6⟩ := q_share hx5
  have aC : ∀ k, k < R → allC (allU g (upR g (R - 1)) R) k R := fun k hk j hj => ((hd5.2.2.1.eqL (show k < 4 + m by omega) (show j < 4 + m by omega)).mp (eqS_tr (rU k hk) (eqS_symm.mp (rU j hj)))).1
  rw [shr_all aC R (Nat.le_refl _)] at e6
  have f5 := fp35 ⟨R, by omega⟩ hR.1
  dsimp only at f5
  have l3 : nI 1 = 1 := rfl
  refine ⟨M6, _, _, _, m, ?_, (hd5.mono (by omega)).sim s6.fr, remH_pos _⟩
  simp only [f_L_act, fj_L_act_713, cK, hx.k5, if_true, if_false, bq, bn, bx, Option.bind_some, Option.map_some, eq_self, reduceIte, hx2.k5, hx3.k5, hx4.k5, hx5.k5, q_R hx, n1, gz_R hR.1 hR.2.1, n2, q_m hx2, n3, k1, k3, i70, i71, i72, i73, i74, i75, i76, q_diff hx3, e4, e5, es, l1, l2, ed, l3, et, e6, f5, e10, or_true]
theorem a_8 (D : Drawn n x R C Q m M g o h v b r1 r2 r3 M3) (hn : n + 2 < 100000) (c : r3 % 9 = 8) : Act (n + 2) x R C Q v b (f_L_act x (x + 60) M) := by
  obtain ⟨M1, M2, n1, n2, n3, hd, hd2, hd3, b1, b2, b3, kM1⟩ := D
  obtain ⟨w, p, cz, hx⟩ := hd.cx
  obtain ⟨w2, p2, cz2, hx2⟩ := hd2.cx
  have hR := hx.Rle
  have k1 := nI_rem (a := r1) (b := R) (by omega) (by omega)
  have k2 := nI_rem (a := r2) (b := R) (by omega) (by omega)
  have k3 : nI r3 - nI r3 / 9 * 9 = 8 := by have := nI_rem (a := r3) (b := 9) (by omega) (by omega); rw [c] at this; exact this
  obtain ⟨M5, g', o', h', m', e5, hd5, h1⟩ := w_merging hd3 (t := r1 % R) (u := r2 % R) (Nat.mod_lt _ (by omega)) (Nat.mod_lt _ (by omega))
  refine ⟨M5, g', o', h', m', ?_, hd5, h1⟩
  simp only [f_L_act, cK, hx.k5, if_true, if_false, bq, bn, bx, Option.bind_some, Option.map_some, eq_self, reduceIte, hx2.k5, q_R hx, n1, gz_R hR.1 hR.2.1, n2, q_m hx2, n3, k1, k2, k3, i80, i81, i82, i83, i84, i85, i86, i87, e5, e10, or_true]
theorem w_act (hd : DD n x R C Q m M g o h v b) (hn : n + 2 < 100000) : Act (n + 2) x R C Q v b (f_L_act x (x + 60) M) := by
  obtain ⟨r1, M1, b1, n1, s1⟩ := w_next hd
  have hd1 := hd.sim s1
  obtain ⟨r2, M2, b2, n2, s2⟩ := w_next hd1
  have hd2 := hd1.sim s2
  obtain ⟨r3, M3, b3, n3, s3⟩ := w_next hd2
  have D : Drawn n x R C Q m M g o h v b r1 r2 r3 M3 := ⟨M1, M2, n1, n2, n3, hd, hd2, hd2.sim s3, b1, b2, b3, hd1.fx.1.1⟩
  rcases (show r3 % 9 = 0 ∨ r3 % 9 = 1 ∨ r3 % 9 = 2 ∨ r3 % 9 = 3 ∨ r3 % 9 = 4 ∨ r3 % 9 = 5 ∨ r3 % 9 = 6 ∨ r3 % 9 = 7 ∨ r3 % 9 = 8 by omega) with c | c | c | c | c | c | c | c | c
  · exact a_0 D hn c
  · exact a_1 D hn c
  · exact a_2 D hn c
  · exact a_3 D hn c
  · exact a_4 D hn c
  · exact a_5 D hn c
  · exact a_6 D hn c
  · exact a_7 D hn c
  · exact a_8 D hn c
end AC
