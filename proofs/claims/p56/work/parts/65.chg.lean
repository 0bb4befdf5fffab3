/-! THE CLASS'S CHANGES: what each gives back, and the world behind it -/
def hisT (x a : Nat) : Prop := hisP x a ∨ a = x + 31 ∨ a = x + 33
theorem cx_of {x w : Nat} {p : Nat → Nat} {M : Mem} {g o : Nat → Int32} {h : Nat} {v : Nat → Int32} {b : Nat} (hc : ClsZ x w p M g o h v b) {R C Q m k : Nat} (hn : Cnt g R C Q m) (hw : ∀ t, t < 10 → t < 4 + m → WFr k (row g t)) : Cx x w p M g R C Q m k := by
  obtain ⟨rt, ⟨c1, c2, c3, c4, c5, c6⟩, _⟩ := hc
  exact ⟨c1, c2.1.trans c4.1, c4.2, hn, hw, (c3.1 0 w c4.1).1⟩
theorem u1_g {g : Nat → Int32} {t i : Nat} {v : Int32} (h : i < 132) : u1 g (bs t + i) v = put g t (u1 (row g t) i v) := by rw [← u1_put h, put_row]
theorem mcn_put {g : Nat → Int32} {t : Nat} {a : Nat → Int32} : mcn (put g t a) = mcn g := by unfold mcn; rw [put_lo (by omega)]
/-- what stays for the law: its number, the empty input -/
def Kp (x : Nat) (M M' : Mem) : Prop := mA M' (x + 60) = mA M (x + 60) ∧ mI M' 129 x = mI M 129 x ∧ mZ M ≤ mZ M'
theorem Kp.tr {x : Nat} {M M' M2 : Mem} (h : Kp x M M') (k : Kp x M' M2) : Kp x M M2 := ⟨k.1.trans h.1, k.2.1.trans h.2.1, Nat.le_trans h.2.2 k.2.2⟩
theorem Kp.of {x : Nat} {M M' : Mem} (f : Fr (hisT x) M M') (hz : x + 61 ≤ mZ M) : Kp x M M' :=
  ⟨(f.at (show x + 60 < mZ M by omega) (by unfold hisT hisP; omega)).2.1, (f.at (show x < mZ M by omega) (by unfold hisT hisP; omega)).1 129, f.1⟩
theorem CSim.kp {x : Nat} {M M' : Mem} (h : CSim x M M') : Kp x M M' := by
  obtain ⟨a, b, rfl⟩ := h
  exact ⟨by rw [mA_ne (by omega), mA_ne (by omega)], rfl, Nat.le_refl _⟩
theorem ClsZ.z1 {x w : Nat} {p : Nat → Nat} {M : Mem} {g o : Nat → Int32} {h : Nat} {v : Nat → Int32} {b : Nat} (hc : ClsZ x w p M g o h v b) : x + 61 ≤ mZ M := by obtain ⟨_, _, z, _⟩ := hc; exact z
theorem ClsZ.h10 {x w : Nat} {p : Nat → Nat} {M : Mem} {g o : Nat → Int32} {h : Nat} {v : Nat → Int32} {b : Nat} (hc : ClsZ x w p M g o h v b) : h ≤ 10 := by obtain ⟨rt, ⟨_, _, _, _, ⟨nx, _, q, _⟩, _⟩, _⟩ := hc; exact q
/-- a recorded change: it gives v back, and the world is g' -/
def Ch (x w : Nat) (M : Mem) (g o : Nat → Int32) (h : Nat) (v : Nat → Int32) (b : Nat) (F : Option ((Int32 ⊕ Nat) × Mem)) (y : Int32) (g' : Nat → Int32) : Prop :=
  ∃ M1 p', F = some (.inl y, M1) ∧ ClsZ x w p' M1 g' (remO o h g) (remH h) v b ∧ Kp x M M1
section CG
variable {x w : Nat} {p : Nat → Nat} {M : Mem} {g o : Nat → Int32} {h : Nat} {v : Nat → Int32} {b R C Q m k : Nat}
theorem Cx.r136 (h : Cx x w p M g R C Q m k) : gRn 5 136 x M = some (x + 27) := gRn_ok h.1.1.1 h.1.1.2.2.2.1
theorem Cx.k27 (h : Cx x w p M g R C Q m k) : (mK M (x + 27) = 1) = True := eq_true h.1.2.2.1.1
theorem hisPT {M2 : Mem} (f : Fr (hisP x) M M2) : Fr (hisT x) M M2 := f.mono (fun a h => Or.inl h)
theorem fr_row {M1 : Mem} {f : Nat → Int32} (hx : Cx x w p M g R C Q m k) (f1 : Fr (hisT x) M M1) {t : Nat} (ht : t < 10) : Fr (hisT x) M (wA M1 (clo w p t) f) := by
  refine f1.tr (Fr.wA ?_)
  have pl := hx.2.2.2.2.2
  unfold Place at pl
  have := sto_lt hx.2.2.1.1 ht
  unfold hisT hisP clo; omega
theorem fr_tr {M1 : Mem} {f : Nat → Int32} (f1 : Fr (hisT x) M M1) : Fr (hisT x) M (wA M1 (x + 31) f) := f1.tr (Fr.wA (Or.inr (Or.inl rfl)))
theorem newN_congr {a b : Nat → Int32} {f r : Nat} {v : Int32} (e : ∀ i, i < 132 → a i = b i) (hr : r < 132) : ∀ i, i < 132 → newN a f r v 4 i = newN b f r v 4 i := fun i hi => by
  unfold newN; rw [e r hr, e i hi]
theorem zap_congr {a b : Nat → Int32} {f : Nat} (e : ∀ i, i < 132 → a i = b i) : ∀ i, i < 132 → zap a f 4 i = zap b f 4 i := fun i hi => by unfold zap; rw [e i hi]
theorem c_sum (hZ : ClsZ x w p M g o h v b) (hx : Cx x w p M g R C Q m k) {off r s : Nat} {c : Int32} (ho : off = 4 ∨ off = 20) (hr : r < R) (hs : s < C) (c1 : ¬ c < 1) (c2 : c ≤ 99) :
    Ch x w M g o h v b (f_X4_changeCounter x (nI off) (nI r) (nI s) c M) (tot (u1 (row g r) (off + (4 * s + r)) (row g r (off + (4 * s + r)) + c)) s 4) (put g r (u1 (row g r) (off + (4 * s + r)) (row g r (off + (4 * s + r)) + c))) := by
  have hR := hx.Rle
  have hc := hx.2.2.2.1
  have hi : off + (4 * s + r) < 36 := by omega
  obtain ⟨M1, e1, cz, f1⟩ := hZ.record
  have hx1 := cx_of cz hc hx.2.2.2.2.1
  obtain ⟨q0, d0, e0⟩ := hx1.cl (show r < 4 + m by omega)
  have ea := X2_addToSum (i := off) (j := s) (k := r) (v := c) q0 (by omega) (by omega) (by omega)
  have et := X2_total (j := s) (St.wA (a := clo w p r) (g := u1 (mA M1 (clo w p r)) (off + s * 4 + r) (mA M1 (clo w p r) (off + s * 4 + r) + c)) q0) (by omega)
  rw [wA_self] at et
  have ex : off + s * 4 + r = off + (4 * s + r) := by omega
  have ec : ∀ i, i < 132 → u1 (mA M1 (clo w p r)) (off + s * 4 + r) (mA M1 (clo w p r) (off + s * 4 + r) + c) i = u1 (row g r) (off + (4 * s + r)) (row g r (off + (4 * s + r)) + c) i := fun i hi => by
    rw [ex, d0 _ (by omega)]
    by_cases q : i = off + (4 * s + r)
    · rw [q, u1_self, u1_self]
    · rw [u1_ne _ _ q, u1_ne _ _ q]; exact d0 i hi
  rw [tot_congr (c := s) ec (by omega) 4 (by omega)] at et
  have k3 : (mK (wA M1 (clo w p r) (u1 (mA M1 (clo w p r)) (off + s * 4 + r) (mA M1 (clo w p r) (off + s * 4 + r) + c))) (sto w p r) = 3) = True := eq_true q0.1
  refine ⟨_, p, ?_, cz.row (show r < 10 by omega) ec, Kp.of (fr_row hx (hisPT f1) (by omega)) hZ.z1⟩
  simp only [f_X4_changeCounter, cK, hx.k5, if_true, if_false, bx_l, bx_r, bn, Option.bind_some, Option.map_some, b01_or, hx.w134, hx.r100, hx.r101, hx.r102, hx.i96, hx.i97, hx.i98, hx.i99, sta_ok hx hr, cou_ok hx hs, c1, c2, hx.r136, hx.k27, e1, hx1.s3 (show r < 4 + m by omega), ea, k3, et]
theorem h_add (hZ : ClsZ x w p M g o h v b) (hx : Cx x w p M g R C Q m k) {r s : Nat} (hr : r < R) (hs : s < 16) :
    Ch x w M g o h v b (f_X4_addTag x (nI r) (nI s) M) (row g r r + 1) (put g r (newN (row g r) (36 + 4 * s) r 0 4)) := by
  have hR := hx.Rle
  have hc := hx.2.2.2.1
  obtain ⟨M1, e1, cz, f1⟩ := hZ.record
  have hx1 := cx_of cz hc hx.2.2.2.2.1
  obtain ⟨q0, d0, e0⟩ := hx1.cl (show r < 4 + m by omega)
  have ea := X2_putTag (r := r) (t := s) q0 (by omega) hs
  have ev := X2_version (i := r) (St.wA (a := clo w p r) (g := newN (mA M1 (clo w p r)) (36 + s * 4) r 0 4) q0) (by omega)
  rw [wA_self, newN_r, d0 r (by omega)] at ev
  have k3 : (mK (wA M1 (clo w p r) (newN (mA M1 (clo w p r)) (36 + s * 4) r 0 4)) (sto w p r) = 3) = True := eq_true q0.1
  have ec : ∀ i, i < 132 → newN (mA M1 (clo w p r)) (36 + s * 4) r 0 4 i = newN (row g r) (36 + 4 * s) r 0 4 i := by
    rw [show 36 + s * 4 = 36 + 4 * s by omega]; exact newN_congr d0 (by omega)
  refine ⟨_, p, ?_, cz.row (show r < 10 by omega) ec, Kp.of (fr_row hx (hisPT f1) (by omega)) hZ.z1⟩
  simp only [f_X4_addTag, cK, hx.k5, if_true, if_false, bx_l, bx_r, bn, Option.bind_some, Option.map_some, b01_or, hx.w134, hx.r100, hx.r101, hx.r102, hx.i96, hx.i97, hx.i98, hx.i99, sta_ok hx hr, tagc_ok hs, hx.r136, hx.k27, e1, hx1.s3 (show r < 4 + m by omega), ea, k3, ev]
theorem c_rem0 (hx : Cx x w p M g R C Q m k) {r s : Nat} (hr : r < R) (hs : s < 16) (c0 : lve (row g r) (36 + 4 * s) = 0) : f_X4_removeTag x (nI r) (nI s) M = some (.inr 2, M) := by
  have hR := hx.Rle
  obtain ⟨q0, d0, e0⟩ := hx.cl (show r < 4 + m by omega)
  have ed := X2_dotsOfTag q0 hs
  rw [dl (f := 36 + s * 4) (f' := 36 + 4 * s) d0 e0 (by omega) (by omega), c0] at ed
  simp only [f_X4_removeTag, cK, hx.k5, if_true, if_false, bx_l, bx_r, bn, Option.bind_some, Option.map_some, b01_or, hx.w134, hx.r100, hx.r101, hx.r102, hx.i96, hx.i97, hx.i98, hx.i99, sta_ok hx hr, tagc_ok hs, hx.s3 (show r < 4 + m by omega), ed]
  rfl
theorem h_rem (hZ : ClsZ x w p M g o h v b) (hx : Cx x w p M g R C Q m k) {r s : Nat} (hr : r < R) (hs : s < 16) (c0 : lve (row g r) (36 + 4 * s) ≠ 0) :
    Ch x w M g o h v b (f_X4_removeTag x (nI r) (nI s) M) (nI (lve (row g r) (36 + 4 * s))) (put g r (zap (row g r) (36 + 4 * s) 4)) := by
  have hR := hx.Rle
  have hc := hx.2.2.2.1
  obtain ⟨q0, d0, e0⟩ := hx.cl (show r < 4 + m by omega)
  have ed := X2_dotsOfTag q0 hs
  rw [dl (f := 36 + s * 4) (f' := 36 + 4 * s) d0 e0 (by omega) (by omega)] at ed
  have hl := lve_lt (row g r) (36 + 4 * s)
  have c0' : (nI (lve (row g r) (36 + 4 * s)) = 0) = False := nI_eqF (b := 0) c0 hl (by omega)
  obtain ⟨M1, e1, cz, f1⟩ := hZ.record
  have hx1 := cx_of cz hc hx.2.2.2.2.1
  obtain ⟨q1, d1, e1'⟩ := hx1.cl (show r < 4 + m by omega)
  have ea := X2_clearTag q1 hs
  have ec : ∀ i, i < 132 → zap (mA M1 (clo w p r)) (36 + s * 4) 4 i = zap (row g r) (36 + 4 * s) 4 i := by
    rw [show 36 + s * 4 = 36 + 4 * s by omega]; exact zap_congr d1
  refine ⟨_, p, ?_, cz.row (show r < 10 by omega) ec, Kp.of (fr_row hx (hisPT f1) (by omega)) hZ.z1⟩
  simp only [f_X4_removeTag, cK, hx.k5, if_true, if_false, bx_l, bx_r, bn, Option.bind_some, Option.map_some, b01_or, hx.w134, hx.r100, hx.r101, hx.r102, hx.i96, hx.i97, hx.i98, hx.i99, sta_ok hx hr, tagc_ok hs, hx.s3 (show r < 4 + m by omega), ed, c0', hx.r136, hx.k27, e1, hx1.s3 (show r < 4 + m by omega), ea]
theorem c_wr (hZ : ClsZ x w p M g o h v b) (hx : Cx x w p M g R C Q m k) {r s : Nat} {c : Int32} (hr : r < R) (hs : s < Q) (c1 : ¬ c < 0) (c2 : c ≤ 99) :
    Ch x w M g o h v b (f_X4_write x (nI r) (nI s) c M) (nI (lve (row g r) (100 + 4 * s))) (put g r (newN (row g r) (100 + 4 * s) r c 4)) := by
  have hR := hx.Rle
  have hc := hx.2.2.2.1
  obtain ⟨M1, e1, cz, f1⟩ := hZ.record
  have hx1 := cx_of cz hc hx.2.2.2.2.1
  obtain ⟨q1, d1, e1'⟩ := hx1.cl (show r < 4 + m by omega)
  have ee := X2_entries (t := s) q1 (by omega)
  rw [dl (f := 100 + s * 4) (f' := 100 + 4 * s) d1 e1' (by omega) (by omega)] at ee
  have ea := X2_putEntry (r := r) (t := s) (v := c) q1 (by omega) (by omega)
  have ec : ∀ i, i < 132 → newN (mA M1 (clo w p r)) (100 + s * 4) r c 4 i = newN (row g r) (100 + 4 * s) r c 4 i := by
    rw [show 100 + s * 4 = 100 + 4 * s by omega]; exact newN_congr d1 (by omega)
  refine ⟨_, p, ?_, cz.row (show r < 10 by omega) ec, Kp.of (fr_row hx (hisPT f1) (by omega)) hZ.z1⟩
  simp only [f_X4_write, cK, hx.k5, if_true, if_false, bx_l, bx_r, bn, Option.bind_some, Option.map_some, b01_or, hx.w134, hx.r100, hx.r101, hx.r102, hx.i96, hx.i97, hx.i98, hx.i99, sta_ok hx hr, reg_ok hx hs, c1, c2, hx.r136, hx.k27, e1, hx1.s3 (show r < 4 + m by omega), ee, ea]
/-- one state merged into another, recorded -/
theorem c_mar (hZ : ClsZ x w p M g o h v b) (hx : Cx x w p M g R C Q m k) {t s : Nat} (ht : t < 4 + m) (hs : s < 4 + m) : ∃ M1, f_X4_mergeAndRecord x (sto w p t) (sto w p s) M = some (b01 (¬ cov (row g t) (row g s)), M1) ∧ ClsZ x w p M1 (put g t (absR (row g t) (row g s))) (remO o h g) (remH h) v b ∧ Kp x M M1 := by
  have hR := hx.Rle
  have hc := hx.2.2.2.1
  have t10 : t < 10 := by omega
  obtain ⟨M1, e1, cz, f1⟩ := hZ.record
  have hx1 := cx_of cz hc hx.2.2.2.2.1
  have ec1 := X2_copyFrom hx1.trial (hx1.cl ht).1
  have q1 := CSim.one (x := x) (M := M1) (f := fun i => if i < 132 then mA M1 (clo w p t) i else mA M1 (x + 31) i)
  have hx2 := hx1.tr q1
  have cz2 := cz.keep q1.keep (Nat.le_refl _)
  have ec2 := X2_absorb (hx2.cl ht).1 (hx2.cl hs).1
  have ne1 := hx1.cne ht
  have ne2 := hx1.cne hs
  rw [mA_ne ne1.1, mA_ne ne2.1] at ec2
  have ef : ∀ i, i < 132 → absF (mA M1 (clo w p t)) (mA M1 (clo w p s)) i = absR (row g t) (row g s) i := fun i hi => absF_of (hx1.cl ht).2.1 (hx1.cl hs).2.1 (hx1.cl ht).2.2 (hx1.cl hs).2.2 hi
  have cz3 := cz2.row t10 ef
  have es := X2_same (St.wA (a := clo w p t) (g := absF (mA M1 (clo w p t)) (mA M1 (clo w p s))) (hx2.cl ht).1) (St.wA (a := clo w p t) (g := absF (mA M1 (clo w p t)) (mA M1 (clo w p s))) hx2.trial)
  rw [wA_self, mA_ne ne1.1.symm, wA_self, b01_c (eqS_congr (b' := row g t) ef (fun i hi => by rw [if_pos hi]; exact (hx1.cl ht).2.1 i hi))] at es
  refine ⟨_, ?_, cz3, Kp.of (fr_row hx (fr_tr (hisPT f1)) t10) hZ.z1⟩
  have k1 : (mK M1 (x + 30) = 3) = True := eq_true hx1.trial.1
  have k2 := hx2.s3 ht
  have k3 : (mK (wA (wA M1 (x + 31) fun i => if i < 132 then mA M1 (clo w p t) i else mA M1 (x + 31) i) (clo w p t) (absF (mA M1 (clo w p t)) (mA M1 (clo w p s)))) (sto w p t) = 3) = True := eq_true (hx2.cl ht).1.1
  have r3 : gRn 5 138 x (wA (wA M1 (x + 31) fun i => if i < 132 then mA M1 (clo w p t) i else mA M1 (x + 31) i) (clo w p t) (absF (mA M1 (clo w p t)) (mA M1 (clo w p s)))) = some (x + 30) := gRn_ok hx1.1.1.1 hx1.1.1.2.2.2.2.2.1
  simp only [f_X4_mergeAndRecord, cK, hx.k5, if_true, if_false, bx_l, bx_r, bn, Option.bind_some, Option.map_some, b01_or, hx.w134, hx.r100, hx.r101, hx.r102, hx.i96, hx.i97, hx.i98, hx.i99, hx.r136, hx.k27, e1, hx1.r138, k1, ec1, k2, ec2, r3, k3, es]
  by_cases c : cov (row g t) (row g s)
  · have c' : eqS (absR (row g t) (row g s)) (row g t) := c
    rw [b01_t c', b01_f (fun h => h c)]; rfl
  · have c' : ¬ eqS (absR (row g t) (row g s)) (row g t) := c
    rw [b01_f c', b01_t c]; rfl
theorem h_mer (hZ : ClsZ x w p M g o h v b) (hx : Cx x w p M g R C Q m k) {r s : Nat} (hr : r < R) (hs : s < R) :
    Ch x w M g o h v b (f_X4_merge x (nI r) (nI s) M) (b01 (¬ cov (row g r) (row g s))) (put g r (absR (row g r) (row g s))) := by
  have hR := hx.Rle
  obtain ⟨M1, e1, cz, f1⟩ := c_mar hZ hx (show r < 4 + m by omega) (show s < 4 + m by omega)
  refine ⟨M1, p, ?_, cz, f1⟩
  simp only [f_X4_merge, cK, hx.k5, if_true, if_false, bx_l, bx_r, bn, Option.bind_some, Option.map_some, b01_or, hx.w134, hx.r100, hx.r101, hx.r102, hx.i96, hx.i97, hx.i98, hx.i99, sta_ok hx hr, sta_ok hx hs, e1]
theorem h_del (hZ : ClsZ x w p M g o h v b) (hx : Cx x w p M g R C Q m k) {r s : Nat} (hr : r < m) (hs : s < R) :
    Ch x w M g o h v b (f_X4_deliver x (nI r) (nI s) M) (b01 (¬ cov (row g s) (row g (4 + r)))) (put g s (absR (row g s) (row g (4 + r)))) := by
  have hR := hx.Rle
  obtain ⟨M1, e1, cz, f1⟩ := c_mar hZ hx (show s < 4 + m by omega) (show 4 + r < 4 + m by omega)
  refine ⟨M1, p, ?_, cz, f1⟩
  simp only [f_X4_deliver, cK, hx.k5, if_true, if_false, bx_l, bx_r, bn, Option.bind_some, Option.map_some, b01_or, hx.w134, hx.r100, hx.r101, hx.r102, hx.i96, hx.i97, hx.i98, hx.i99, mes_ok hx hr, sta_ok hx hs, mesB hx hr, e1]
theorem c_send (hZ : ClsZ x w p M g o h v b) (hx : Cx x w p M g R C Q m k) {r : Nat} (hr : r < R) (h6 : m < 6) :
    Ch x w M g o h v b (f_X4_send x (nI r) M) (nI m) (sendG g r) := by
  have hR := hx.Rle
  have hc := hx.2.2.2.1
  obtain ⟨M1, e1, cz, f1⟩ := hZ.record
  have hx1 := cx_of cz hc hx.2.2.2.2.1
  have hm6 : mcn g < 6 := by rw [hc.m]; exact h6
  have hg3 : g 3 = nI (mcn g) := by rw [hc.m]; exact hc.2.2.2.1
  have zw : w + 24 ≤ mZ M1 := by obtain ⟨rt, c, _, z⟩ := cz; exact z 0 w c.2.2.2.1.1
  obtain ⟨M2, e2, fw, r2⟩ := X3_addMessage (r := r) hx1.2.2.1 zw (by omega) hm6 hg3
  have cz2 := cz.world fw.1 r2
  have pl := hx.2.2.2.2.2
  unfold Place at pl
  have fr2 : Fr (hisT x) M M2 := (hisPT f1).tr (fw.1.mono (fun a h => by unfold hisT hisP; unfold inW at h; omega))
  have w2 : gRn 5 134 x M2 = some w := by
    obtain ⟨rt, ⟨c1, c2, c3, c4, _⟩, _⟩ := cz2
    exact gRn_ok c1.1.1 (c2.1.trans c4.1)
  have i2 : gI 4 99 w M2 = some (nI (m + 1)) := by
    rw [WI r2.1, r2.2.1.2.2.2]; unfold sendG; rw [u1_self, hc.m]
  have em : nI (m + 1) - 1 = nI m := by rw [show (1 : Int32) = nI 1 from rfl, nI_sub (by omega)]; rfl
  have lt6 : (nI m < 6) = True := nI_ltT (b := 6) h6 (by omega)
  have k4 : (mK M1 w = 4) = True := eq_true hx1.2.2.1.1.1.1
  refine ⟨M2, p, ?_, cz2, Kp.of fr2 hZ.z1⟩
  simp only [f_X4_send, cK, hx.k5, if_true, if_false, bx_l, bx_r, bn, Option.bind_some, Option.map_some, b01_or, hx.w134, hx.r100, hx.r101, hx.r102, hx.i96, hx.i97, hx.i98, hx.i99, rep_ok hx hr, lt6, hx.r136, hx.k27, e1, hx1.w134, k4, e2, w2, i2, em]
theorem c_send6 (hx : Cx x w p M g R C Q m k) {r : Nat} (hr : r < R) (h6 : ¬ m < 6) : f_X4_send x (nI r) M = some (.inr 2, M) := by
  have hR := hx.Rle
  obtain rfl : m = 6 := by omega
  have lt6 : (nI 6 < 6) = False := eq_false (by decide)
  simp only [f_X4_send, cK, hx.k5, if_true, if_false, bx_l, bx_r, bn, Option.bind_some, Option.map_some, b01_or, hx.w134, hx.r100, hx.r101, hx.r102, hx.i96, hx.i97, hx.i98, hx.i99, rep_ok hx hr, lt6]
theorem c_drop (hZ : ClsZ x w p M g o h v b) (hx : Cx x w p M g R C Q m k) {r : Nat} (hr : r < m) :
    Ch x w M g o h v b (f_X4_drop x (nI r) M) (nI (m - 1)) (dropG g r) := by
  have hR := hx.Rle
  have hc := hx.2.2.2.1
  obtain ⟨M1, e1, cz, f1⟩ := hZ.record
  have hx1 := cx_of cz hc hx.2.2.2.2.1
  have hrm : r < mcn g := by rw [hc.m]; exact hr
  have hm6 : mcn g ≤ 6 := by rw [hc.m]; omega
  have hg3 : g 3 = nI (mcn g) := by rw [hc.m]; exact hc.2.2.2.1
  have zw : w + 24 ≤ mZ M1 := by obtain ⟨rt, c, _, z⟩ := cz; exact z 0 w c.2.2.2.1.1
  obtain ⟨M2, p2, e2, fw, r2⟩ := X3_removeMessage hx1.2.2.1 zw hrm hm6 hg3
  have cz2 := cz.world fw r2
  have pl := hx.2.2.2.2.2
  unfold Place at pl
  have fr2 : Fr (hisT x) M M2 := (hisPT f1).tr (fw.mono (fun a h => by unfold hisT hisP; unfold inW at h; omega))
  have w2 : gRn 5 134 x M2 = some w := by
    obtain ⟨rt, ⟨c1, c2, c3, c4, _⟩, _⟩ := cz2
    exact gRn_ok c1.1.1 (c2.1.trans c4.1)
  have i2 : gI 4 99 w M2 = some (nI (m - 1)) := by
    rw [WI r2.1, r2.2.1.2.2.2]; unfold dropG; rw [dropL_lo _ _ _ _ (by omega), u1_self, hc.m]
  have k4 : (mK M1 w = 4) = True := eq_true hx1.2.2.1.1.1.1
  refine ⟨M2, p2, ?_, cz2, Kp.of fr2 hZ.z1⟩
  simp only [f_X4_drop, cK, hx.k5, if_true, if_false, bx_l, bx_r, bn, Option.bind_some, Option.map_some, b01_or, hx.w134, hx.r100, hx.r101, hx.r102, hx.i96, hx.i97, hx.i98, hx.i99, mes_ok hx hr, hx.r136, hx.k27, e1, hx1.w134, k4, e2, w2, i2]
/-- every replica before the i-th made U -/
def allU (g U : Nat → Int32) : Nat → Nat → Int32
  | 0 => g
  | i + 1 => put (allU g U i) i U
theorem allU_lo (g U : Nat → Int32) (i q : Nat) (hq : q < 10) : allU g U i q = g q := by
  induction i with
  | zero => rfl
  | succ i ih => unfold allU; rw [put_lo hq, ih]
theorem allU_hi (g U : Nat → Int32) (i t : Nat) (ht : i ≤ t) (j : Nat) (hj : j < 132) : row (allU g U i) t j = row g t j := by
  induction i with
  | zero => rfl
  | succ i ih => unfold allU; rw [row_put_ne hj (by omega), ih (by omega)]
theorem allU_row (g U : Nat → Int32) (i t : Nat) (j : Nat) (hj : j < 132) : row (allU g U i) t j = if t < i then U j else row g t j := by
  induction i with
  | zero => rw [if_neg (by omega)]; rfl
  | succ i ih =>
    unfold allU
    by_cases q : t = i
    · subst q; rw [row_put hj, if_pos (by omega)]
    · rw [row_put_ne hj q, ih]
      by_cases q2 : t < i
      · rw [if_pos q2, if_pos (by omega)]
      · rw [if_neg q2, if_neg (by omega)]
noncomputable def difU (g U : Nat → Int32) (n : Nat) : Nat := @cnt (fun k => ¬ eqS (row g k) U) (fun _ => Classical.propDecidable _) n
theorem difU_t {g U : Nat → Int32} {k : Nat} (h : ¬ eqS (row g k) U) : difU g U (k + 1) = difU g U k + 1 := @cnt_t (fun k => ¬ eqS (row g k) U) (fun _ => Classical.propDecidable _) k h
theorem difU_f {g U : Nat → Int32} {k : Nat} (h : eqS (row g k) U) : difU g U (k + 1) = difU g U k := @cnt_f (fun k => ¬ eqS (row g k) U) (fun _ => Classical.propDecidable _) k (fun e => e h)
theorem c_mall (hZ : ClsZ x w p M g o h v b) (hx : Cx x w p M g R C Q m k) : ∃ M3, f_X4_mergeAll x M = some (nI (difU g (upR g (R - 1)) R), M3) ∧ ClsZ x w p M3 (allU g (upR g (R - 1)) R) (remO o h g) (remH h) v b ∧ Kp x M M3 := by
  have hR := hx.Rle
  have hc := hx.2.2.2.1
  obtain ⟨M1, e1, cz, f1⟩ := hZ.record
  have hx1 := cx_of cz hc hx.2.2.2.2.1
  obtain ⟨T, ek, et⟩ := c_all hx1
  have q1 := CSim.one (x := x) (M := M1) (f := T)
  have cz2 := cz.keep q1.keep (Nat.le_refl _)
  have wU := WFr.upR hx1 (R - 1) (by omega)
  have cn : ∀ i, Cnt (allU g (upR g (R - 1)) i) R C Q m := fun i => ⟨(allU_lo _ _ _ _ (by omega)).trans hc.1, (allU_lo _ _ _ _ (by omega)).trans hc.2.1, (allU_lo _ _ _ _ (by omega)).trans hc.2.2.1, (allU_lo _ _ _ _ (by omega)).trans hc.2.2.2.1, hc.2.2.2.2⟩
  have cw : ∀ i t, t < 10 → t < 4 + m → WFr k (row (allU g (upR g (R - 1)) i) t) := fun i t ht hv => by
    by_cases q : t < i
    · exact wU.congr (fun j hj => by rw [allU_row _ _ _ _ _ hj, if_pos q])
    · exact (hx.2.2.2.2.1 t ht hv).congr (fun j hj => by rw [allU_row _ _ _ _ _ hj, if_neg q])
  have lp : ∃ y, fj_X4_mergeAll_20 x (x + 30) 0 0 (wA M1 (x + 31) T) = some y ∧ (y.1 = nI (difU g (upR g (R - 1)) R) ∧ ClsZ x w p y.2 (allU g (upR g (R - 1)) R) (remO o h g) (remH h) v b ∧ Fr (hisT x) M y.2) := by
    unfold fj_X4_mergeAll_20
    refine loopM_inv (N := R) (P := fun i s => s.1 = nI (difU g (upR g (R - 1)) i) ∧ s.2.1 = nI i ∧ mA s.2.2 (x + 31) = T ∧ ClsZ x w p s.2.2 (allU g (upR g (R - 1)) i) (remO o h g) (remH h) v b ∧ Fr (hisT x) M s.2.2) ⟨rfl, rfl, wA_self _ _ _, cz2, fr_tr (hisPT f1)⟩ (fun i s hi hp => ?_) (fun s hp => ?_) (FUn (by omega))
    · obtain ⟨s1, s2, M3⟩ := s
      obtain ⟨a1, a2, a3, a4, a5⟩ := hp
      dsimp only at a1 a2 a3 a4 a5
      subst a1 a2
      have hx3 : Cx x w p M3 (allU g (upR g (R - 1)) i) R C Q m k := cx_of a4 (cn i) (cw i)
      have hl : ¬ (nI R ≤ nI i) := nI_ge hi (by omega)
      have ei : nI i + 1 = nI (i + 1) := nI_add i 1
      obtain ⟨c0, d0, e0⟩ := hx3.cl (show i < 4 + m by omega)
      have eqT : ∀ j, j < 132 → mA M3 (x + 31) j = upR g (R - 1) j := fun j hj => by rw [a3]; exact et j hj
      have es := X2_same c0 hx3.trial
      rw [b01_c (eqS_congr (fun j hj => (d0 j hj).trans (allU_hi _ _ i i (Nat.le_refl _) j hj)) eqT)] at es
      by_cases c : eqS (row g i) (upR g (R - 1))
      · rw [b01_t c] at es
        refine ⟨(nI (difU g (upR g (R - 1)) (i + 1)), nI (i + 1), M3), ?_, rfl, rfl, a3, ?_, a5⟩
        · rw [difU_f c]
          simp only [fc_X4_mergeAll_20, fj_X4_mergeAll_60, hx3.w134, hx3.i96, hx3.r100, repB hx3 hi, Option.bind_some, hl, if_false, cK, hx3.s3 (show i < 4 + m by omega), if_true, es, bn, e10, ei]
        · have := a4.row (show i < 10 by omega) (a := mA M3 (clo w p i)) (c := upR g (R - 1)) (fun j hj => by rw [d0 j hj, allU_hi _ _ i i (Nat.le_refl _) j hj]; exact c j hj)
          rwa [wA_id] at this
      · rw [b01_f c] at es
        have ec := X2_copyFrom c0 hx3.trial
        refine ⟨(nI (difU g (upR g (R - 1)) (i + 1)), nI (i + 1), wA M3 (clo w p i) (fun j => if j < 132 then mA M3 (x + 31) j else mA M3 (clo w p i) j)), ?_, rfl, rfl, ?_, ?_, ?_⟩
        · rw [difU_t c]
          have ed : nI (difU g (upR g (R - 1)) i) + 1 = nI (difU g (upR g (R - 1)) i + 1) := nI_add _ 1
          simp only [fc_X4_mergeAll_20, fj_X4_mergeAll_60, hx3.w134, hx3.i96, hx3.r100, repB hx3 hi, Option.bind_some, hl, if_false, cK, hx3.s3 (show i < 4 + m by omega), if_true, es, bn, ec, ei, ed]
        · show mA (wA M3 (clo w p i) _) (x + 31) = T
          rw [mA_ne (hx3.cne (show i < 4 + m by omega)).1.symm, a3]
        · exact a4.row (show i < 10 by omega) (fun j hj => by rw [if_pos hj]; exact eqT j hj)
        · exact fr_row hx a5 (by omega)
    · obtain ⟨s1, s2, M3⟩ := s
      obtain ⟨a1, a2, a3, a4, a5⟩ := hp
      dsimp only at a1 a2 a3 a4 a5
      subst a1 a2
      have hx3 : Cx x w p M3 (allU g (upR g (R - 1)) R) R C Q m k := cx_of a4 (cn R) (cw R)
      have hl : nI R ≤ nI R := Int32.le_refl _
      refine ⟨(nI (difU g (upR g (R - 1)) R), M3), ?_, rfl, a4, a5⟩
      simp only [fc_X4_mergeAll_20, fj_X4_mergeAll_66, hx3.w134, hx3.i96, Option.bind_some, hl, if_true, Option.map_some]
  obtain ⟨⟨v', M3⟩, lp, rfl, cz3, f3⟩ := lp
  refine ⟨M3, ?_, cz3, Kp.of f3 hZ.z1⟩
  simp only [f_X4_mergeAll, cK, hx.k5, if_true, if_false, bx_l, bx_r, bn, Option.bind_some, Option.map_some, b01_or, hx.w134, hx.r100, hx.r101, hx.r102, hx.i96, hx.i97, hx.i98, hx.i99, hx.r136, hx.k27, e1, hx1.k5, ek, lp]
theorem c_rest (hZ : ClsZ x w p M g o h v b) (hx : Cx x w p M g R C Q m k) {s m' : Nat} (hs : s < 2) (c : bit b s) (hm' : sl v s 3 = nI m') :
    Ch x w M g o h v b (f_X4_restore x (nI s) M) (nI m') (sl v s) := by
  have hc := hx.2.2.2.1
  have fx := hx.1
  have r137 : gRn 5 137 x M = some (x + 29) := gRn_ok fx.1.1 fx.1.2.2.2.2.1
  have gBs : gB 11 (x + 29) (nI s) M = some (mB M (x + 29) s) := by
    unfold gB; rw [if_pos ⟨fx.2.2.2.1.1, by rw [fx.2.2.2.1.2, inT hs (by omega)]; exact not_false⟩, nI_cl (by omega)]
  obtain ⟨M1, e1, cz, f1⟩ := hZ.record
  have CZ := cz
  obtain ⟨rt, ⟨c1, c2, c3, c4, c5, c6⟩, z1, z2⟩ := cz
  obtain ⟨u, q, ru, rel⟩ := (c6.2 s hs).1 c
  have hz61 := hZ.z1
  have eBu : mB M (x + 29) s = some u := by
    rw [← (f1.at (show x + 29 < mZ M by omega) (by unfold hisP; omega)).2.2.1, c2.2.2.2 s hs]; exact ru
  obtain ⟨M2, e2, fw, r2⟩ := X3_copyFrom c4.2.1 rel (c3.2.1 0 (12 + s) w u (by omega) c4.1 ru) (z2 0 w c4.1) (z2 _ u ru)
  have cz2 := CZ.world fw.1 r2
  have pl := hx.2.2.2.2.2
  unfold Place at pl
  have fr2 : Fr (hisT x) M M2 := (hisPT f1).tr (fw.1.mono (fun a h => by unfold hisT hisP; unfold inW at h; omega))
  have hx1 := cx_of CZ hc hx.2.2.2.2.1
  have w2 : gRn 5 134 x M2 = some w := by
    obtain ⟨rt, ⟨c1, c2, c3, c4, _⟩, _⟩ := cz2
    exact gRn_ok c1.1.1 (c2.1.trans c4.1)
  have i2 : gI 4 99 w M2 = some (nI m') := by
    rw [WI r2.1, r2.2.1.2.2.2]; exact congrArg some hm'
  have k4 : (mK M1 w = 4) = True := eq_true c4.2.1.1.1
  refine ⟨M2, p, ?_, cz2, Kp.of fr2 hZ.z1⟩
  simp only [f_X4_restore, cK, hx.k5, if_true, if_false, bx_l, bx_r, bn, Option.bind_some, Option.map_some, b01_or, hx.w134, hx.r100, hx.r101, hx.r102, hx.i96, hx.i97, hx.i98, hx.i99, slot_ok hs, r137, gBs, eBu, hx.r136, hx.k27, e1, hx1.w134, k4, e2, w2, i2]
theorem c_undo (hZ : ClsZ x w p M g o h v b) (hx : Cx x w p M g R C Q m k) (c0 : h ≠ 0) : ∃ M1 u q, f_X4_undo x M = some (.inl (nI (h - 1)), M1) ∧ ClsZ x u q M1 (sl o (h - 1)) o (h - 1) v b ∧ Kp x M M1 := by
  have fx := hx.1
  have hzz := hZ.z1
  obtain ⟨rt, ⟨c1, ⟨p1, p2, p3, p4⟩, ⟨q1, q2, q3⟩, ⟨n1, n2⟩, ⟨nx, h1, h2, h3, h4, h5⟩, ⟨s1, s2⟩⟩, z1, z2⟩ := hZ
  have i2 : gI 1 2 (x + 27) M = some (nI h) := by rw [HI1 c1.2.2.1, h4]
  obtain ⟨u, q, ru, rel⟩ := h5 (h - 1) (by omega)
  have ix : (nx + 10 - h + (h - 1)) % 10 = (nx + 9) % 10 := by omega
  rw [ix] at ru
  have eu : mB M (x + 28) ((nx + 9) % 10) = some u := by rw [p3 _ (by omega)]; exact ru
  have ee := X0_exchange c1.2.2.1 h1 (show 0 < h ∧ h ≤ 10 by omega) h3 h4 eu n2.1.1.1
  let M1 := wR (wB (wI (wI M 1 (x + 27) (nI ((nx + 9) % 10))) 2 (x + 27) (nI (h - 1))) (x + 28) (u1 (mB M (x + 28)) ((nx + 9) % 10) (some w))) 134 x (some u)
  have eR : ∀ f a, mR M1 f a = if f = 134 ∧ a = x then some u else mR M f a := fun f a => mR_wR _ _ _ _ _ _
  have eI : ∀ f a, mI M1 f a = if f = 2 ∧ a = x + 27 then nI (h - 1) else if f = 1 ∧ a = x + 27 then nI ((nx + 9) % 10) else mI M f a := fun f a => by
    show mI (wI (wI M 1 (x + 27) (nI ((nx + 9) % 10))) 2 (x + 27) (nI (h - 1))) f a = _
    rw [mI_wI, mI_wI]
  have eB : ∀ a, mB M1 a = if a = x + 28 then u1 (mB M (x + 28)) ((nx + 9) % 10) (some w) else mB M a := fun a => mB_wB _ _ _ _
  have f1 : Fix x M1 := fx.same (fun i _ => ⟨rfl, rfl⟩) (fun f i _ hf _ => by rw [eR, if_neg (by omega)])
  have relS : ∀ k y q g, rt k = some y → RelP M y q g → RelP M1 y q g := fun k y q g e r => by
    have py := (q1 k y e).1
    unfold Place at py
    exact r.same (fun i hi => ⟨rfl, rfl, fun f => by rw [eR, if_neg (by omega)]⟩) (fun i hi => ⟨fun f => by rw [eI, if_neg (by omega), if_neg (by omega)], rfl, by rw [eB, if_neg (by omega)]⟩)
  have wsS : ∀ k y q, rt k = some y → WS M y q → WS M1 y q := fun k y q e r => by
    have py := (q1 k y e).1
    unfold Place at py
    exact r.same (fun i hi => ⟨rfl, rfl, fun f => by rw [eR, if_neg (by omega)]⟩) ⟨by rw [eB, if_neg (by omega)], by rw [eB, if_neg (by omega)]⟩
  let rt' := u1 (u1 rt 0 (some u)) (2 + (nx + 9) % 10) (some w)
  have rt0 : rt' 0 = some u := by show u1 (u1 rt 0 (some u)) (2 + (nx + 9) % 10) (some w) 0 = _; rw [u1_ne _ _ (by omega), u1_self]
  have rtx : rt' (2 + (nx + 9) % 10) = some w := u1_self _ _ _
  have rtk : ∀ k, k ≠ 0 → k ≠ 2 + (nx + 9) % 10 → rt' k = rt k := fun k hk hk2 => by show u1 (u1 rt 0 (some u)) (2 + (nx + 9) % 10) (some w) k = _; rw [u1_ne _ _ hk2, u1_ne _ _ hk]
  have old : ∀ k y, rt' k = some y → ∃ k', rt k' = some y ∧ (k = 0 → k' = 2 + (nx + 9) % 10) ∧ (k = 2 + (nx + 9) % 10 → k' = 0) ∧ (k ≠ 0 → k ≠ 2 + (nx + 9) % 10 → k' = k) := fun k y e => by
    by_cases a : k = 0
    · subst a; rw [rt0] at e; cases e; exact ⟨_, ru, fun _ => rfl, fun e => by omega, fun e => absurd rfl e⟩
    · by_cases b : k = 2 + (nx + 9) % 10
      · subst b; rw [rtx] at e; cases e; exact ⟨0, n1, fun e => by omega, fun _ => rfl, fun _ e => absurd rfl e⟩
      · rw [rtk k a b] at e; exact ⟨k, e, fun e => absurd e a, fun e => absurd e b, fun _ _ => rfl⟩
  have cl1 : ClsZ x u q M1 (sl o (h - 1)) o (h - 1) v b := by
    refine ⟨rt', ⟨f1, ⟨by rw [eR, if_pos ⟨rfl, rfl⟩, rt0], by rw [eR, if_neg (by omega), p2, rtk 1 (by omega) (by omega)], fun i hi => ?_, fun i hi => by rw [eB, if_neg (by omega), p4 i hi, rtk _ (by omega) (by omega)]⟩, ⟨fun k y e => ?_, fun k k' y y' hk e e' => ?_, ?_⟩, ⟨rt0, relS _ u q _ ru rel⟩, ⟨(nx + 9) % 10, by omega, by omega, by rw [eI, if_neg (by omega), if_pos ⟨rfl, rfl⟩], by rw [eI, if_pos ⟨rfl, rfl⟩], fun j hj => ?_⟩, ⟨s1, fun s hs => ⟨fun hb => ?_, fun hb => by rw [rtk _ (by omega) (by omega)]; exact (s2 s hs).2 hb⟩⟩⟩, z1, fun k y e => ?_⟩
    · rw [eB, if_pos rfl]
      by_cases a : i = (nx + 9) % 10
      · rw [a, u1_self, rtx]
      · rw [u1_ne _ _ a, rtk _ (by omega) (by omega)]; exact p3 i hi
    · obtain ⟨k', e', _⟩ := old k y e
      obtain ⟨q', wq⟩ := (q1 k' y e').2
      exact ⟨(q1 k' y e').1, q', wsS k' y q' e' wq⟩
    · obtain ⟨l, el, l1, l2, l3⟩ := old k y e
      obtain ⟨l', el', l1', l2', l3'⟩ := old k' y' e'
      refine q2 l l' y y' (fun ell => ?_) el el'
      subst ell
      by_cases a : k = 0
      · have := l1 a
        by_cases a' : k' = 0
        · omega
        · by_cases b' : k' = 2 + (nx + 9) % 10
          · have := l2' b'; omega
          · have := l3' a' b'; omega
      · by_cases b : k = 2 + (nx + 9) % 10
        · have := l2 b
          by_cases a' : k' = 0
          · have := l1' a'; omega
          · by_cases b' : k' = 2 + (nx + 9) % 10
            · omega
            · have := l3' a' b'; omega
        · have := l3 a b
          by_cases a' : k' = 0
          · have := l1' a'; omega
          · by_cases b' : k' = 2 + (nx + 9) % 10
            · have := l2' b'; omega
            · have := l3' a' b'; omega
    · obtain ⟨sw, e⟩ := q3; exact ⟨sw, by rw [rtk 1 (by omega) (by omega)]; exact e⟩
    · obtain ⟨y, q', e, r⟩ := h5 j (by omega)
      refine ⟨y, q', ?_, relS _ y q' _ e r⟩
      rw [show ((nx + 9) % 10 + 10 - (h - 1) + j) % 10 = (nx + 10 - h + j) % 10 by omega, rtk _ (by omega) (by omega)]; exact e
    · obtain ⟨y, q', e, r⟩ := (s2 s hs).1 hb
      exact ⟨y, q', by rw [rtk _ (by omega) (by omega)]; exact e, relS _ y q' _ e r⟩
    · obtain ⟨k', e', _⟩ := old k y e; exact z2 k' y e'
  have ne0 : (nI h = 0) = False := nI_eqF (b := 0) c0 (by omega) (by omega)
  have k1 := hx.k27
  have eS : sR 5 134 x (some u) (wB (wI (wI M 1 (x + 27) (nI ((nx + 9) % 10))) 2 (x + 27) (nI (h - 1))) (x + 28) (u1 (mB M (x + 28)) ((nx + 9) % 10) (some w))) = some M1 := by rw [sR_w, if_pos (show mK (wB (wI (wI M 1 (x + 27) (nI ((nx + 9) % 10))) 2 (x + 27) (nI (h - 1))) (x + 28) (u1 (mB M (x + 28)) ((nx + 9) % 10) (some w))) x = 5 from fx.1.1)]
  have r136 : gRn 5 136 x M1 = some (x + 27) := gRn_ok f1.1.1 f1.1.2.2.2.1
  have i2' : gI 1 2 (x + 27) M1 = some (nI (h - 1)) := by rw [HI1 f1.2.2.1, eI, if_pos ⟨rfl, rfl⟩]
  refine ⟨M1, u, q, ?_, cl1, rfl, by rw [eI, if_neg (by omega), if_neg (by omega)], Nat.le_refl _⟩
  simp only [f_X4_undo, hx.r136, i2, Option.bind_some, ne0, if_false, hx.w134, cK, k1, if_true, ee, bn, eS, r136, i2']
theorem bit_s : ∀ b : Fin 4, ∀ s : Fin 2, ∃ b' : Fin 4, ∀ s' : Fin 2, (b'.val / 2 ^ s'.val % 2 = 1 ↔ (b.val / 2 ^ s'.val % 2 = 1 ∨ s' = s)) := by decide
theorem c_save (hZ : ClsZ x w p M g o h v b) (hx : Cx x w p M g R C Q m k) {s : Nat} (hs : s < 2) : ∃ M3 b', f_X4_save x (nI s) M = some (.inl (nI m), M3) ∧ ClsZ x w p M3 g o h (cpO v s g 1330) b' ∧ (∀ s', s' < 2 → (bit b' s' ↔ (bit b s' ∨ s' = s))) ∧ Kp x M M3 := by
  have hc := hx.2.2.2.1
  have fx := hx.1
  have r137 : gRn 5 137 x M = some (x + 29) := gRn_ok fx.1.1 fx.1.2.2.2.2.1
  obtain ⟨rt2, ⟨c1, ⟨p1, p2, p3, p4⟩, ⟨q1, q2, q3⟩, ⟨n1, n2⟩, ⟨nx, h1, h2, h3, h4, h5⟩, ⟨s1, s2⟩⟩, z1, z2⟩ := hZ
  have gBs : gB 11 (x + 29) (nI s) M = some (mB M (x + 29) s) := by
    unfold gB; rw [if_pos ⟨fx.2.2.2.1.1, by rw [fx.2.2.2.1.2, inT hs (by omega)]; exact not_false⟩, nI_cl (by omega)]
  obtain ⟨⟨b', hb'⟩, hbit⟩ := bit_s ⟨b, s1⟩ ⟨s, hs⟩
  dsimp only at hbit
  have hbit' : ∀ s', s' < 2 → (bit b' s' ↔ (bit b s' ∨ s' = s)) := fun s' hs' => by
    have := hbit ⟨s', hs'⟩
    unfold bit; rw [this]; exact or_congr Iff.rfl ⟨fun e => by have := congrArg Fin.val e; exact this, fun e => Fin.ext e⟩
  have pre : ∃ u pu M1, f_X4_save x (nI s) M = fj_X4_save_31 x u M1 ∧ Fr (fun a => a = x + 29) M M1 ∧ mB M1 (x + 29) = u1 (mB M (x + 29)) s (some u) ∧ WS M1 u pu ∧ u + 24 ≤ mZ M1 ∧ (rt2 (12 + s) = some u ∨ u = mZ M) := by
    cases e : mB M (x + 29) s with
    | some u =>
      have ru : rt2 (12 + s) = some u := by rw [← p4 s hs]; exact e
      obtain ⟨pu, wu⟩ := (q1 _ u ru).2
      refine ⟨u, pu, M, ?_, Fr.refl M, ?_, wu, z2 _ u ru, Or.inl ru⟩
      · simp only [f_X4_save, cK, hx.k5, if_true, if_false, bx_l, bx_r, bn, Option.bind_some, Option.map_some, b01_or, hx.w134, hx.r100, hx.r101, hx.r102, hx.i96, hx.i97, hx.i98, hx.i99, slot_ok hs, r137, gBs, e]
      · funext j; unfold u1; by_cases c : j = s
        · rw [if_pos c, c, e]
        · rw [if_neg c]
    | none =>
      obtain ⟨M1, e1, f1, w1, zz⟩ := X3_init (M := M) rfl
      have fx1 := fx.fr f1 z1
      have eB : mB M1 (x + 29) = mB M (x + 29) := ((f1.2 (x + 29) (by omega)).2 id).2.2.1
      have r137' : gRn 5 137 x M1 = some (x + 29) := gRn_ok fx1.1.1 fx1.1.2.2.2.2.1
      have sB : sBn 11 4 (x + 29) (nI s) (mZ M) M1 = some (wB M1 (x + 29) (u1 (mB M1 (x + 29)) s (some (mZ M)))) := by
        rw [sBn_w, if_pos ⟨fx1.2.2.2.1.1, w1.1.1, by rw [fx1.2.2.2.1.2, inT hs (by omega)]; exact not_false⟩, nI_cl (by omega)]
      refine ⟨mZ M, id, wB M1 (x + 29) (u1 (mB M1 (x + 29)) s (some (mZ M))), ?_, (f1.mono (fun a h => h.elim)).tr (Fr.wB rfl), by rw [wB_self, eB], ?_, by show mZ M + 24 ≤ mZ M1; omega, Or.inr rfl⟩
      · simp only [f_X4_save, cK, hx.k5, if_true, if_false, bx_l, bx_r, bn, Option.bind_some, Option.map_some, b01_or, hx.w134, hx.r100, hx.r101, hx.r102, hx.i96, hx.i97, hx.i98, hx.i99, slot_ok hs, r137, gBs, e, bnew, e1, r137', sB]
      · exact w1.fr (P := fun a => a = x + 29) (by omega) (Fr.wB rfl) ⟨by rw [mB_wB, if_neg (by omega)], by rw [mB_wB, if_neg (by omega)]⟩
  obtain ⟨u, pu, M1, epre, fr1, hB1, wu, zu, uo⟩ := pre
  have pu' : Place x u := uo.elim (fun e => (q1 _ u e).1) (fun e => by unfold Place; omega)
  have pl := pu'
  unfold Place at pl
  have gap : ∀ k y, k ≠ 12 + s → rt2 k = some y → u + 24 ≤ y ∨ y + 24 ≤ u := fun k y hk hy => uo.elim (fun e => q2 _ _ u y (fun h => hk h.symm) e hy) (fun e => by have := z2 k y hy; omega)
  have plw := (q1 0 w n1).1
  unfold Place at plw
  have relw : RelP M1 w p g := n2.fr (z2 0 w n1) fr1 (fun i hi => by omega)
  obtain ⟨M3, e3, fw, r3⟩ := X3_copyFrom wu relw (gap 0 w (by omega) n1) zu (Nat.le_trans (z2 0 w n1) fr1.1)
  have f13 : Fr (fun a => a = x + 29 ∨ inW u a) M M3 := (fr1.mono (fun a h => Or.inl h)).tr (fw.1.mono (fun a h => Or.inr h))
  have fx3 : Fix x M3 := fx.fr f13 z1
  have rel : ∀ k y q g, k ≠ 12 + s → rt2 k = some y → RelP M y q g → RelP M3 y q g := fun k y q g hk e r => r.fr (z2 k y e) f13 (fun i hi => by have := gap k y hk e; have py := (q1 k y e).1; unfold Place at py; unfold inW; omega)
  have at3 := fun a (ha : a < mZ M) (h29 : a ≠ x + 29) (hu : ¬ inW u a) => f13.at ha (show ¬ (a = x + 29 ∨ inW u a) from fun e => e.elim h29 hu)
  have hB3 : mB M3 (x + 29) = u1 (mB M (x + 29)) s (some u) := by
    rw [← hB1]; exact (fw.1.at (Nat.lt_of_lt_of_le (by omega) fr1.1) (by unfold inW; omega)).2.2.1
  have eR := fun k => (f13.2 x (by omega)).1.2.2 k
  have cl3 : ClsZ x w p M3 g o h (cpO v s g 1330) b' := by
    have hh : h ≤ 10 := h2
    refine ⟨u1 rt2 (12 + s) (some u), ⟨fx3, ⟨by rw [eR, p1, u1_ne _ _ (by omega)], by rw [eR, p2, u1_ne _ _ (by omega)], fun i hi => by rw [(at3 (x + 28) (by omega) (by omega) (by unfold inW; omega)).2.2.1, p3 i hi, u1_ne _ _ (by omega)], fun i hi => ?_⟩, ⟨fun k y e => ?_, fun k k' y y' hk e e' => ?_, ?_⟩, ⟨by rw [u1_ne _ _ (by omega)]; exact n1, rel 0 w p _ (by omega) n1 n2⟩, ⟨nx, h1, h2, by rw [(at3 (x + 27) (by omega) (by omega) (by unfold inW; omega)).1]; exact h3, by rw [(at3 (x + 27) (by omega) (by omega) (by unfold inW; omega)).1]; exact h4, fun j hj => ?_⟩, ⟨hb', fun s' hs' => ⟨fun hb => ?_, fun hb => ?_⟩⟩⟩, Nat.le_trans z1 f13.1, fun k y e => ?_⟩
    · rw [hB3]
      by_cases c : i = s
      · rw [c, u1_self, u1_self]
      · rw [u1_ne _ _ c, u1_ne _ _ (by omega)]; exact p4 i hi
    · by_cases c : k = 12 + s
      · rw [c, u1_self] at e; cases e; exact ⟨pu', pu, r3.1⟩
      · rw [u1_ne _ _ c] at e
        obtain ⟨q', wq⟩ := (q1 k y e).2
        have py := (q1 k y e).1
        unfold Place at py
        have zy := z2 k y e
        have gy := gap k y c e
        exact ⟨(q1 k y e).1, q', wq.fr zy f13 ⟨(at3 (y + 1) (by omega) (by omega) (by unfold inW; omega)).2.2.1, (at3 (y + 2) (by omega) (by omega) (by unfold inW; omega)).2.2.1⟩⟩
    · by_cases c : k = 12 + s <;> by_cases c' : k' = 12 + s
      · omega
      · rw [c, u1_self] at e; rw [u1_ne _ _ c'] at e'; cases e; exact gap k' y' c' e'
      · rw [u1_ne _ _ c] at e; rw [c', u1_self] at e'; cases e'; exact (gap k y c e).symm
      · rw [u1_ne _ _ c] at e; rw [u1_ne _ _ c'] at e'; exact q2 k k' y y' hk e e'
    · obtain ⟨sw, e⟩ := q3; exact ⟨sw, by rw [u1_ne _ _ (by omega)]; exact e⟩
    · obtain ⟨y, q', e, r⟩ := h5 j hj
      exact ⟨y, q', by rw [u1_ne _ _ (by omega)]; exact e, rel _ y q' _ (by omega) e r⟩
    · by_cases c : s' = s
      · subst c
        refine ⟨u, pu, u1_self _ _ _, r3.congr (fun q hq => ?_)⟩
        unfold sl cpO; rw [if_pos (by omega)]; exact congrArg _ (by omega)
      · obtain ⟨y, q', e, r⟩ := (s2 s' hs').1 (((hbit' s' hs').mp hb).resolve_right c)
        refine ⟨y, q', by rw [u1_ne _ _ (by omega)]; exact e, (rel _ y q' _ (by omega) e r).congr (fun q hq => ?_)⟩
        unfold sl cpO; rw [if_neg (by omega)]
    · have c : s' ≠ s := fun e => hb ((hbit' s' hs').mpr (Or.inr e))
      rw [u1_ne _ _ (by omega)]
      exact (s2 s' hs').2 (fun e => hb ((hbit' s' hs').mpr (Or.inl e)))
    · by_cases c : k = 12 + s
      · rw [c, u1_self] at e; cases e; exact Nat.le_trans zu fw.1.1
      · rw [u1_ne _ _ c] at e; exact Nat.le_trans (z2 k y e) f13.1
  have fx1 : Fix x M1 := fx.fr fr1 z1
  have w134 : gRn 5 134 x M1 = some w := gRn_ok fx1.1.1 (((fr1.2 x (by omega)).1.2.2 _).trans (p1.trans n1))
  have k4 : (mK M1 u = 4) = True := eq_true wu.1.1
  have i99 : gI 4 99 u M3 = some (nI m) := by rw [WI r3.1, r3.2.1.2.2.2]; exact congrArg some hc.2.2.2.1
  refine ⟨M3, b', ?_, cl3, hbit', (at3 (x + 60) (by omega) (by omega) (by unfold inW; omega)).2.1, (at3 x (by omega) (by omega) (by unfold inW; omega)).1 129, f13.1⟩
  rw [epre]
  simp only [fj_X4_save_31, w134, Option.bind_some, cK, k4, if_true, e3, i99]
end CG
