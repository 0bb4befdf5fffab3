/-! THE LAW'S STATE: the class's object at x, the law's number behind it -/
theorem nI_rem {a b : Nat} (ha : a < 2147483648) (hb2 : b < 2147483648) : nI a - nI a / nI b * nI b = nI (a % b) := by
  rw [nI_div ha hb2, nI_mul, nI_sub (Nat.div_mul_le_self a b)]
  have e := Nat.div_add_mod a b
  rw [Nat.mul_comm] at e
  exact congrArg nI (by omega)
theorem shr9 (y : Int32) : ∃ n, n < 8388608 ∧ (y.toUInt32 >>> ((9 : Int32).toUInt32 &&& Int32.toUInt32 31)).toInt32 = nI n := by
  have e9 : ((9 : Int32).toUInt32 &&& Int32.toUInt32 31) = 9 := by decide
  rw [e9]
  refine ⟨(y.toUInt32 >>> 9).toNat, ?_, ?_⟩
  · have h := UInt32.toNat_lt y.toUInt32
    rw [UInt32.toNat_shiftRight, show ((9 : UInt32).toNat % 32) = 9 from rfl, Nat.shiftRight_eq_div_pow]
    omega
  · apply Int32.toBitVec_inj.1
    show (y.toUInt32 >>> 9).toBitVec = BitVec.ofNat 32 _
    exact (BitVec.ofNat_toNat 32 _).symm ▸ (BitVec.setWidth_eq _).symm
/-- what the law's reads touch -/
def kpP (x a : Nat) : Prop := a = x + 60 ∨ a = x + 31 ∨ a = x + 33
theorem Fr.z {P : Nat → Prop} {M : Mem} {z : Nat} (h : mZ M ≤ z) : Fr P M (setZ M z) := ⟨h, fun _ _ => ⟨⟨rfl, rfl, fun _ => rfl⟩, fun _ => ⟨fun _ => rfl, rfl, rfl, rfl⟩⟩⟩
theorem CSim.fr {x : Nat} {M M' : Mem} (h : CSim x M M') : Fr (kpP x) M M' := by
  obtain ⟨a, b, rfl⟩ := h
  exact (Fr.wA (Or.inr (Or.inl rfl))).tr (Fr.wA (Or.inr (Or.inr rfl)))
theorem ClsZ.sim {x w : Nat} {p : Nat → Nat} {M M' : Mem} {g o : Nat → Int32} {h : Nat} {v : Nat → Int32} {b : Nat} (hc : ClsZ x w p M g o h v b) (f : Fr (kpP x) M M') : ClsZ x w p M' g o h v b := by
  obtain ⟨rt, ⟨c1, ⟨p1, p2, p3, p4⟩, ⟨q1, q2, q3⟩, ⟨n1, n2⟩, ⟨nx, h1, h2, h3, h4, h5⟩, ⟨s1, s2⟩⟩, z1, z2⟩ := hc
  have rel : ∀ k u q g, rt k = some u → RelP M u q g → RelP M' u q g := fun k u q g e r => r.fr (z2 k u e) f (fun i hi => by have pu := (q1 k u e).1; unfold Place at pu; unfold kpP; omega)
  have at27 := (f.2 (x + 27) (by omega)).2 (by unfold kpP; omega)
  refine ⟨rt, ⟨c1.fr f z1, ⟨by rw [(f.2 x (by omega)).1.2.2]; exact p1, by rw [(f.2 x (by omega)).1.2.2]; exact p2, fun i hi => by rw [((f.2 (x + 28) (by omega)).2 (by unfold kpP; omega)).2.2.1]; exact p3 i hi, fun i hi => by rw [((f.2 (x + 29) (by omega)).2 (by unfold kpP; omega)).2.2.1]; exact p4 i hi⟩, ⟨fun k u e => ⟨(q1 k u e).1, ?_⟩, q2, q3⟩, ⟨n1, rel 0 w p g n1 n2⟩, ⟨nx, h1, h2, by rw [at27.1]; exact h3, by rw [at27.1]; exact h4, fun j hj => ?_⟩, ⟨s1, fun s hs => ⟨fun hb => ?_, (s2 s hs).2⟩⟩⟩, Nat.le_trans z1 f.1, fun k u e => Nat.le_trans (z2 k u e) f.1⟩
  · obtain ⟨q, wq⟩ := (q1 k u e).2
    have pu := (q1 k u e).1
    have zu := z2 k u e
    unfold Place at pu
    exact ⟨q, wq.fr zu f ⟨((f.2 (u + 1) (by omega)).2 (by unfold kpP; omega)).2.2.1, ((f.2 (u + 2) (by omega)).2 (by unfold kpP; omega)).2.2.1⟩⟩
  · obtain ⟨u, q, e, r⟩ := h5 j hj; exact ⟨u, q, e, rel _ u q _ e r⟩
  · obtain ⟨u, q, e, r⟩ := (s2 s hs).1 hb; exact ⟨u, q, e, rel _ u q _ e r⟩
theorem ClsZ.congr {x w : Nat} {p : Nat → Nat} {M : Mem} {g o g' o' : Nat → Int32} {h : Nat} {v v' : Nat → Int32} {b : Nat} (hc : ClsZ x w p M g o h v b) (e1 : ∀ q, q < 1330 → g' q = g q) (e2 : ∀ q, q < 1330 * h → o' q = o q) (e3 : ∀ s q, bit b s → s < 2 → q < 1330 → v' (1330 * s + q) = v (1330 * s + q)) : ClsZ x w p M g' o' h v' b := by
  obtain ⟨rt, ⟨c1, c2, c3, ⟨n1, n2⟩, ⟨nx, h1, h2, h3, h4, h5⟩, ⟨s1, s2⟩⟩, z⟩ := hc
  refine ⟨rt, ⟨c1, c2, c3, ⟨n1, n2.congr e1⟩, ⟨nx, h1, h2, h3, h4, fun j hj => ?_⟩, ⟨s1, fun s hs => ⟨fun hb => ?_, (s2 s hs).2⟩⟩⟩, z⟩
  · obtain ⟨u, q, e, r⟩ := h5 j hj; exact ⟨u, q, e, r.congr (fun i hi => e2 _ (by omega))⟩
  · obtain ⟨u, q, e, r⟩ := (s2 s hs).1 hb; exact ⟨u, q, e, r.congr (fun i hi => e3 s i hb hs hi)⟩
def DD (n x R C Q m : Nat) (M : Mem) (g o : Nat → Int32) (h : Nat) (v : Nat → Int32) (b : Nat) : Prop := (∃ w p, ClsZ x w p M g o h v b) ∧ mI M 129 x = 0 ∧ Wk n R C Q m g ∧ (∀ j, j < h → ∃ m', Wk n R C Q m' (sl o j))
theorem nx_fin {x : Nat} {M W : Mem} {y : Int32} (f : Fr (kpP x) M W) : ∃ r M', r < 8388608 ∧ some ((y.toUInt32 >>> ((9 : Int32).toUInt32 &&& Int32.toUInt32 31)).toInt32, W) = some (nI r, M') ∧ Fr (kpP x) M M' := by
  obtain ⟨r, hr, er⟩ := shr9 y
  exact ⟨r, W, hr, by rw [er], f⟩
section DS
variable {n x R C Q m : Nat} {M M' : Mem} {g o : Nat → Int32} {h : Nat} {v : Nat → Int32} {b : Nat}
theorem DD.cx (hd : DD n x R C Q m M g o h v b) : ∃ w p, ClsZ x w p M g o h v b ∧ Cx x w p M g R C Q m n := by
  obtain ⟨⟨w, p, c⟩, _, k, _⟩ := hd
  exact ⟨w, p, c, cx_of c k.1 k.2.1⟩
theorem DD.z (hd : DD n x R C Q m M g o h v b) : x + 61 ≤ mZ M := by obtain ⟨⟨w, p, c⟩, _⟩ := hd; exact c.z1
theorem DD.fx (hd : DD n x R C Q m M g o h v b) : Fix x M := by obtain ⟨⟨w, p, rt, c, _⟩, _⟩ := hd; exact c.1
theorem DD.sim (hd : DD n x R C Q m M g o h v b) (f : Fr (kpP x) M M') : DD n x R C Q m M' g o h v b := by
  have hz := hd.z
  obtain ⟨⟨w, p, c⟩, i, k⟩ := hd
  exact ⟨⟨w, p, c.sim f⟩, by rw [(f.at (show x < mZ M by omega) (by unfold kpP; omega)).1]; exact i, k⟩
theorem DD.mono {l : Nat} (hd : DD n x R C Q m M g o h v b) (hl : n ≤ l) : DD l x R C Q m M g o h v b := ⟨hd.1, hd.2.1, hd.2.2.1.mono hl, fun j hj => (hd.2.2.2 j hj).imp fun _ k => k.mono hl⟩
/-- the state after a recorded change -/
theorem DD.step {w m' : Nat} {F : Option ((Int32 ⊕ Nat) × Mem)} {y : Int32} {g' : Nat → Int32} (hd : DD n x R C Q m M g o h v b) (c : Ch x w M g o h v b F y g') (k' : Wk (n + 1) R C Q m' g') : ∃ M1, F = some (.inl y, M1) ∧ DD (n + 1) x R C Q m' M1 g' (remO o h g) (remH h) v b := by
  obtain ⟨M1, p', e, cz, kp⟩ := c
  have h10 : h ≤ 10 := by obtain ⟨⟨w, p, c⟩, _⟩ := hd; exact c.h10
  obtain ⟨_, i, k, ks⟩ := hd
  refine ⟨M1, e, ⟨w, p', cz⟩, kp.2.1.trans i, k', fun j hj => ?_⟩
  by_cases q : j = remH h - 1
  · subst q; exact ⟨m, (k.mono (Nat.le_succ n)).congr (fun q hq => sl_rem_new h10 q hq)⟩
  · by_cases c10 : h = 10
    · subst c10
      have hj9 : j < 9 := by unfold remH at hj q; simp at hj q; omega
      obtain ⟨m', k'⟩ := ks (j + 1) (by omega)
      exact ⟨m', (k'.mono (Nat.le_succ n)).congr (fun q hq => sl_rem_sh hj9 q hq)⟩
    · have hjh : j < h := by unfold remH at hj q; rw [if_neg c10] at hj q; omega
      obtain ⟨m', k'⟩ := ks j hjh
      exact ⟨m', (k'.mono (Nat.le_succ n)).congr (fun q hq => sl_rem_old (by omega) hjh q hq)⟩
theorem remH_pos (h : Nat) : 1 ≤ remH h := by unfold remH; split <;> omega
theorem w_next (hd : DD n x R C Q m M g o h v b) : ∃ r M', r < 8388608 ∧ f_L_next (x + 60) M = some (nI r, M') ∧ Fr (kpP x) M M' := by
  have fx := hd.fx
  obtain ⟨p1, p2⟩ := fx.2.2.2.2.2.2
  have in0 : ¬ ((0 : Int32) < 0 ∨ 1 ≤ (0 : Int32).toNatClampNeg) := by decide
  have gA' : ∀ N : Mem, mK N (x + 60) = 9 → mN N (x + 60) = 1 → gA 9 (x + 60) 0 N = some (mA N (x + 60) 0) := fun N h1 h2 => by unfold gA; rw [h2, if_pos ⟨h1, in0⟩]; rfl
  have sA' : ∀ (N : Mem) (u : Int32), mK N (x + 60) = 9 → mN N (x + 60) = 1 → sA 9 (x + 60) 0 u N = some (wA N (x + 60) (u1 (mA N (x + 60)) 0 u)) := fun N u h1 h2 => by rw [sA_w, h2, if_pos ⟨h1, in0⟩, nar9]; rfl
  unfold f_L_next
  rw [gA' M p1 p2, Option.bind_some, sA' M _ p1 p2, Option.bind_some, gA' (wA M (x + 60) _) p1 p2, Option.bind_some, Option.bind_some, sA' (wA M (x + 60) _) _ p1 p2, Option.bind_some, wA_again, gA' (wA M (x + 60) _) p1 p2, Option.bind_some]
  exact nx_fin (Fr.wA (Or.inl rfl))
/-! calls that are refused -/
theorem bad4 (hR : R ≤ 4) : Bad 4 R := Or.inr (nI_le (b := 4) hR (by omega))
theorem setZ_fr {P : Nat → Prop} : Fr P M (setZ M (mZ M + 1)) := Fr.z (by omega)
theorem w_no (hd : DD n x R C Q m M g o h v b) :
    (∃ M', f_L_counted x 4 0 1 M = some (-99995, M') ∧ Fr (kpP x) M M') ∧ (∃ M', f_L_added x 0 16 M = some (-5, M') ∧ Fr (kpP x) M M') ∧ (∃ M', f_L_removed x 4 0 M = some (-5, M') ∧ Fr (kpP x) M M') ∧ (∃ M', f_L_written x (-1) 0 0 M = some (-5, M') ∧ Fr (kpP x) M M') ∧ (∃ M', f_L_merged x 0 4 M = some (-5, M') ∧ Fr (kpP x) M M') ∧ (∃ M', f_L_sent x 4 M = some (-5, M') ∧ Fr (kpP x) M M') ∧ (∃ M', f_L_delivered x 6 0 M = some (-5, M') ∧ Fr (kpP x) M M') ∧ (∃ M', f_L_dropped x 6 M = some (-5, M') ∧ Fr (kpP x) M M') := by
  obtain ⟨w, p, cz, hx⟩ := hd.cx
  have hR := hx.Rle
  have b4 : Bad 4 R := bad4 hR.2.1
  have b6 : Bad 6 m := Or.inr (nI_le (b := 6) (by omega) (by omega))
  have bm : Bad (-1) R := Or.inl (by decide)
  have b16 : Bad 16 16 := Or.inr (Int32.le_refl _)
  have s0 : f_X4_stateOf x 0 M = some (.inl (sto w p 0), M) := sta_ok hx (r := 0) (by omega)
  refine ⟨⟨_, ?_, setZ_fr⟩, ⟨_, ?_, setZ_fr⟩, ⟨_, ?_, setZ_fr⟩, ⟨_, ?_, setZ_fr⟩, ⟨_, ?_, setZ_fr⟩, ⟨_, ?_, setZ_fr⟩, ⟨_, ?_, setZ_fr⟩, ⟨_, ?_, setZ_fr⟩⟩
  · simp only [f_L_counted, f_X4_increment, f_X4_changeCounter, cK, hx.k5, if_true, if_false, bq, bn, bx, Option.bind_some, Option.map_some, eq_self, reduceIte, sta_no hx b4]
  · simp only [f_L_added, f_X4_addTag, cK, hx.k5, if_true, if_false, bq, bn, bx, Option.bind_some, Option.map_some, eq_self, reduceIte, s0, tagc_no b16]
  · simp only [f_L_removed, f_X4_removeTag, cK, hx.k5, if_true, if_false, bq, bn, bx, Option.bind_some, Option.map_some, eq_self, reduceIte, sta_no hx b4]
  · simp only [f_L_written, f_X4_write, cK, hx.k5, if_true, if_false, bq, bn, bx, Option.bind_some, Option.map_some, eq_self, reduceIte, sta_no hx bm]
  · simp only [f_L_merged, f_X4_merge, cK, hx.k5, if_true, if_false, bq, bn, bx, Option.bind_some, Option.map_some, eq_self, reduceIte, s0, sta_no hx b4]
  · simp only [f_L_sent, f_X4_send, cK, hx.k5, if_true, if_false, bq, bn, bx, Option.bind_some, Option.map_some, eq_self, reduceIte, rep_no hx b4]
  · simp only [f_L_delivered, f_X4_deliver, cK, hx.k5, if_true, if_false, bq, bn, bx, Option.bind_some, Option.map_some, eq_self, reduceIte, mes_no hx b6]
  · simp only [f_L_dropped, f_X4_drop, cK, hx.k5, if_true, if_false, bq, bn, bx, Option.bind_some, Option.map_some, eq_self, reduceIte, mes_no hx b6]
/-! the wrappers, where the call is done -/
theorem fr_cs {M1 : Mem} (f : Fr (kpP x) M M1) (c : CSim x M1 M') : Fr (kpP x) M M' := f.tr c.fr
theorem w_add (hd : DD n x R C Q m M g o h v b) (hn : n < 100000) {r s : Nat} (hr : r < R) (hs : s < 16) : ∃ M', f_L_added x (nI r) (nI s) M = some (row g r r + 1, M') ∧ DD (n + 1) x R C Q m M' (put g r (newN (row g r) (36 + 4 * s) r 0 4)) (remO o h g) (remH h) v b := by
  obtain ⟨w, p, cz, hx⟩ := hd.cx
  obtain ⟨M1, e, d1⟩ := hd.step (h_add cz hx hr hs) (hd.2.2.1.new hn hr (Or.inl ⟨s, hs, rfl⟩) (by decide) (by decide))
  exact ⟨M1, by simp only [f_L_added, cK, hx.k5, if_true, if_false, bq, bn, bx, Option.bind_some, Option.map_some, eq_self, reduceIte, e], d1⟩
end DS
