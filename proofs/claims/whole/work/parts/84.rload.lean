/-! THE REFERENCE'S LOAD -/
def RLd (x : Nat) (N N' : Mem) : Prop := mK N' = mK N ∧ mN N' = mN N ∧ mR N' = mR N ∧ (∀ a, a ≠ x + 62 → a ≠ x + 63 → mA N' a = mA N a) ∧ mB N' = mB N ∧ mL N' = mL N ∧ mZ N' = mZ N ∧ ∀ f a, ¬ (a = x + 60 ∧ (f = 161 ∨ f = 165 ∨ f = 167 ∨ f = 169 ∨ f = 172 ∨ f = 173 ∨ 174 ≤ f)) → mI N' f a = mI N f a
theorem RLd.refl {x : Nat} {N : Mem} : RLd x N N := ⟨rfl, rfl, rfl, fun _ _ _ => rfl, rfl, rfl, rfl, fun _ _ _ => rfl⟩
theorem RLd.wI {x : Nat} {N : Mem} {f : Nat} {v : Int32} (h : f = 161 ∨ f = 165 ∨ f = 167 ∨ f = 169 ∨ f = 172 ∨ f = 173 ∨ 174 ≤ f) : RLd x N (wI N f (x + 60) v) := ⟨rfl, rfl, rfl, fun _ _ _ => rfl, rfl, rfl, rfl, fun g a hn => by rw [mI_wI, if_neg (fun e => hn ⟨e.2, by rw [e.1]; exact h⟩)]⟩
theorem RLd.now {x : Nat} {N : Mem} {f : GF} : RLd x N (wA N (x + 62) f) := ⟨rfl, rfl, rfl, fun a h _ => mA_ne h, rfl, rfl, rfl, fun g a hn => rfl⟩
theorem RLd.asd {x : Nat} {N : Mem} {f : GF} : RLd x N (wA N (x + 63) f) := ⟨rfl, rfl, rfl, fun a _ h => mA_ne h, rfl, rfl, rfl, fun g a hn => rfl⟩
def RH (x : Nat) (N N' : Mem) : Prop := mK N' = mK N ∧ mN N' = mN N ∧ mR N' = mR N ∧ (∀ a, a ≠ x + 62 → mA N' a = mA N a) ∧ mB N' = mB N ∧ mL N' = mL N ∧ mZ N' = mZ N ∧ ∀ f a, ¬ (a = x + 60 ∧ 174 ≤ f) → mI N' f a = mI N f a
theorem RH.wI {x : Nat} {N : Mem} {f : Nat} {v : Int32} (h : 174 ≤ f) : RH x N (wI N f (x + 60) v) := ⟨rfl, rfl, rfl, fun _ _ => rfl, rfl, rfl, rfl, fun g a hn => by rw [mI_wI, if_neg (fun e => hn ⟨e.2, by rw [e.1]; exact h⟩)]⟩
theorem RH.now {x : Nat} {N : Mem} {f : GF} : RH x N (wA N (x + 62) f) := ⟨rfl, rfl, rfl, fun a h => mA_ne h, rfl, rfl, rfl, fun g a hn => rfl⟩
theorem RF.rh {x : Nat} {N N' : Mem} (h : RF x N N') : RH x N N' := by
  obtain ⟨a1, a2, a3, a4, a5, a6, a7, a8⟩ := h
  exact ⟨a1, a2, a3, a4, a5, a6, a7, fun f a hn => a8 f a (fun e => hn ⟨e.1, by omega⟩)⟩
theorem RH.trans {x : Nat} {N N' N2 : Mem} (h : RH x N N') (k : RH x N' N2) : RH x N N2 := by
  obtain ⟨a1, a2, a3, a4, a5, a6, a7, a8⟩ := h
  obtain ⟨b1, b2, b3, b4, b5, b6, b7, b8⟩ := k
  exact ⟨b1.trans a1, b2.trans a2, b3.trans a3, fun a h => (b4 a h).trans (a4 a h), b5.trans a5, b6.trans a6, b7.trans a7, fun f a h => (b8 f a h).trans (a8 f a h)⟩
theorem RH.rl {x : Nat} {N N' : Mem} (h : RH x N N') : RLd x N N' := by
  obtain ⟨a1, a2, a3, a4, a5, a6, a7, a8⟩ := h
  exact ⟨a1, a2, a3, fun a h _ => a4 a h, a5, a6, a7, fun f a hn => a8 f a (fun e => hn ⟨e.1, by omega⟩)⟩
theorem RLd.trans {x : Nat} {N N' N2 : Mem} (h : RLd x N N') (k : RLd x N' N2) : RLd x N N2 := by
  obtain ⟨a1, a2, a3, a4, a5, a6, a7, a8⟩ := h
  obtain ⟨b1, b2, b3, b4, b5, b6, b7, b8⟩ := k
  exact ⟨b1.trans a1, b2.trans a2, b3.trans a3, fun a h h' => (b4 a h h').trans (a4 a h h'), b5.trans a5, b6.trans a6, b7.trans a7, fun f a h => (b8 f a h).trans (a8 f a h)⟩
theorem Fix.rl {x : Nat} {N N' : Mem} (h : Fix x N) (k : RLd x N N') : Fix x N' := h.same (fun i _ => ⟨by rw [k.1], by rw [k.2.1]⟩) (fun f i _ _ _ => by rw [k.2.2.1])
def zr (g : GF) (n : Nat) : GF := fun q => if q < n then 0 else g q
theorem zr_step (g : GF) (n : Nat) : u1 (zr g n) n (nI 0) = zr g (n + 1) := by
  funext q; unfold u1 zr
  by_cases e : q = n
  · rw [if_pos e, if_pos (by omega)]; rfl
  · rw [if_neg e]; by_cases e2 : q < n
    · rw [if_pos e2, if_pos (by omega)]
    · rw [if_neg e2, if_neg (by omega)]
theorem zr_0 (g : GF) : zr g 0 = g := funext fun q => if_neg (by omega)
theorem zr_lo {g : GF} {q : Nat} (h : q < 1330) : zr g 1330 q = 0 := if_pos h
theorem hdG_eq (z : GF) (a b d : Int32) : u1 (u1 (u1 z 0 a) 1 b) 2 d = hdG z a b d := by
  funext q; unfold u1 hdG
  by_cases e0 : q = 0
  · rw [if_neg (by omega), if_neg (by omega), if_pos e0, if_pos e0]
  · by_cases e1 : q = 1
    · rw [if_neg (by omega), if_pos e1, if_neg e0, if_pos e1]
    · by_cases e2 : q = 2
      · rw [if_pos e2, if_neg e0, if_neg e1, if_pos e2]
      · rw [if_neg e2, if_neg e1, if_neg e0, if_neg e0, if_neg e1, if_neg e2]
section RLS
variable {x L : Nat} {c : GF} {N : Mem} {g : GF}
theorem RG.sw {q : Cur} (h : RG x L c N g q) {i : Nat} (hi : i < 1594) {v : Int32} : sA 9 (x + 62) (nI i) v N = some (wA N (x + 62) (u1 g i v)) := by rw [h.1.sw hi, h.2.2.2.2]
/-- a take in the first line: a number, or an error that stays -/
theorem hd_take {q : Cur} (h : RG x L c N g q) {K : Mem → Option Mem} {sp : Int32 → ER ⊕ GF} {lo hi : Int32} {i : Nat} (hi5 : i < 3)
    (hk : ∀ v N', numR c L q lo hi = .inr v → RG x L c N' (u1 g i v) (uN c L q) → ∃ N2, K N' = some N2 ∧ RF x N' N2 ∧ OutS x L c N2 (sp v))
    (hf : ∀ N' k o, RE x L c N' k o → ∃ N2, K N' = some N2 ∧ RF x N' N2 ∧ RE x L c N2 k o) : ∃ N2, (bn (cK 6 (x + 60) N (f_X5_takesNumber (x + 60) lo hi N)) fun v M => (sA 9 (x + 62) (nI i) v M).bind K) = some N2 ∧ RF x N N2 ∧ OutS x L c N2 (sb (numR c L q lo hi) sp) := by
  obtain ⟨v, N1, e1, e2, e3, e4⟩ := r_take h (lo := lo) (hi := hi)
  rw [cK_ok h.1.k6, e1, bn_some]
  cases hn : numR c L q lo hi with
  | inl e =>
    obtain ⟨k, o⟩ := e
    obtain ⟨N1', s1, s2, s3⟩ := (e3 k o hn).sw (i := i) (by omega) (v := v)
    obtain ⟨N2, y1, y2, y3⟩ := hf N1' k o s3
    exact ⟨N2, by rw [s1]; exact y1, (e2.trans s2).trans y2, OutS.er y3⟩
  | inr u =>
    obtain ⟨rfl, d⟩ := e4 u hn
    obtain ⟨y1, y2⟩ := d.put (g' := u1 g i u)
    obtain ⟨N2, k1, k2, k3⟩ := hk u _ hn y2
    exact ⟨N2, by rw [d.sw (by omega)]; exact k1, (e2.trans y1).trans k2, k3⟩
theorem r_66 {z : GF} (hz : ∀ q, q < 1330 → z q = 0) (hw : isW c L 1 cur0) (h : RG x L c N z (uN c L cur0)) : ∃ N2, fj_X5_readsText_66 (x + 60) N = some N2 ∧ RF x N N2 ∧ OutS x L c N2 (textR c L z) := by
  have L6 := h.1.2.2.1
  have key : ∃ N2, fj_X5_readsText_66 (x + 60) N = some N2 ∧ RF x N N2 ∧ OutS x L c N2 (sb (numR c L (uN c L cur0) 1 4) fun a => sb (numR c L (uN c L (uN c L cur0)) 0 4) fun b => sb (numR c L (uN c L (uN c L (uN c L cur0))) 0 4) fun d => linesR c L (L + 1) (hdG z a b d) (uN c L (uN c L (uN c L (uN c L cur0))))) := by
    unfold fj_X5_readsText_66
    rw [h.1.r162, Option.bind_some]
    refine hd_take h (i := 0) (by omega) (fun a N1 n1 h1 => ?_) (fun N1 k o he => ?_)
    · rw [h1.1.r162, Option.bind_some]
      refine hd_take h1 (i := 1) (by omega) (fun b N2 n2 h2 => ?_) (fun N2 k o he => ?_)
      · rw [h2.1.r162, Option.bind_some]
        refine hd_take h2 (i := 2) (by omega) (fun d N3 n3 h3 => ?_) (fun N3 k o he => ?_)
        · rw [hdG_eq] at h3
          have hh : headR c L z = .inr (hdG z a b d, uN c L (uN c L (uN c L (uN c L cur0)))) := by
            unfold headR; rw [cif_t hw, n1]; show sb (numR c L (uN c L (uN c L cur0)) 0 4) _ = _; rw [n2]; show sb (numR c L (uN c L (uN c L (uN c L cur0))) 0 4) _ = _; rw [n3]; rfl
          have wf := headR_wf hz hh
          exact r_loop (L + 1) (fuel := FU) h3 wf.1 (by omega) (by omega) (FUn (by omega))
        · exact ⟨N3, he.lp (FUn (by decide)), RF.refl, he⟩
      · obtain ⟨N3, s1, s2, s3⟩ := he.sw (i := 2) (by omega) (v := 0)
        have s1' : sA 9 (x + 62) 2 0 N2 = some N3 := s1
        exact ⟨N3, by rw [he.1.r162, Option.bind_some, cK_ok he.1.k6, he.take, bn_some, s1', Option.bind_some]; exact s3.lp (FUn (by decide)), s2, s3⟩
    · obtain ⟨N2, s1, s2, s3⟩ := he.sw (i := 1) (by omega) (v := 0)
      obtain ⟨N3, t1, t2, t3⟩ := s3.sw (i := 2) (by omega) (v := 0)
      have s1' : sA 9 (x + 62) 1 0 N1 = some N2 := s1
      have t1' : sA 9 (x + 62) 2 0 N2 = some N3 := t1
      exact ⟨N3, by rw [he.1.r162, Option.bind_some, cK_ok he.1.k6, he.take, bn_some, s1', Option.bind_some, s3.1.r162, Option.bind_some, cK_ok s3.1.k6, s3.take, bn_some, t1', Option.bind_some]; exact t3.lp (FUn (by decide)), s2.trans t2, t3⟩
  have et : textR c L z = (sb (numR c L (uN c L cur0) 1 4) fun a => sb (numR c L (uN c L (uN c L cur0)) 0 4) fun b => sb (numR c L (uN c L (uN c L (uN c L cur0))) 0 4) fun d => linesR c L (L + 1) (hdG z a b d) (uN c L (uN c L (uN c L (uN c L cur0))))) := by
    unfold textR headR
    rw [cif_t hw]
    cases numR c L (uN c L cur0) 1 4 with
    | inl e => rfl
    | inr a =>
      show sb (sb (numR c L (uN c L (uN c L cur0)) 0 4) _) _ = sb (numR c L (uN c L (uN c L cur0)) 0 4) _
      cases numR c L (uN c L (uN c L cur0)) 0 4 with
      | inl e => rfl
      | inr b =>
        show sb (sb (numR c L (uN c L (uN c L (uN c L cur0))) 0 4) _) _ = sb (numR c L (uN c L (uN c L (uN c L cur0))) 0 4) _
        cases numR c L (uN c L (uN c L (uN c L cur0))) 0 4 <;> rfl
  rw [et]
  exact key
/-- what a read of a text begins with -/
def RB1 (x L : Nat) (c : GF) (N : Mem) : Prop := Fix x N ∧ L ≤ 600 ∧ (∀ i, i < L → mA N (x + 66) i = bq (c i) ∧ 0 ≤ (c i).toInt ∧ (c i).toInt ≤ 255) ∧ ∀ i, i < 72 → mA N (x + 61) i = keyF i
theorem RB1.rl (h : RB1 x L c N) {N' : Mem} (k : RLd x N N') : RB1 x L c N' := ⟨h.1.rl k, h.2.1, by rw [k.2.2.2.1 _ (by omega) (by omega)]; exact h.2.2.1, by rw [k.2.2.2.1 _ (by omega) (by omega)]; exact h.2.2.2⟩
theorem r_22 (h : RB1 x L c N) {z : GF} (hz : ∀ q, q < 1330 → z q = 0) (e : mA N (x + 62) = z) : ∃ N2, fj_X5_readsText_22 (x + 60) (nI L) N = some N2 ∧ RH x N N2 ∧ OutS x L c N2 (textR c L z) := by
  let M4 := wI (wI (wI (wI N 174 (x + 60) (nI L)) 179 (x + 60) 0) 175 (x + 60) 0) 177 (x + 60) 0
  have r4 : RH x N M4 := (((RH.wI (by omega)).trans (RH.wI (by omega))).trans (RH.wI (by omega))).trans (RH.wI (by omega))
  have eI : ∀ f, mI M4 f (x + 60) = if f = 177 then 0 else if f = 175 then 0 else if f = 179 then 0 else if f = 174 then nI L else mI N f (x + 60) := fun f => by
    show mI (wI (wI (wI (wI N 174 (x + 60) (nI L)) 179 (x + 60) 0) 175 (x + 60) 0) 177 (x + 60) 0) f (x + 60) = _
    simp only [mI_wI, and_true]
  have h4 := h.rl r4.rl
  have b4 : RB0 x L c M4 := ⟨h4.1, by rw [eI]; rfl, h.2.1, h4.2.2.1, h4.2.2.2⟩
  obtain ⟨N1, a1, a2, a3⟩ := r_next b4 (ty := 0) (en := 0) (Nat.zero_le _) (by rw [eI]; rfl) (by rw [eI]; rfl)
  have h1 : RG x L c N1 z cur0 := ⟨b4.ri a2, Nat.zero_le _, a3, by rw [a2.2.2.2.2.2.2.2 _ _ (by omega), eI]; rfl, by rw [a2.2.2.2.1]; exact e⟩
  have kk := (b4.k6 : mK N (x + 60) = 6)
  have st : fj_X5_readsText_22 (x + 60) (nI L) N = bn (cK 6 (x + 60) N1 (f_X5_isKey (x + 60) 0 N1)) fun v7 M8 => (if v7 = 0 then (cK 6 (x + 60) M8 (f_X5_errs (x + 60) 1 M8)).bind fun M10 => fj_X5_readsText_66 (x + 60) M10 else (cK 6 (x + 60) M8 (f_X5_next (x + 60) M8)).bind fun M33 => fj_X5_readsText_66 (x + 60) M33) := by
    unfold fj_X5_readsText_22
    have s : ∀ (M : Mem) f v, mK M (x + 60) = 6 → sI 6 f (x + 60) v M = some (wI M f (x + 60) v) := fun M f v k => by rw [sI_w, if_pos k]
    rw [s N 174 (nI L) kk, Option.bind_some, s (wI N 174 (x + 60) (nI L)) 179 0 kk, Option.bind_some, s (wI (wI N 174 (x + 60) (nI L)) 179 (x + 60) 0) 175 0 kk, Option.bind_some, s (wI (wI (wI N 174 (x + 60) (nI L)) 179 (x + 60) 0) 175 (x + 60) 0) 177 0 kk, Option.bind_some, cK_ok b4.k6, a1, Option.bind_some]
  have W : f_X5_isKey (x + 60) 0 N1 = some (b01 (isW c L 1 cur0), N1) := r_isKey h1 (i := 0) (by omega)
  rw [st, cK_ok h1.1.k6, W, bn_some]
  by_cases hw : isW c L 1 cur0
  · rw [b01_t hw, if_neg (by decide)]
    obtain ⟨N2, n1, n2, n3⟩ := h1.next
    obtain ⟨N3, y1, y2, y3⟩ := r_66 hz hw n3
    exact ⟨N3, by rw [cK_ok h1.1.k6, n1, Option.bind_some]; exact y1, ((r4.trans a2.rf.rh).trans n2.rh).trans y2.rh, y3⟩
  · rw [b01_f hw, if_pos rfl]
    obtain ⟨N2, n1, n2, n3⟩ := h1.err (k := 1) (by decide)
    obtain ⟨N3, y1, y2, y3⟩ := n3.t66
    refine ⟨N3, by rw [cK_ok h1.1.k6, n1, Option.bind_some]; exact y1, ((r4.trans a2.rf.rh).trans n2.rh).trans y2.rh, ?_⟩
    have : textR c L z = .inl (1, uS c L cur0) := by unfold textR headR; rw [cif_f hw]; rfl
    rw [this]
    exact OutS.er y3
theorem r_text (h : RB1 x L c N) : ∃ N2, f_X5_readsText (x + 60) (nI L) N = some N2 ∧ RH x N N2 ∧ OutS x L c N2 (textR c L (zr (mA N (x + 62)) 1330)) := by
  have hR := h.1.rn
  obtain ⟨h1, h2, h3, h4⟩ := hR
  have b := (h.rl (RH.now (f := zr (mA N (x + 62)) 1330)).rl)
  obtain ⟨N2, y1, y2, y3⟩ := r_22 b (z := zr (mA N (x + 62)) 1330) (fun q hq => zr_lo hq) (wA_self _ _ _)
  refine ⟨N2, ?_, RH.now.trans y2, y3⟩
  unfold f_X5_readsText fj_X5_readsText_2
  refine loopM_run (st := fun n => (nI n, wA N (x + 62) (zr (mA N (x + 62)) n))) (N := 1330) ?_ (fun n hn => ?_) ?_ (FUn (by decide))
  · show _ = (nI 0, wA N (x + 62) (zr (mA N (x + 62)) 0))
    rw [zr_0, wA_id]; rfl
  · simp (disch := omega) only [fc_X5_readsText_2, h1, h2, h3, h4, gI, gR, gRn, sI_w, sR_w, gA, sA_w, gB, gBn, sBn_w, sB0_w, gL, sL_w, cK, bn, Option.bind_some, Option.map_some, nar9, inT, wA_self, wA_again, wB_self, wB_again, wL_self, wL_again, u1_self, nI_add, nI_mul, nI_sub, nI_div, nI_leT, nI_leF, nI_ltT, nI_ltF, nI_eqT, nI_eqF, nI_neg, nI_cl, lit_nI, nI_nlt0, if_true, if_false, if_pos, if_neg, true_and, and_true, not_false_eq_true, or_self, or_false, false_or, reduceIte, and_self, not_true_eq_false, ne_eq, mK_wI, mN_wI, mR_wI, mA_wI, mB_wI, mL_wI, mZ_wI, mK_wA, mN_wA, mI_wA, mR_wA, mB_wA, mL_wA, mZ_wA, mK_wB, mN_wB, mI_wB, mR_wB, mA_wB, mL_wB, mZ_wB, mK_wR, mN_wR, mI_wR, mA_wR, mB_wR, mL_wR, mZ_wR, mK_wL, mN_wL, mI_wL, mR_wL, mA_wL, mB_wL, mZ_wL, zr_step]
  · have e : (1330 : Int32) ≤ nI 1330 := Int32.le_refl _
    simp only [fc_X5_readsText_2, e, if_true]
    rw [y1]
theorem cpN_lo {g o : GF} {s n q : Nat} (h : q < n) : cpN g o s n q = o (1330 * s + q) := if_pos h
theorem Fix.k63 {M : Mem} (h : Fix x M) : mR M 163 (x + 60) = some (x + 63) ∧ mK M (x + 63) = 9 ∧ mN M (x + 63) = 1330 := ⟨h.2.2.2.2.2.2.1.2.2.2.1, h.2.2.2.2.2.2.2.1.2.2.1.1, h.2.2.2.2.2.2.2.1.2.2.1.2⟩
theorem u1_cpN (g o : GF) (n : Nat) : u1 (cpN g o 0 n) n (o n) = cpN g o 0 (n + 1) := by
  have := cpN_step g o 0 n
  rwa [show 0 * 1330 + n = n by omega] at this
theorem r_load (h : RB1 x L c N) {len : Nat} (e169 : mI N 169 (x + 60) = nI len) (hL : L ≤ len) (h600 : len ≤ 600) : ∃ v N2, f_X5_load (x + 60) (nI L) N = some (v, N2) ∧ RLd x N N2 ∧ mI N2 169 (x + 60) = 0 ∧
    (∀ k o, textR c L (zr (mA N (x + 62)) 1330) = .inl (k, o) → k ≠ 0 ∧ mI N2 172 (x + 60) = k ∧ mI N2 173 (x + 60) = nI o ∧ mI N2 161 (x + 60) = 2 ∧ mI N2 165 (x + 60) = mI N 165 (x + 60) ∧ mI N2 167 (x + 60) = mI N 167 (x + 60) ∧ ∀ q, q < 1330 → mA N2 (x + 62) q = mA N (x + 62) q) ∧
    (∀ g', textR c L (zr (mA N (x + 62)) 1330) = .inr g' → v = g' 0 ∧ mI N2 172 (x + 60) = 0 ∧ mI N2 173 (x + 60) = -1 ∧ mI N2 161 (x + 60) = 0 ∧ mI N2 165 (x + 60) = 0 ∧ mI N2 167 (x + 60) = 0 ∧ mA N2 (x + 62) = g') := by
  have fx := h.1
  obtain ⟨h1, h2, h3, h4⟩ := fx.rn
  obtain ⟨k1, k2, k3⟩ := fx.k63
  have ne : x + 63 ≠ x + 62 := by omega
  let M1 := wA N (x + 63) (cpN (mA N (x + 63)) (mA N (x + 62)) 0 1330)
  have r1 : RLd x N M1 := RLd.asd
  obtain ⟨N3, t1, t2, t3⟩ := r_text (h.rl r1)
  have e62 : mA M1 (x + 62) = mA N (x + 62) := mA_ne (M := N) (by omega)
  rw [e62] at t3
  have fx3 : Fix x N3 := (fx.rl r1).rl t2.rl
  have a63 : mA N3 (x + 63) = cpN (mA N (x + 63)) (mA N (x + 62)) 0 1330 := by rw [t2.2.2.2.1 _ (by omega)]; exact wA_self _ _ _
  have i3 : ∀ f, f < 174 → mI N3 f (x + 60) = mI N f (x + 60) := fun f hf => t2.2.2.2.2.2.2.2 f _ (by omega)
  have top : f_X5_load (x + 60) (nI L) N = fj_X5_load_45 (x + 60) (nI L) M1 := by
    have inr : f_X5_in (nI L) 0 (nI len) N = some (1, N) := by
      rw [in_b01, b01_t ⟨Int32.not_lt.mp (nI_pos (by omega)), nI_le hL (by omega)⟩]
    have g169 : gI 6 169 (x + 60) N = some (nI len) := by unfold gI; rw [if_pos h1, e169]
    have lp : fj_X5_load_20 (x + 60) (nI L) 0 N = fj_X5_load_45 (x + 60) (nI L) M1 := by
      unfold fj_X5_load_20
      refine loopM_run (st := fun n => (nI n, wA N (x + 63) (cpN (mA N (x + 63)) (mA N (x + 62)) 0 n))) (N := 1330) ?_ (fun n hn => ?_) ?_ (FUn (by decide))
      · show _ = (nI 0, wA N (x + 63) (cpN (mA N (x + 63)) (mA N (x + 62)) 0 0))
        rw [cpN_0, wA_id]; rfl
      · have e1 : mA (wA N (x + 63) (cpN (mA N (x + 63)) (mA N (x + 62)) 0 n)) (x + 62) = mA N (x + 62) := mA_ne (by omega)
        have e2 : u1 (cpN (mA N (x + 63)) (mA N (x + 62)) 0 n) n (mA N (x + 62) n) = cpN (mA N (x + 63)) (mA N (x + 62)) 0 (n + 1) := u1_cpN _ _ _
        simp (disch := omega) only [fc_X5_load_20, h1, h2, h3, h4, k1, k2, k3, e1, gI, gR, gRn, sI_w, sR_w, gA, sA_w, gB, gBn, sBn_w, sB0_w, gL, sL_w, cK, bn, Option.bind_some, Option.map_some, nar9, inT, wA_self, wA_again, wB_self, wB_again, wL_self, wL_again, u1_self, nI_add, nI_mul, nI_sub, nI_div, nI_leT, nI_leF, nI_ltT, nI_ltF, nI_eqT, nI_eqF, nI_neg, nI_cl, lit_nI, nI_nlt0, if_true, if_false, if_pos, if_neg, true_and, and_true, not_false_eq_true, or_self, or_false, false_or, reduceIte, and_self, not_true_eq_false, ne_eq, mK_wI, mN_wI, mR_wI, mA_wI, mB_wI, mL_wI, mZ_wI, mK_wA, mN_wA, mI_wA, mR_wA, mB_wA, mL_wA, mZ_wA, mK_wB, mN_wB, mI_wB, mR_wB, mA_wB, mL_wB, mZ_wB, mK_wR, mN_wR, mI_wR, mA_wR, mB_wR, mL_wR, mZ_wR, mK_wL, mN_wL, mI_wL, mR_wL, mA_wL, mB_wL, mZ_wL, e2]
      · have e : (1330 : Int32) ≤ nI 1330 := Int32.le_refl _
        simp only [fc_X5_load_20, e, if_true]
        cases fj_X5_load_45 (x + 60) (nI L) (wA N (x + 63) (cpN (mA N (x + 63)) (mA N (x + 62)) 0 1330)) <;> rfl
    simp only [f_X5_load, g169, Option.bind_some, inr, bn, e10, if_false, lp]
  have si : ∀ (M : Mem) f v, mK M (x + 60) = 6 → sI 6 f (x + 60) v M = some (wI M f (x + 60) v) := fun M f v k => by rw [sI_w, if_pos k]
  have gi : ∀ (M : Mem) f, mK M (x + 60) = 6 → gI 6 f (x + 60) M = some (mI M f (x + 60)) := fun M f k => by unfold gI; rw [if_pos k]
  have n1 : mK M1 (x + 60) = 6 := h1
  have n3 : mK N3 (x + 60) = 6 := fx3.rn.1
  cases ho : textR c L (zr (mA N (x + 62)) 1330) with
  | inl e =>
    obtain ⟨k, o⟩ := e
    obtain ⟨c1, c2, c3, c4⟩ := t3.1 k o ho
    let M8 := wI (wI N3 169 (x + 60) 0) 172 (x + 60) k
    let M11 := wI M8 173 (x + 60) (nI o)
    let M12 := wA (wI M11 161 (x + 60) 2) (x + 62) (cpN (mA N3 (x + 62)) (mA N3 (x + 63)) 0 1330)
    have eI : ∀ f, mI M12 f (x + 60) = if f = 161 then 2 else if f = 173 then nI o else if f = 172 then k else if f = 169 then 0 else mI N3 f (x + 60) := fun f => by
      show mI (wI (wI (wI (wI N3 169 (x + 60) 0) 172 (x + 60) k) 173 (x + 60) (nI o)) 161 (x + 60) 2) f (x + 60) = _
      simp only [mI_wI, and_true]
    have rr : RLd x N M12 := ((((r1.trans t2.rl).trans (RLd.wI (by omega))).trans (RLd.wI (by omega))).trans (RLd.wI (by omega))).trans ((RLd.wI (by omega)).trans RLd.now)
    have lp : fj_X5_load_91 (x + 60) 0 M11 = some (0, M12) := by
      obtain ⟨p1, p2, p3, p4⟩ := fx3.rn
      obtain ⟨q1, q2, q3⟩ := fx3.k63
      have p1' : mK M11 (x + 60) = 6 := p1
      have p2' : mR M11 162 (x + 60) = some (x + 62) := p2
      have p3' : mK M11 (x + 62) = 9 := p3
      have p4' : mN M11 (x + 62) = 1594 := p4
      have q1' : mR M11 163 (x + 60) = some (x + 63) := q1
      have q2' : mK M11 (x + 63) = 9 := q2
      have q3' : mN M11 (x + 63) = 1330 := q3
      have a62 : mA M11 (x + 62) = mA N3 (x + 62) := rfl
      have a63' : mA M11 (x + 63) = mA N3 (x + 63) := rfl
      unfold fj_X5_load_91
      refine loopM_run (st := fun n => (nI n, wA M11 (x + 62) (cpN (mA N3 (x + 62)) (mA N3 (x + 63)) 0 n))) (N := 1330) ?_ (fun n hn => ?_) ?_ (FUn (by decide))
      · show _ = (nI 0, wA M11 (x + 62) (cpN (mA N3 (x + 62)) (mA N3 (x + 63)) 0 0))
        rw [cpN_0, ← a62, wA_id]; rfl
      · have e1 : mA (wA M11 (x + 62) (cpN (mA N3 (x + 62)) (mA N3 (x + 63)) 0 n)) (x + 63) = mA N3 (x + 63) := mA_ne (by omega)
        have e2 : u1 (cpN (mA N3 (x + 62)) (mA N3 (x + 63)) 0 n) n (mA N3 (x + 63) n) = cpN (mA N3 (x + 62)) (mA N3 (x + 63)) 0 (n + 1) := u1_cpN _ _ _
        simp (disch := omega) only [fc_X5_load_91, p1', p2', p3', p4', q1', q2', q3', e1, gI, gR, gRn, sI_w, sR_w, gA, sA_w, gB, gBn, sBn_w, sB0_w, gL, sL_w, cK, bn, Option.bind_some, Option.map_some, nar9, inT, wA_self, wA_again, wB_self, wB_again, wL_self, wL_again, u1_self, nI_add, nI_mul, nI_sub, nI_div, nI_leT, nI_leF, nI_ltT, nI_ltF, nI_eqT, nI_eqF, nI_neg, nI_cl, lit_nI, nI_nlt0, if_true, if_false, if_pos, if_neg, true_and, and_true, not_false_eq_true, or_self, or_false, false_or, reduceIte, and_self, not_true_eq_false, ne_eq, mK_wI, mN_wI, mR_wI, mA_wI, mB_wI, mL_wI, mZ_wI, mK_wA, mN_wA, mI_wA, mR_wA, mB_wA, mL_wA, mZ_wA, mK_wB, mN_wB, mI_wB, mR_wB, mA_wB, mL_wB, mZ_wB, mK_wR, mN_wR, mI_wR, mA_wR, mB_wR, mL_wR, mZ_wR, mK_wL, mN_wL, mI_wL, mR_wL, mA_wL, mB_wL, mZ_wL, e2]
      · have e : (1330 : Int32) ≤ nI 1330 := Int32.le_refl _
        have ref : f_X5_refuse (x + 60) 2 (wA M11 (x + 62) (cpN (mA N3 (x + 62)) (mA N3 (x + 63)) 0 1330)) = some (0, M12) := refuse_eq (M := M11) ⟨p1', p2', p3', p4'⟩
        simp only [fc_X5_load_91, fj_X5_load_116, e, if_true]
        rw [cK_ok (show mK (wA M11 (x + 62) (cpN (mA N3 (x + 62)) (mA N3 (x + 63)) 0 1330)) (x + 60) = 6 from p1'), ref]
        rfl
    refine ⟨0, M12, ?_, rr, by rw [eI]; rfl, fun k' o' e => ?_, fun g' e => by cases e⟩
    · rw [top]
      unfold fj_X5_load_45
      rw [cK_ok n1, t1, Option.bind_some, si N3 169 0 n3, Option.bind_some, gi (wI N3 169 (x + 60) 0) 179 n3, Option.bind_some]
      have e79 : mI (wI N3 169 (x + 60) 0) 179 (x + 60) = k := by rw [mI_wI, if_neg (by omega)]; exact c3
      rw [e79, si (wI N3 169 (x + 60) 0) 172 k n3, Option.bind_some, gi (wI (wI N3 169 (x + 60) 0) 172 (x + 60) k) 179 n3, Option.bind_some]
      have e79' : mI (wI (wI N3 169 (x + 60) 0) 172 (x + 60) k) 179 (x + 60) = k := by rw [mI_wI, if_neg (by omega)]; exact e79
      rw [e79', if_neg c2, gi (wI (wI N3 169 (x + 60) 0) 172 (x + 60) k) 180 n3, Option.bind_some]
      have e80 : mI (wI (wI N3 169 (x + 60) 0) 172 (x + 60) k) 180 (x + 60) = nI o := by rw [mI_wI, if_neg (by omega), mI_wI, if_neg (by omega)]; exact c4
      rw [e80]
      unfold fj_X5_load_79
      rw [si (wI (wI N3 169 (x + 60) 0) 172 (x + 60) k) 173 (nI o) n3, Option.bind_some, gi (wI (wI (wI N3 169 (x + 60) 0) 172 (x + 60) k) 173 (x + 60) (nI o)) 179 n3, Option.bind_some]
      have e79'' : mI (wI (wI (wI N3 169 (x + 60) 0) 172 (x + 60) k) 173 (x + 60) (nI o)) 179 (x + 60) = k := by rw [mI_wI, if_neg (by omega)]; exact e79'
      rw [e79'', if_neg c2]
      exact lp
    · cases e
      refine ⟨c2, by rw [eI]; rfl, by rw [eI]; rfl, by rw [eI]; rfl, by rw [eI]; exact i3 165 (by omega), by rw [eI]; exact i3 167 (by omega), fun q hq => ?_⟩
      show mA (wA (wI M11 161 (x + 60) 2) (x + 62) _) (x + 62) q = _
      rw [wA_self, cpN_lo hq, a63, cpN_lo (by omega)]
      exact congrArg _ (by omega)
  | inr g' =>
    obtain ⟨c1, c2, c3⟩ := t3.2 g' ho
    let M8 := wI (wI N3 169 (x + 60) 0) 172 (x + 60) 0
    let M14 := wI (wI (wI M8 173 (x + 60) (-1)) 165 (x + 60) 0) 167 (x + 60) 0
    let M18 := wI M14 161 (x + 60) 0
    have eI : ∀ f, mI M18 f (x + 60) = if f = 161 then 0 else if f = 167 then 0 else if f = 165 then 0 else if f = 173 then -1 else if f = 172 then 0 else if f = 169 then 0 else mI N3 f (x + 60) := fun f => by
      show mI (wI (wI (wI (wI (wI (wI N3 169 (x + 60) 0) 172 (x + 60) 0) 173 (x + 60) (-1)) 165 (x + 60) 0) 167 (x + 60) 0) 161 (x + 60) 0) f (x + 60) = _
      simp only [mI_wI, and_true]
    have rr : RLd x N M18 := ((((r1.trans t2.rl).trans (RLd.wI (by omega))).trans (RLd.wI (by omega))).trans (RLd.wI (by omega))).trans (((RLd.wI (by omega)).trans (RLd.wI (by omega))).trans (RLd.wI (by omega)))
    refine ⟨g' 0, M18, ?_, rr, by rw [eI]; rfl, fun k' o' e => (by cases e), fun g2 e => ?_⟩
    · rw [top]
      unfold fj_X5_load_45
      rw [cK_ok n1, t1, Option.bind_some, si N3 169 0 n3, Option.bind_some, gi (wI N3 169 (x + 60) 0) 179 n3, Option.bind_some]
      have e79 : mI (wI N3 169 (x + 60) 0) 179 (x + 60) = 0 := by rw [mI_wI, if_neg (by omega)]; exact c2
      rw [e79, si (wI N3 169 (x + 60) 0) 172 0 n3, Option.bind_some, gi (wI (wI N3 169 (x + 60) 0) 172 (x + 60) 0) 179 n3, Option.bind_some]
      have e79' : mI (wI (wI N3 169 (x + 60) 0) 172 (x + 60) 0) 179 (x + 60) = 0 := by rw [mI_wI, if_neg (by omega)]; exact e79
      rw [e79', if_pos rfl]
      unfold fj_X5_load_79
      rw [si (wI (wI N3 169 (x + 60) 0) 172 (x + 60) 0) 173 (-1) n3, Option.bind_some, gi (wI (wI (wI N3 169 (x + 60) 0) 172 (x + 60) 0) 173 (x + 60) (-1)) 179 n3, Option.bind_some]
      have e79'' : mI (wI (wI (wI N3 169 (x + 60) 0) 172 (x + 60) 0) 173 (x + 60) (-1)) 179 (x + 60) = 0 := by rw [mI_wI, if_neg (by omega)]; exact e79'
      rw [e79'', if_pos rfl, si (wI (wI (wI N3 169 (x + 60) 0) 172 (x + 60) 0) 173 (x + 60) (-1)) 165 0 n3, Option.bind_some, si (wI (wI (wI (wI N3 169 (x + 60) 0) 172 (x + 60) 0) 173 (x + 60) (-1)) 165 (x + 60) 0) 167 0 n3, Option.bind_some]
      obtain ⟨p1, p2, p3, p4⟩ := fx3.rn
      have g62 : gRn 6 162 (x + 60) M14 = some (x + 62) := gRn_ok (M := M14) p1 p2
      have g0 : gA 9 (x + 62) 0 M14 = some (g' 0) := by
        unfold gA
        rw [if_pos ⟨show mK M14 (x + 62) = 9 from p3, by rw [show mN M14 (x + 62) = 1594 from p4]; decide⟩]
        show some (mA N3 (x + 62) 0) = _
        rw [c3]
      have tol : f_X5_told (x + 60) (g' 0) M14 = some (g' 0, M18) := by
        simp only [f_X5_told, sI_w, show (mK M14 (x + 60) = 6) = True from eq_true p1, if_true, Option.bind_some]; rfl
      show ((gRn 6 162 (x + 60) M14).bind fun v15 => (gA 9 v15 0 M14).bind fun v16 => bn (cK 6 (x + 60) M14 (f_X5_told (x + 60) v16 M14)) fun v17 M18 => some (v17, M18)) = _
      rw [g62, Option.bind_some, g0, Option.bind_some, cK_ok (show mK M14 (x + 60) = 6 from p1), tol]
      rfl
    · cases e
      refine ⟨rfl, by rw [eI]; rfl, by rw [eI]; rfl, by rw [eI]; rfl, by rw [eI]; rfl, by rw [eI]; rfl, c3⟩
end RLS
