/-! THE REFERENCE'S READER OF TOKENS -/
def bq (v : Int32) : Int32 := vp_nar .byte v
theorem bq_all : ∀ n : Fin 256, ((bq (nI n.val) < 97 ∨ 122 < bq (nI n.val)) ↔ ¬ typ (nI n.val) = 1) ∧ ((bq (nI n.val) < 48 ∨ 57 < bq (nI n.val)) ↔ ¬ typ (nI n.val) = 2) ∧ (bq (nI n.val) = 59 ↔ typ (nI n.val) = 3) ∧ ((bq (nI n.val) = 32 ∨ bq (nI n.val) = 10) ↔ (nI n.val = 32 ∨ nI n.val = 10)) ∧ ((typ (nI n.val) = 1 ∨ typ (nI n.val) = 2) → bq (nI n.val) = nI n.val) := by decide +kernel
theorem bq_at {v : Int32} (h : 0 ≤ v.toInt ∧ v.toInt ≤ 255) : ((bq v < 97 ∨ 122 < bq v) ↔ ¬ typ v = 1) ∧ ((bq v < 48 ∨ 57 < bq v) ↔ ¬ typ v = 2) ∧ (bq v = 59 ↔ typ v = 3) ∧ ((bq v = 32 ∨ bq v = 10) ↔ blk v) ∧ ((typ v = 1 ∨ typ v = 2) → bq v = v) := by
  obtain ⟨j, hj, rfl⟩ := nI_of (x := v) (by rw [i32_lt, i32_0]; omega)
  rw [nI_toI (by omega)] at h
  exact bq_all ⟨j, by omega⟩
def RB0 (x L : Nat) (c : GF) (N : Mem) : Prop := Fix x N ∧ mI N 174 (x + 60) = nI L ∧ L ≤ 600 ∧ (∀ i, i < L → mA N (x + 66) i = bq (c i) ∧ 0 ≤ (c i).toInt ∧ (c i).toInt ≤ 255) ∧ ∀ i, i < 72 → mA N (x + 61) i = keyF i
/-- the reader's own fields alone change -/
def RI (x : Nat) (N N' : Mem) : Prop := mK N' = mK N ∧ mN N' = mN N ∧ mR N' = mR N ∧ mA N' = mA N ∧ mB N' = mB N ∧ mL N' = mL N ∧ mZ N' = mZ N ∧ ∀ f a, ¬ (a = x + 60 ∧ 175 ≤ f ∧ f ≤ 178) → mI N' f a = mI N f a
theorem RI.refl {x : Nat} {N : Mem} : RI x N N := ⟨rfl, rfl, rfl, rfl, rfl, rfl, rfl, fun _ _ _ => rfl⟩
theorem RI.wI {x : Nat} {N : Mem} {f : Nat} {v : Int32} (h : 175 ≤ f ∧ f ≤ 178) : RI x N (wI N f (x + 60) v) := ⟨rfl, rfl, rfl, rfl, rfl, rfl, rfl, fun g a hn => by rw [mI_wI, if_neg (fun e => hn ⟨e.2, by rw [e.1]; exact h⟩)]⟩
theorem RI.trans {x : Nat} {N N' N2 : Mem} (h : RI x N N') (k : RI x N' N2) : RI x N N2 := by
  obtain ⟨a1, a2, a3, a4, a5, a6, a7, a8⟩ := h
  obtain ⟨b1, b2, b3, b4, b5, b6, b7, b8⟩ := k
  exact ⟨b1.trans a1, b2.trans a2, b3.trans a3, b4.trans a4, b5.trans a5, b6.trans a6, b7.trans a7, fun f a h => (b8 f a h).trans (a8 f a h)⟩
theorem wI_comm (M : Mem) {f g a b : Nat} (v u : Int32) (h : f ≠ g) : wI (wI M f a v) g b u = wI (wI M g b u) f a v := by
  have e : up2 (up2 (mI M) f a v) g b u = up2 (up2 (mI M) g b u) f a v := by
    funext y z; unfold up2
    by_cases c1 : y = g ∧ z = b
    · rw [if_pos c1, if_neg (fun e => h (e.1.symm.trans c1.1)), if_pos c1]
    · rw [if_neg c1]
      by_cases c2 : y = f ∧ z = a
      · rw [if_pos c2, if_pos c2]
      · rw [if_neg c2, if_neg c2, if_neg c1]
  show ((mK M, mN M, up2 (up2 (mI M) f a v) g b u, mR M, mA M, mB M, mL M, mZ M) : Mem) = (mK M, mN M, up2 (up2 (mI M) g b u) f a v, mR M, mA M, mB M, mL M, mZ M)
  rw [e]
theorem wI_id {M : Mem} {f a : Nat} {v : Int32} (h : mI M f a = v) : wI M f a v = M := by
  have e : up2 (mI M) f a v = mI M := by
    funext y z; unfold up2
    by_cases c : y = f ∧ z = a
    · rw [if_pos c, c.1, c.2, h]
    · rw [if_neg c]
  show ((mK M, mN M, up2 (mI M) f a v, mR M, mA M, mB M, mL M, mZ M) : Mem) = M
  rw [e]
section RT
variable {x L : Nat} {c : GF} {N : Mem}
theorem RB0.ri (h : RB0 x L c N) {N' : Mem} (r : RI x N N') : RB0 x L c N' := by
  obtain ⟨a1, a2, a3, a4, a5⟩ := h
  obtain ⟨k1, k2, k3, k4, k5, k6, k7, k8⟩ := r
  exact ⟨a1.same (fun i _ => ⟨by rw [k1], by rw [k2]⟩) (fun f i _ _ _ => by rw [k3]), by rw [k8 _ _ (by omega)]; exact a2, a3, by rw [k4]; exact a4, by rw [k4]; exact a5⟩
theorem RB0.k6 (h : RB0 x L c N) : mK N (x + 60) = 6 := h.1.2.2.2.2.2.2.1.1
theorem RB0.gI (h : RB0 x L c N) {f : Nat} : gI 6 f (x + 60) N = some (mI N f (x + 60)) := by unfold Jvm.Pilot.COfflineNotesLaw_law_r8908_f384f3.gI; rw [if_pos h.k6]
theorem RB0.sI (h : RB0 x L c N) {f : Nat} {v : Int32} : sI 6 f (x + 60) v N = some (wI N f (x + 60) v) := by rw [sI_w, if_pos h.k6]
theorem RB0.r168 (h : RB0 x L c N) : gRn 6 168 (x + 60) N = some (x + 66) := gRn_ok h.k6 h.1.2.2.2.2.2.2.1.2.2.2.2.2.2.1
theorem RB0.byt (h : RB0 x L c N) {i : Nat} (hi : i < L) : gA 7 (x + 66) (nI i) N = some (bq (c i)) := by
  have b := h.1.2.2.2.2.2.2.2.1.2.2.2.2.2.1
  have := h.2.2.1
  unfold gA
  rw [if_pos ⟨b.1, by rw [b.2, inT (by omega) (by omega)]; exact not_false⟩, nI_cl (by omega), (h.2.2.2.1 i hi).1]
theorem RB0.bqf (h : RB0 x L c N) {i : Nat} (hi : i < L) : ((bq (c i) < 97 ∨ 122 < bq (c i)) ↔ ¬ typ (c i) = 1) ∧ ((bq (c i) < 48 ∨ 57 < bq (c i)) ↔ ¬ typ (c i) = 2) ∧ (bq (c i) = 59 ↔ typ (c i) = 3) ∧ ((bq (c i) = 32 ∨ bq (c i) = 10) ↔ blk (c i)) ∧ ((typ (c i) = 1 ∨ typ (c i) = 2) → bq (c i) = c i) := bq_at (h.2.2.2.1 i hi).2
theorem RB0.let1 (h : RB0 x L c N) {i : Nat} (hi : i < L) {M : Mem} : f_X5_isLetter (Jvm.Pilot.COfflineNotesLaw_law_r8908_f384f3.bq (c i)) M = some (b01 (typ (c i) = 1), M) := by
  have e := (h.bqf hi).1
  by_cases t : typ (c i) = 1
  · have n1 : ¬ Jvm.Pilot.COfflineNotesLaw_law_r8908_f384f3.bq (c i) < 97 := fun q => e.mp (Or.inl q) t
    have n2 : ¬ 122 < Jvm.Pilot.COfflineNotesLaw_law_r8908_f384f3.bq (c i) := fun q => e.mp (Or.inr q) t
    rw [b01_t t]; simp only [f_X5_isLetter, fj_X5_isLetter_17, n1, n2, if_false, or_true, if_true]
  · rw [b01_f t]
    by_cases n1 : Jvm.Pilot.COfflineNotesLaw_law_r8908_f384f3.bq (c i) < 97
    · simp only [f_X5_isLetter, fj_X5_isLetter_16, fj_X5_isLetter_17, n1, true_or, if_true]
    · have n2 : 122 < Jvm.Pilot.COfflineNotesLaw_law_r8908_f384f3.bq (c i) := (e.mpr t).resolve_left n1
      simp only [f_X5_isLetter, fj_X5_isLetter_16, fj_X5_isLetter_17, n1, n2, if_false, true_or, if_true]
theorem RB0.dig1 (h : RB0 x L c N) {i : Nat} (hi : i < L) {M : Mem} : f_X5_isDigit (Jvm.Pilot.COfflineNotesLaw_law_r8908_f384f3.bq (c i)) M = some (b01 (typ (c i) = 2), M) := by
  have e := (h.bqf hi).2.1
  by_cases t : typ (c i) = 2
  · have n1 : ¬ Jvm.Pilot.COfflineNotesLaw_law_r8908_f384f3.bq (c i) < 48 := fun q => e.mp (Or.inl q) t
    have n2 : ¬ 57 < Jvm.Pilot.COfflineNotesLaw_law_r8908_f384f3.bq (c i) := fun q => e.mp (Or.inr q) t
    rw [b01_t t]; simp only [f_X5_isDigit, fj_X5_isDigit_17, n1, n2, if_false, or_true, if_true]
  · rw [b01_f t]
    by_cases n1 : Jvm.Pilot.COfflineNotesLaw_law_r8908_f384f3.bq (c i) < 48
    · simp only [f_X5_isDigit, fj_X5_isDigit_16, fj_X5_isDigit_17, n1, true_or, if_true]
    · have n2 : 57 < Jvm.Pilot.COfflineNotesLaw_law_r8908_f384f3.bq (c i) := (e.mpr t).resolve_left n1
      simp only [f_X5_isDigit, fj_X5_isDigit_16, fj_X5_isDigit_17, n1, n2, if_false, true_or, if_true]
/-- what a token is, s its first place -/
noncomputable def tT (c : GF) (L s : Nat) (G : Prop) : Int32 := cif (L ≤ s) 0 (cif (((typ (c s) = 1 ∨ typ (c s) = 2) ∧ G) ∨ (typ (c s) = 2 ∧ 2 < tE c L s - s)) 4 (typ (c s)))
def RTok (x : Nat) (N : Mem) (ty : Int32) (st en : Nat) (c : GF) : Prop := mI N 175 (x + 60) = ty ∧ mI N 176 (x + 60) = nI st ∧ mI N 177 (x + 60) = nI en ∧ (ty = 2 → mI N 178 (x + 60) = nuV c st (en - st))
theorem tE_w {s : Nat} (hs : s < L) (hw : typ (c s) = 1 ∨ typ (c s) = 2) : tE c L s = ext c (typ (c s)) s (L - s) := by
  unfold tE
  rw [if_neg (by omega), if_pos hw]
  obtain ⟨n, e⟩ : ∃ n, L - s = n + 1 := ⟨L - s - 1, by omega⟩
  rw [e, show L - (s + 1) = n by omega]
  conv => rhs; unfold ext
  rw [if_pos rfl]
theorem r_145 (h : RB0 x L c N) {s : Nat} (hs : s < L) (h176 : mI N 176 (x + 60) = nI s) {G : Prop} (hw : typ (c s) = 1) : ∃ N', fj_X5_next_145 (x + 60) (b01 G) (wI N 177 (x + 60) (nI s)) = some N' ∧ RI x N N' ∧ RTok x N' (tT c L s G) s (tE c L s) c := by
  have L6 := h.2.2.1
  have te := tE_w hs (Or.inl hw)
  rw [hw] at te
  have hx := ext_le c 1 (L - s) s
  have key : fj_X5_next_145 (x + 60) (b01 G) (wI N 177 (x + 60) (nI s)) = fj_X5_next_184 (x + 60) (b01 G) (wI N 177 (x + 60) (nI (tE c L s))) := by
    rw [te]
    unfold fj_X5_next_145
    refine Eq.trans (loopM_find (st := fun i => wI N 177 (x + 60) (nI i)) (k := s) (N := L) (fun i => ¬ typ (c i) = 1) (hit := fun i => fj_X5_next_184 (x + 60) (b01 G) (wI N 177 (x + 60) (nI i))) (miss := fj_X5_next_184 (x + 60) (b01 G) (wI N 177 (x + 60) (nI (s + (L - s))))) rfl (fun i hi hl q => ?_) (fun i hi hl q => ?_) ?_ (by omega) (FUn (by omega))) (ext_first c 1 (fun i => fj_X5_next_184 (x + 60) (b01 G) (wI N 177 (x + 60) (nI i))) (L - s) s)
    · have h2 := h.ri (RI.wI (x := x) (f := 177) (v := nI i) (by omega))
      have hl' : ¬ (nI L ≤ nI i) := nI_ge hl (by omega)
      have q' : typ (c i) = 1 := Classical.not_not.mp q
      have ei : nI i + 1 = nI (i + 1) := nI_add i 1
      have e7 : mI (wI N 177 (x + 60) (nI i)) 177 (x + 60) = nI i := by rw [mI_wI, if_pos ⟨rfl, rfl⟩]
      simp only [fc_X5_next_145, h2.gI, e7, h2.2.1, Option.bind_some, hl', if_false, h2.r168, h2.byt hl, h2.let1 hl, b01_t q', bn, e10, h2.sI, ei, wI_again]
    · have h2 := h.ri (RI.wI (x := x) (f := 177) (v := nI i) (by omega))
      have hl' : ¬ (nI L ≤ nI i) := nI_ge hl (by omega)
      have e7 : mI (wI N 177 (x + 60) (nI i)) 177 (x + 60) = nI i := by rw [mI_wI, if_pos ⟨rfl, rfl⟩]
      simp only [fc_X5_next_145, h2.gI, e7, h2.2.1, Option.bind_some, hl', if_false, h2.r168, h2.byt hl, h2.let1 hl, b01_f q, bn, if_true]
    · have h2 := h.ri (RI.wI (x := x) (f := 177) (v := nI L) (by omega))
      have hl' : nI L ≤ nI L := Int32.le_refl _
      have e7 : mI (wI N 177 (x + 60) (nI L)) 177 (x + 60) = nI L := by rw [mI_wI, if_pos ⟨rfl, rfl⟩]
      rw [show s + (L - s) = L by omega]
      simp only [fc_X5_next_145, h2.gI, e7, h2.2.1, Option.bind_some, hl', if_true]
  have h2 := h.ri (RI.wI (x := x) (f := 177) (v := nI (tE c L s)) (by omega))
  have r2 : ∀ v, RI x N (wI (wI N 177 (x + 60) (nI (tE c L s))) 175 (x + 60) v) := fun v => (RI.wI (by omega)).trans (RI.wI (by omega))
  have ty : tT c L s G = cif G 4 1 := by
    unfold tT
    rw [cif_f (by omega), hw]
    by_cases g : G
    · rw [cif_t (Or.inl ⟨Or.inl rfl, g⟩), cif_t g]
    · rw [cif_f (fun e => e.elim (fun e => g e.2) (fun e => absurd e.1 (by decide))), cif_f g]
  have tok : ∀ v : Int32, v ≠ 2 → RTok x (wI (wI N 177 (x + 60) (nI (tE c L s))) 175 (x + 60) v) v s (tE c L s) c := fun v hv => by
    refine ⟨?_, ?_, ?_, fun e => absurd e hv⟩
    · rw [mI_wI, if_pos ⟨rfl, rfl⟩]
    · rw [mI_wI, if_neg (by omega), mI_wI, if_neg (by omega)]; exact h176
    · rw [mI_wI, if_neg (by omega), mI_wI, if_pos ⟨rfl, rfl⟩]
  rw [key, ty]
  by_cases g : G
  · refine ⟨_, ?_, r2 4, by rw [cif_t g]; exact tok 4 (by decide)⟩
    simp only [fj_X5_next_184, fj_X5_next_194, fj_X5_next_358, b01_t g, e10, if_false, h2.sI, Option.bind_some]
  · refine ⟨_, ?_, r2 1, by rw [cif_f g]; exact tok 1 (by decide)⟩
    simp only [fj_X5_next_184, fj_X5_next_194, fj_X5_next_358, b01_f g, if_true, h2.sI, Option.bind_some]
def vv (c : GF) (s i : Nat) : Int32 := nuV c s (if i - s < 2 then i - s else 2)
theorem r_220 (h : RB0 x L c N) {s : Nat} (hs : s < L) (h176 : mI N 176 (x + 60) = nI s) {G : Prop} (hw : typ (c s) = 2) : ∃ N', fj_X5_next_220 (x + 60) (b01 G) (wI (wI N 177 (x + 60) (nI s)) 178 (x + 60) 0) = some N' ∧ RI x N N' ∧ RTok x N' (tT c L s G) s (tE c L s) c := by
  have L6 := h.2.2.1
  have te := tE_w hs (Or.inr hw)
  rw [hw] at te
  have hx := ext_le c 2 (L - s) s
  let S : Nat → Mem := fun i => wI (wI N 177 (x + 60) (nI i)) 178 (x + 60) (vv c s i)
  have rS : ∀ i, RI x N (S i) := fun i => (RI.wI (by omega)).trans (RI.wI (by omega))
  have e7 : ∀ i, mI (S i) 177 (x + 60) = nI i := fun i => by
    show mI (wI (wI N 177 (x + 60) (nI i)) 178 (x + 60) (vv c s i)) 177 (x + 60) = _
    rw [mI_wI, if_neg (by omega), mI_wI, if_pos ⟨rfl, rfl⟩]
  have e6 : ∀ i, mI (S i) 176 (x + 60) = nI s := fun i => by
    show mI (wI (wI N 177 (x + 60) (nI i)) 178 (x + 60) (vv c s i)) 176 (x + 60) = _
    rw [mI_wI, if_neg (by omega), mI_wI, if_neg (by omega)]; exact h176
  have e8 : ∀ i, mI (S i) 178 (x + 60) = vv c s i := fun i => by
    show mI (wI (wI N 177 (x + 60) (nI i)) 178 (x + 60) (vv c s i)) 178 (x + 60) = _
    rw [mI_wI, if_pos ⟨rfl, rfl⟩]
  have key : fj_X5_next_220 (x + 60) (b01 G) (wI (wI N 177 (x + 60) (nI s)) 178 (x + 60) 0) = fj_X5_next_296 (x + 60) (b01 G) (S (tE c L s)) := by
    rw [te]
    have es : wI (wI N 177 (x + 60) (nI s)) 178 (x + 60) 0 = S s := by
      show _ = wI (wI N 177 (x + 60) (nI s)) 178 (x + 60) (vv c s s)
      unfold vv; rw [Nat.sub_self, if_pos (by omega)]; rfl
    unfold fj_X5_next_220
    refine Eq.trans (loopM_find (st := S) (k := s) (N := L) (fun i => ¬ typ (c i) = 2) (hit := fun i => fj_X5_next_296 (x + 60) (b01 G) (S i)) (miss := fj_X5_next_296 (x + 60) (b01 G) (S (s + (L - s)))) es (fun i hi hl q => ?_) (fun i hi hl q => ?_) ?_ (by omega) (FUn (by omega))) (ext_first c 2 (fun i => fj_X5_next_296 (x + 60) (b01 G) (S i)) (L - s) s)
    · have h2 := h.ri (rS i)
      have hl' : ¬ (nI L ≤ nI i) := nI_ge hl (by omega)
      have q' : typ (c i) = 2 := Classical.not_not.mp q
      have ei : nI i + 1 = nI (i + 1) := nI_add i 1
      have sub : nI i - nI s = nI (i - s) := nI_sub hi
      by_cases c2 : i - s < 2
      · have l2 : ¬ ((2 : Int32) ≤ nI (i - s)) := nI_ge (b := 2) c2 (by omega)
        have eb : bq (c i) = c i := (h2.bqf hl).2.2.2.2 (Or.inr q')
        have h3 := h2.ri (RI.wI (x := x) (f := 178) (v := ((10 * vv c s i) + bq (c i)) - 48) (by omega))
        have em : wI (wI (S i) 178 (x + 60) (((10 * vv c s i) + bq (c i)) - 48)) 177 (x + 60) (nI (i + 1)) = S (i + 1) := by
          show wI (wI (wI (wI N 177 (x + 60) (nI i)) 178 (x + 60) (vv c s i)) 178 (x + 60) _) 177 (x + 60) (nI (i + 1)) = wI (wI N 177 (x + 60) (nI (i + 1))) 178 (x + 60) (vv c s (i + 1))
          rw [wI_again, wI_comm _ _ _ (by omega), wI_again]
          congr 1
          unfold vv
          rw [if_pos c2, show i + 1 - s = i - s + 1 by omega, eb]
          have : (if i - s + 1 < 2 then i - s + 1 else 2) = i - s + 1 := by
            by_cases e : i - s + 1 < 2
            · rw [if_pos e]
            · rw [if_neg e]; omega
          rw [this]
          rw [show nuV c s (i - s + 1) = (nuV c s (i - s) * 10 + c (s + (i - s))) - 48 from rfl, show s + (i - s) = i by omega, Int32.mul_comm]
        have e73 : mI (wI (S i) 178 (x + 60) (((10 * vv c s i) + bq (c i)) - 48)) 177 (x + 60) = nI i := by rw [mI_wI, if_neg (by omega)]; exact e7 i
        simp only [fc_X5_next_220, fj_X5_next_283, h2.gI, e7, e6, e8, h2.2.1, Option.bind_some, hl', if_false, h2.r168, h2.byt hl, h2.dig1 hl, b01_t q', bn, e10, h2.sI, sub, l2, h3.gI, e73, ei, h3.sI, em]
      · have l2 : (2 : Int32) ≤ nI (i - s) := nI_le (a := 2) (by omega) (by omega)
        have em : wI (S i) 177 (x + 60) (nI (i + 1)) = S (i + 1) := by
          show wI (wI (wI N 177 (x + 60) (nI i)) 178 (x + 60) (vv c s i)) 177 (x + 60) (nI (i + 1)) = wI (wI N 177 (x + 60) (nI (i + 1))) 178 (x + 60) (vv c s (i + 1))
          rw [wI_comm _ _ _ (by omega), wI_again]
          congr 1
          unfold vv
          rw [if_neg c2, if_neg (by omega)]
        simp only [fc_X5_next_220, fj_X5_next_283, h2.gI, e7, e6, h2.2.1, Option.bind_some, hl', if_false, h2.r168, h2.byt hl, h2.dig1 hl, b01_t q', bn, e10, h2.sI, sub, l2, if_true, ei, em]
    · have h2 := h.ri (rS i)
      have hl' : ¬ (nI L ≤ nI i) := nI_ge hl (by omega)
      simp only [fc_X5_next_220, h2.gI, e7, h2.2.1, Option.bind_some, hl', if_false, h2.r168, h2.byt hl, h2.dig1 hl, b01_f q, bn, if_true]
    · have h2 := h.ri (rS L)
      have hl' : nI L ≤ nI L := Int32.le_refl _
      rw [show s + (L - s) = L by omega]
      simp only [fc_X5_next_220, h2.gI, e7, h2.2.1, Option.bind_some, hl', if_true]
  have h2 := h.ri (rS (tE c L s))
  have hse : s ≤ tE c L s ∧ tE c L s ≤ L := by rw [te]; omega
  have sub : nI (tE c L s) - nI s = nI (tE c L s - s) := nI_sub hse.1
  have r2 : ∀ v, RI x N (wI (S (tE c L s)) 175 (x + 60) v) := fun v => (rS _).trans (RI.wI (by omega))
  have ty : tT c L s G = cif (G ∨ 2 < tE c L s - s) 4 2 := by
    unfold tT
    rw [cif_f (by omega), hw]
    by_cases g : G
    · rw [cif_t (Or.inl ⟨Or.inr rfl, g⟩), cif_t (Or.inl g)]
    · by_cases g2 : 2 < tE c L s - s
      · rw [cif_t (Or.inr ⟨rfl, g2⟩), cif_t (Or.inr g2)]
      · rw [cif_f (fun e => e.elim (fun e => g e.2) (fun e => g2 e.2)), cif_f (fun e => e.elim g g2)]
  have tok : ∀ v : Int32, (v = 2 → ¬ 2 < tE c L s - s) → RTok x (wI (S (tE c L s)) 175 (x + 60) v) v s (tE c L s) c := fun v hv => by
    refine ⟨?_, ?_, ?_, fun e => ?_⟩
    · rw [mI_wI, if_pos ⟨rfl, rfl⟩]
    · rw [mI_wI, if_neg (by omega)]; exact e6 _
    · rw [mI_wI, if_neg (by omega)]; exact e7 _
    · rw [mI_wI, if_neg (by omega), e8]
      have := hv e
      unfold vv
      by_cases e : tE c L s - s < 2
      · rw [if_pos e]
      · rw [if_neg e, show tE c L s - s = 2 by omega]
  rw [key, ty]
  by_cases g : G
  · refine ⟨_, ?_, r2 4, by rw [cif_t (Or.inl g)]; exact tok 4 (fun e => absurd e (by decide))⟩
    simp only [fj_X5_next_296, fj_X5_next_314, fj_X5_next_319, fj_X5_next_358, b01_t g, e10, if_false, h2.sI, Option.bind_some]
  · by_cases g2 : 2 < tE c L s - s
    · refine ⟨_, ?_, r2 4, by rw [cif_t (Or.inr g2)]; exact tok 4 (fun e => absurd e (by decide))⟩
      have l2 : ¬ (nI (tE c L s - s) ≤ 2) := nI_ge (a := 2) g2 (by omega)
      simp only [fj_X5_next_296, fj_X5_next_314, fj_X5_next_319, fj_X5_next_358, b01_f g, if_true, h2.gI, e7, e6, sub, l2, if_false, h2.sI, Option.bind_some]
    · refine ⟨_, ?_, r2 2, by rw [cif_f (fun e => e.elim g g2)]; exact tok 2 (fun _ => g2)⟩
      have l2 : nI (tE c L s - s) ≤ 2 := nI_le (b := 2) (by omega) (by omega)
      simp only [fj_X5_next_296, fj_X5_next_319, fj_X5_next_358, b01_f g, if_true, h2.gI, e7, e6, sub, l2, h2.sI, Option.bind_some]
theorem r_102 (h : RB0 x L c N) {s : Nat} (hs : s ≤ L) (h176 : mI N 176 (x + 60) = nI s) {G : Prop} : ∃ N', fj_X5_next_102 (x + 60) (b01 G) N = some N' ∧ RI x N N' ∧ RTok x N' (tT c L s G) s (tE c L s) c := by
  have L6 := h.2.2.1
  have h1 := h.ri (RI.wI (x := x) (f := 177) (v := nI s) (by omega))
  have e6 : mI (wI N 177 (x + 60) (nI s)) 176 (x + 60) = nI s := by rw [mI_wI, if_neg (by omega)]; exact h176
  by_cases q : L ≤ s
  · obtain rfl : s = L := by omega
    refine ⟨wI (wI N 177 (x + 60) (nI s)) 175 (x + 60) 0, ?_, (RI.wI (by omega)).trans (RI.wI (by omega)), ?_, ?_, ?_, ?_⟩
    · simp only [fj_X5_next_102, fj_X5_next_358, h.gI, h176, Option.bind_some, h.sI, h1.gI, e6, h1.2.1, if_true, h1.sI]
    · unfold tT; rw [cif_t q, mI_wI, if_pos ⟨rfl, rfl⟩]
    · rw [mI_wI, if_neg (by omega)]; exact e6
    · unfold tE; rw [if_pos q, mI_wI, if_neg (by omega), mI_wI, if_pos ⟨rfl, rfl⟩]
    · unfold tT; rw [cif_t q]; exact fun e => absurd e (by decide)
  · have hlt : s < L := by omega
    have ne : (nI s = nI L) = False := nI_eqF (by omega) (by omega) (by omega)
    by_cases t1 : typ (c s) = 1
    · obtain ⟨N', a1, a2, a3⟩ := r_145 h hlt h176 (G := G) t1
      refine ⟨N', ?_, a2, a3⟩
      simp only [fj_X5_next_102, h.gI, h176, Option.bind_some, h.sI, h1.gI, e6, h1.2.1, ne, if_false, h1.r168, h1.byt hlt, h1.let1 hlt, b01_t t1, bn, e10, a1]
    · by_cases t2 : typ (c s) = 2
      · obtain ⟨N', a1, a2, a3⟩ := r_220 h hlt h176 (G := G) t2
        refine ⟨N', ?_, a2, a3⟩
        simp only [fj_X5_next_102, h.gI, h176, Option.bind_some, h.sI, h1.gI, e6, h1.2.1, ne, if_false, h1.r168, h1.byt hlt, h1.let1 hlt, h1.dig1 hlt, b01_f t1, b01_t t2, bn, e10, if_true, h1.sI, a1]
      · have te : tE c L s = s + 1 := by unfold tE; rw [if_neg q, if_neg (fun e => e.elim t1 t2)]
        have ty : tT c L s G = typ (c s) := by
          unfold tT
          rw [cif_f q, cif_f (fun e => e.elim (fun e => e.1.elim t1 t2) (fun e => t2 e.1))]
        have es : nI s + 1 = nI (s + 1) := nI_add s 1
        have h2 := h1.ri (RI.wI (x := x) (f := 177) (v := nI (s + 1)) (by omega))
        have r2 : ∀ v, RI x N (wI (wI (wI N 177 (x + 60) (nI s)) 177 (x + 60) (nI (s + 1))) 175 (x + 60) v) := fun v => ((RI.wI (by omega)).trans (RI.wI (by omega))).trans (RI.wI (by omega))
        have e62 : mI (wI (wI N 177 (x + 60) (nI s)) 177 (x + 60) (nI (s + 1))) 176 (x + 60) = nI s := by rw [mI_wI, if_neg (by omega)]; exact e6
        have tok : ∀ v : Int32, v ≠ 2 → RTok x (wI (wI (wI N 177 (x + 60) (nI s)) 177 (x + 60) (nI (s + 1))) 175 (x + 60) v) v s (s + 1) c := fun v hv => by
          refine ⟨?_, ?_, ?_, fun e => absurd e hv⟩
          · rw [mI_wI, if_pos ⟨rfl, rfl⟩]
          · rw [mI_wI, if_neg (by omega)]; exact e62
          · rw [mI_wI, if_neg (by omega), mI_wI, if_pos ⟨rfl, rfl⟩]
        rw [te, ty]
        by_cases t3 : typ (c s) = 3
        · refine ⟨_, ?_, r2 3, by rw [t3]; exact tok 3 (by decide)⟩
          have b59 : (bq (c s) = 59) = True := eq_true ((h1.bqf hlt).2.2.1.mpr t3)
          simp only [fj_X5_next_102, fj_X5_next_355, fj_X5_next_358, h.gI, h176, Option.bind_some, h.sI, h1.gI, e6, h1.2.1, ne, if_false, h1.r168, h1.byt hlt, h1.let1 hlt, h1.dig1 hlt, b01_f t1, b01_f t2, bn, if_true, h1.sI, es, h2.r168, h2.gI, e62, h2.byt hlt, b59, h2.sI]
        · have t4 : typ (c s) = 4 := by rcases typ_r (c s) with e | e | e | e; exact absurd e t1; exact absurd e t2; exact absurd e t3; exact e
          refine ⟨_, ?_, r2 4, by rw [t4]; exact tok 4 (by decide)⟩
          have b59 : ¬ bq (c s) = 59 := fun e => t3 ((h1.bqf hlt).2.2.1.mp e)
          simp only [fj_X5_next_102, fj_X5_next_355, fj_X5_next_358, h.gI, h176, Option.bind_some, h.sI, h1.gI, e6, h1.2.1, ne, if_false, h1.r168, h1.byt hlt, h1.let1 hlt, h1.dig1 hlt, b01_f t1, b01_f t2, bn, if_true, h1.sI, es, h2.r168, h2.gI, e62, h2.byt hlt, b59, h2.sI]
theorem r_next (h : RB0 x L c N) {ty : Int32} {en : Nat} (he : en ≤ L) (h175 : mI N 175 (x + 60) = ty) (h177 : mI N 177 (x + 60) = nI en) : ∃ N', f_X5_next (x + 60) N = some N' ∧ RI x N N' ∧ RTok x N' (nT c L ty en) (nS c L en) (nE c L en) c := by
  have L6 := h.2.2.1
  have h21 : f_X5_next (x + 60) N = fj_X5_next_21 (x + 60) (b01 (ty = 1 ∨ ty = 2)) N := by
    by_cases c1 : ty = 1
    · rw [b01_t (Or.inl c1)]; simp only [f_X5_next, fj_X5_next_16, h.gI, h175, Option.bind_some, c1, if_true]
    · by_cases c2 : ty = 2
      · rw [b01_t (Or.inr c2)]; simp only [f_X5_next, fj_X5_next_16, h.gI, h175, Option.bind_some, c1, c2, if_true, if_false]
        rfl
      · rw [b01_f (fun e => e.elim c1 c2)]; simp only [f_X5_next, h.gI, h175, Option.bind_some, c1, c2, if_false]
  have hS := nS_le (c := c) he
  have key : fj_X5_next_21 (x + 60) (b01 (ty = 1 ∨ ty = 2)) N = fj_X5_next_82 (x + 60) (b01 (ty = 1 ∨ ty = 2)) (wI N 176 (x + 60) (nI (nS c L en))) := by
    have e1 : fj_X5_next_21 (x + 60) (b01 (ty = 1 ∨ ty = 2)) N = fj_X5_next_30 (x + 60) (b01 (ty = 1 ∨ ty = 2)) (wI N 176 (x + 60) (nI en)) := by
      simp only [fj_X5_next_21, h.gI, h177, Option.bind_some, h.sI]
    rw [e1]
    unfold fj_X5_next_30 nS
    haveI : DecidablePred (fun i => ¬ blk (c i)) := fun _ => Classical.propDecidable _
    refine Eq.trans (loopM_find (st := fun i => wI N 176 (x + 60) (nI i)) (k := en) (N := L) (fun i => ¬ blk (c i)) (hit := fun i => fj_X5_next_82 (x + 60) (b01 (ty = 1 ∨ ty = 2)) (wI N 176 (x + 60) (nI i))) (miss := fj_X5_next_82 (x + 60) (b01 (ty = 1 ∨ ty = 2)) (wI N 176 (x + 60) (nI (en + (L - en))))) rfl (fun i hi hl q => ?_) (fun i hi hl q => ?_) ?_ he (FUn (by omega))) (skp_first c (fun i => fj_X5_next_82 (x + 60) (b01 (ty = 1 ∨ ty = 2)) (wI N 176 (x + 60) (nI i))) (L - en) en)
    · have h2 := h.ri (RI.wI (x := x) (f := 176) (v := nI i) (by omega))
      have hl' : ¬ (nI L ≤ nI i) := nI_ge hl (by omega)
      have q' : blk (c i) := Classical.not_not.mp q
      have ei : nI i + 1 = nI (i + 1) := nI_add i 1
      have e6 : mI (wI N 176 (x + 60) (nI i)) 176 (x + 60) = nI i := by rw [mI_wI, if_pos ⟨rfl, rfl⟩]
      have ob := (h2.bqf hl).2.2.2.1.mpr q'
      by_cases b32 : bq (c i) = 32
      · simp only [fc_X5_next_30, fj_X5_next_69, h2.gI, e6, h2.2.1, Option.bind_some, hl', if_false, h2.r168, h2.byt hl, b32, if_true, h2.sI, ei, wI_again]
      · have b10 := ob.resolve_left b32
        simp only [fc_X5_next_30, fj_X5_next_69, h2.gI, e6, h2.2.1, Option.bind_some, hl', if_false, h2.r168, h2.byt hl, b32, b10, if_true, h2.sI, ei, wI_again]
        rfl
    · have h2 := h.ri (RI.wI (x := x) (f := 176) (v := nI i) (by omega))
      have hl' : ¬ (nI L ≤ nI i) := nI_ge hl (by omega)
      have e6 : mI (wI N 176 (x + 60) (nI i)) 176 (x + 60) = nI i := by rw [mI_wI, if_pos ⟨rfl, rfl⟩]
      have nb : ¬ (bq (c i) = 32 ∨ bq (c i) = 10) := fun e => q ((h2.bqf hl).2.2.2.1.mp e)
      have b32 : ¬ bq (c i) = 32 := fun e => nb (Or.inl e)
      have b10 : ¬ bq (c i) = 10 := fun e => nb (Or.inr e)
      simp only [fc_X5_next_30, h2.gI, e6, h2.2.1, Option.bind_some, hl', if_false, h2.r168, h2.byt hl, b32, b10]
    · have h2 := h.ri (RI.wI (x := x) (f := 176) (v := nI L) (by omega))
      have hl' : nI L ≤ nI L := Int32.le_refl _
      have e6 : mI (wI N 176 (x + 60) (nI L)) 176 (x + 60) = nI L := by rw [mI_wI, if_pos ⟨rfl, rfl⟩]
      rw [show en + (L - en) = L by omega]
      simp only [fc_X5_next_30, h2.gI, e6, h2.2.1, Option.bind_some, hl', if_true]
  have h2 := h.ri (RI.wI (x := x) (f := 176) (v := nI (nS c L en)) (by omega))
  have e6 : mI (wI N 176 (x + 60) (nI (nS c L en))) 176 (x + 60) = nI (nS c L en) := by rw [mI_wI, if_pos ⟨rfl, rfl⟩]
  have e7 : mI (wI N 176 (x + 60) (nI (nS c L en))) 177 (x + 60) = nI en := by rw [mI_wI, if_neg (by omega)]; exact h177
  have h82 : fj_X5_next_82 (x + 60) (b01 (ty = 1 ∨ ty = 2)) (wI N 176 (x + 60) (nI (nS c L en))) = fj_X5_next_102 (x + 60) (b01 ((ty = 1 ∨ ty = 2) ∧ nS c L en = en)) (wI N 176 (x + 60) (nI (nS c L en))) := by
    by_cases c1 : ty = 1 ∨ ty = 2
    · by_cases c2 : nS c L en = en
      · rw [b01_t c1, b01_t ⟨c1, c2⟩]
        have : (nI (nS c L en) = nI en) = True := nI_eqT c2
        simp only [fj_X5_next_82, e10, if_false, h2.gI, e6, e7, Option.bind_some, this, if_true]
      · rw [b01_t c1, b01_f (fun e => c2 e.2)]
        have : (nI (nS c L en) = nI en) = False := nI_eqF c2 (by omega) (by omega)
        simp only [fj_X5_next_82, fj_X5_next_101, e10, if_false, h2.gI, e6, e7, Option.bind_some, this]
    · rw [b01_f c1, b01_f (fun e => c1 e.1)]
      simp only [fj_X5_next_82, fj_X5_next_101, if_true]
  obtain ⟨N', a1, a2, a3⟩ := r_102 h2 hS.2 e6 (G := (ty = 1 ∨ ty = 2) ∧ nS c L en = en)
  refine ⟨N', by rw [h21, key, h82]; exact a1, (RI.wI (by omega)).trans a2, ?_⟩
  have et : tT c L (nS c L en) ((ty = 1 ∨ ty = 2) ∧ nS c L en = en) = nT c L ty en := by
    unfold tT nT nE
    by_cases q : L ≤ nS c L en
    · rw [cif_t q, if_pos q]
    · rw [cif_f q, if_neg q]
      by_cases q2 : ((typ (c (nS c L en)) = 1 ∨ typ (c (nS c L en)) = 2) ∧ (ty = 1 ∨ ty = 2) ∧ nS c L en = en) ∨ (typ (c (nS c L en)) = 2 ∧ 2 < tE c L (nS c L en) - nS c L en)
      · rw [cif_t q2, if_pos q2]
      · rw [cif_f q2, if_neg q2]
  rw [et] at a3
  exact a3
end RT
