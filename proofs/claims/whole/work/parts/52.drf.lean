section DRF
variable {M : Mm} {B : Nat} {A : Int → Int}
theorem g_rdI {M : Mm} {p kd : Nat} (h : M.k p = kd) (j : Nat) : rdI M p kd j = some (i2 (gI M p j)) := by
  unfold rdI gI
  rw [if_pos h, i2_self, Int.toNat_natCast]
theorem g_alI {M : Mm} {p N : Nat} (h : Ar M p N) {x : Int} (h0 : 0 ≤ x) (h1 : x < N) (h2 : x < 2147483648) : alI M p (i2 x) = some (i2 (gI M p x)) := by
  have e := alI_row (A := gI M p) h h0 h1 h2
  rwa [row_gI] at e
theorem d_gk (h : LayD M B) : gk M B 3 = some () := if_pos h.1.1
theorem d_cnt (h : LayD M B) (c : CR M B A) : rdI M B 3 2 = some (i2 (A 0)) := by
  rw [g_rdI h.1.1, ← c.2.1.1]
  rfl
theorem d_z (h : LayD M B) (c : CR M B A) : rdI M B 3 5 = some (i2 (A 1)) := by
  rw [g_rdI h.1.1, ← c.2.1.2]
  rfl
theorem d_laws (h : LayD M B) : rdN M B 3 0 = some (B + 1) := by unfold rdN; rw [if_pos h.1.1]; exact h.1.2.1
theorem d_sts (h : LayD M B) : rdN M B 3 1 = some (B + 2) := by unfold rdN; rw [if_pos h.1.1]; exact h.1.2.2.1
theorem d_feet (h : LayD M B) : rdN M B 3 3 = some (B + 3) := by unfold rdN; rw [if_pos h.1.1]; exact h.1.2.2.2.1
theorem d_ways (h : LayD M B) : rdN M B 3 4 = some (B + 4) := by unfold rdN; rw [if_pos h.1.1]; exact h.1.2.2.2.2
theorem d_law (h : LayD M B) (c : CR M B A) : LR M (B + 1) (lwA A) := fun j a b => by
  rw [g_alI (N := 8) h.2.1 a (by omega) (by omega), c.1 j a b]
  rfl
theorem d_f0 (h : LayD M B) (c : CR M B A) : alI M (B + 3) (i2 0) = some (i2 (A 2)) := by
  rw [g_alI (N := 2) h.2.2.2.1 (by decide) (by decide) (by decide), c.2.2.1.1]
theorem d_f1 (h : LayD M B) (c : CR M B A) : alI M (B + 3) (i2 1) = some (i2 (A 3)) := by
  rw [g_alI (N := 2) h.2.2.2.1 (by decide) (by decide) (by decide), c.2.2.1.2]
theorem d_st (h : LayD M B) {k : Int} (k0 : 0 ≤ k) (k8 : k < 8) : alN M (B + 2) 23 (i2 k) = some (B + 11 + 3 * k.toNat) := by
  unfold alN
  rw [if_pos, i2_nat (by omega) (by omega)]
  · exact (h.2.2.2.2.2.2 k.toNat (by omega)).1
  · refine ⟨h.2.2.1.1, ?_⟩
    rw [h.2.2.1.2, i2_inB (by omega) (by omega)]
    simp [k0]
    omega
theorem d_way (h : LayD M B) {w : Int} (w0 : 0 ≤ w) (w2 : w < 2) : alN M (B + 4) 24 (i2 w) = some (B + 5 + 3 * w.toNat) := by
  unfold alN
  rw [if_pos, i2_nat (by omega) (by omega)]
  · exact (h.2.2.2.2.2.1 w.toNat (by omega)).1
  · refine ⟨h.2.2.2.2.1.1, ?_⟩
    rw [h.2.2.2.2.1.2, i2_inB (by omega) (by omega)]
    simp [w0]
    omega
theorem d_lay (h : LayD M B) {k : Nat} (k8 : k < 8) : LayS M (B + 11 + 3 * k) := (h.2.2.2.2.2.2 k k8).2
theorem d_wr (h : LayD M B) (c : CR M B A) (g : GA A) {w : Nat} (w2 : w < 2) : WR M (B + 5 + 3 * w) (A (12 + w)) (fun i => A (14 + 20 * w + 2 * i)) (fun i => A (14 + 20 * w + 2 * i + 1)) := by
  obtain ⟨l1, l2, l3, l4, l5, l6, l7⟩ := (h.2.2.2.2.2.1 w w2).2
  obtain ⟨c1, c2⟩ := c.2.2.2.1 w w2
  obtain ⟨g1, g2⟩ := g.2.2.2.2.2.2.1 w (by omega) (by omega)
  refine ⟨if_pos l1, ?_, ?_, ?_, g1, fun i i0 i1 => ⟨?_, ?_, g2 i i0 i1⟩⟩
  · rw [g_rdI l1, ← c1]; rfl
  · unfold rdN; rw [if_pos l1]; exact l2
  · unfold rdN; rw [if_pos l1]; exact l3
  · rw [g_alI (N := 10) ⟨l4, l5⟩ i0 (by omega) (by omega), (c2 i i0 i1).1]
  · rw [g_alI (N := 10) ⟨l6, l7⟩ i0 (by omega) (by omega), (c2 i i0 i1).2]
def stAt (A : Int → Int) (B : Nat) (x : Int) : Option Nat := if 0 ≤ x ∧ x < A 0 then some (B + 11 + 3 * x.toNat) else none
theorem c_stockingAt (h : LayD M B) (c : CR M B A) (g : GA A) {x : Int} (x0 : -2147483648 ≤ x) (x1 : x < 2147483648) : fX0_stockingAt M B (i2 x) = some (stAt A B x) := by
  have g0 := g.1
  unfold fX0_stockingAt stAt
  by_cases e : 0 ≤ x ∧ x < A 0
  · have e1 : 0 ≤ x ∧ x ≤ A 0 - 1 := by omega
    simp -dsimp (disch := omega) only [↓B1_bp, ↓B2_bp, BP_some, BQ_some, ↓reduceIte, L_0, L_1, L_2, L_3, L_4, L_5, L_6, L_7, L_8, L_9, L_10, L_11, L_12, L_13, L_54, L_14, L_99, L_20, L_30, L_31, L_60, L_19, i2_add, i2_sub, i2_mul, i2_neg, Int.reduceAdd, Int.reduceSub, Int.reduceMul, Int.reduceNeg, Int.reduceLT, Int.reduceLE, Int.reduceEq, i2_le, i2_lt, i2_eq, uA_self, uA_ne, tf_0, not_true_eq_false, not_false_eq_true, ↓NL_bp, BNP_none, BNP_some, d_gk h, d_cnt h c, d_laws h, d_sts h, d_feet h, d_ways h, d_f0 h c, d_f1 h c, c_isWithin, d_st h, if_pos e, tf_t e1]
  · have e1 : ¬ (0 ≤ x ∧ x ≤ A 0 - 1) := by omega
    simp -dsimp (disch := omega) only [↓B1_bp, ↓B2_bp, BP_some, BQ_some, ↓reduceIte, L_0, L_1, L_2, L_3, L_4, L_5, L_6, L_7, L_8, L_9, L_10, L_11, L_12, L_13, L_54, L_14, L_99, L_20, L_30, L_31, L_60, L_19, i2_add, i2_sub, i2_mul, i2_neg, Int.reduceAdd, Int.reduceSub, Int.reduceMul, Int.reduceNeg, Int.reduceLT, Int.reduceLE, Int.reduceEq, i2_le, i2_lt, i2_eq, uA_self, uA_ne, tf_0, not_true_eq_false, not_false_eq_true, ↓NL_bp, BNP_none, BNP_some, d_gk h, d_cnt h c, d_laws h, d_sts h, d_feet h, d_ways h, d_f0 h c, d_f1 h c, c_isWithin, if_neg e, tf_f e1]
theorem c_wayAt (h : LayD M B) {x : Int} (x0 : -2147483648 ≤ x) (x1 : x < 2147483648) : fX0_wayAt M B (i2 x) = some (if 0 ≤ x ∧ x ≤ 1 then some (B + 5 + 3 * x.toNat) else none) := by
  unfold fX0_wayAt
  by_cases e : 0 ≤ x ∧ x ≤ 1
  · simp -dsimp (disch := omega) only [↓B1_bp, ↓B2_bp, BP_some, BQ_some, ↓reduceIte, L_0, L_1, L_2, L_3, L_4, L_5, L_6, L_7, L_8, L_9, L_10, L_11, L_12, L_13, L_54, L_14, L_99, L_20, L_30, L_31, L_60, L_19, i2_add, i2_sub, i2_mul, i2_neg, Int.reduceAdd, Int.reduceSub, Int.reduceMul, Int.reduceNeg, Int.reduceLT, Int.reduceLE, Int.reduceEq, i2_le, i2_lt, i2_eq, uA_self, uA_ne, tf_0, not_true_eq_false, not_false_eq_true, c_isWithin, d_ways h, d_way h, if_pos e, tf_t e]
  · simp -dsimp (disch := omega) only [↓B1_bp, ↓B2_bp, BP_some, BQ_some, ↓reduceIte, L_0, L_1, L_2, L_3, L_4, L_5, L_6, L_7, L_8, L_9, L_10, L_11, L_12, L_13, L_54, L_14, L_99, L_20, L_30, L_31, L_60, L_19, i2_add, i2_sub, i2_mul, i2_neg, Int.reduceAdd, Int.reduceSub, Int.reduceMul, Int.reduceNeg, Int.reduceLT, Int.reduceLE, Int.reduceEq, i2_le, i2_lt, i2_eq, uA_self, uA_ne, tf_0, not_true_eq_false, not_false_eq_true, c_isWithin, if_neg e, tf_f e]
theorem c_isFoot (M : Mm) {x : Int} (x0 : -2147483648 ≤ x) (x1 : x < 2147483648) : fX11_isFoot M (i2 x) = some (i2 (tf (0 ≤ x ∧ x ≤ 1))) := by
  unfold fX11_isFoot
  simp -dsimp (disch := omega) only [↓B1_bp, ↓B2_bp, BP_some, BQ_some, ↓reduceIte, L_0, L_1, L_2, L_3, L_4, L_5, L_6, L_7, L_8, L_9, L_10, L_11, L_12, L_13, L_54, L_14, L_99, L_20, L_30, L_31, L_60, L_19, i2_add, i2_sub, i2_mul, i2_neg, Int.reduceAdd, Int.reduceSub, Int.reduceMul, Int.reduceNeg, Int.reduceLT, Int.reduceLE, Int.reduceEq, i2_le, i2_lt, i2_eq, uA_self, uA_ne, tf_0, not_true_eq_false, not_false_eq_true, c_isWithin, tf_bz]
theorem c_wornOn0 (h : LayD M B) (c : CR M B A) (g : GA A) : fX0_wornOn M B (i2 0) = some (stAt A B (A 2)) := by
  have g0 := g.1
  have g2 := g.2.2.1
  have hs := c_stockingAt h c g (x := A 2) (by omega) (by omega)
  have hf := c_isFoot M (x := 0) (by decide) (by decide)
  rw [tf_t (by decide)] at hf
  unfold fX0_wornOn
  simp -dsimp (disch := omega) only [↓B1_bp, ↓B2_bp, BP_some, BQ_some, ↓reduceIte, L_0, L_1, L_2, L_3, L_4, L_5, L_6, L_7, L_8, L_9, L_10, L_11, L_12, L_13, L_54, L_14, L_99, L_20, L_30, L_31, L_60, L_19, i2_add, i2_sub, i2_mul, i2_neg, Int.reduceAdd, Int.reduceSub, Int.reduceMul, Int.reduceNeg, Int.reduceLT, Int.reduceLE, Int.reduceEq, i2_le, i2_lt, i2_eq, uA_self, uA_ne, tf_0, not_true_eq_false, not_false_eq_true, ↓NL_bp, BNP_none, BNP_some, d_gk h, d_cnt h c, d_laws h, d_sts h, d_feet h, d_ways h, d_f0 h c, d_f1 h c, hf, hs]
theorem c_wornOn1 (h : LayD M B) (c : CR M B A) (g : GA A) : fX0_wornOn M B (i2 1) = some (stAt A B (A 3)) := by
  have g0 := g.1
  have g2 := g.2.2.2.1
  have hs := c_stockingAt h c g (x := A 3) (by omega) (by omega)
  have hf := c_isFoot M (x := 1) (by decide) (by decide)
  rw [tf_t (by decide)] at hf
  unfold fX0_wornOn
  simp -dsimp (disch := omega) only [↓B1_bp, ↓B2_bp, BP_some, BQ_some, ↓reduceIte, L_0, L_1, L_2, L_3, L_4, L_5, L_6, L_7, L_8, L_9, L_10, L_11, L_12, L_13, L_54, L_14, L_99, L_20, L_30, L_31, L_60, L_19, i2_add, i2_sub, i2_mul, i2_neg, Int.reduceAdd, Int.reduceSub, Int.reduceMul, Int.reduceNeg, Int.reduceLT, Int.reduceLE, Int.reduceEq, i2_le, i2_lt, i2_eq, uA_self, uA_ne, tf_0, not_true_eq_false, not_false_eq_true, ↓NL_bp, BNP_none, BNP_some, d_gk h, d_cnt h c, d_laws h, d_sts h, d_feet h, d_ways h, d_f0 h c, d_f1 h c, hf, hs]
/-- one stocking changes, if there is one -/
def onA (A : Int → Int) (f : (Int → Int) → Int → Int) (x : Int) : Int → Int := if 0 ≤ x ∧ x < A 0 then putA A x (f (stA A x)) else A
/-- those on the feet change -/
def pwA (A : Int → Int) (f : (Int → Int) → Int → Int) : Int → Int := onA (onA A f (A 2)) f (A 3)
theorem onA_lo {A : Int → Int} {f : (Int → Int) → Int → Int} {x y : Int} (h : y < 54) : onA A f x y = A y := by
  unfold onA
  split
  · exact put_lo (by omega) h
  · rfl
theorem GA.on {A : Int → Int} {f : (Int → Int) → Int → Int} {x : Int} (g : GA A) (hf : ∀ S, GS S → GS (f S)) : GA (onA A f x) := by
  unfold onA
  split
  · rename_i e
    exact g.put e.1 (hf _ (g.2.2.2.2.2.2.2 x e.1 e.2))
  · exact g
theorem GA.pw {A : Int → Int} {f : (Int → Int) → Int → Int} (g : GA A) (hf : ∀ S, GS S → GS (f S)) : GA (pwA A f) := (g.on hf).on hf
theorem lwA_on {A : Int → Int} {f : (Int → Int) → Int → Int} {x j : Int} (h : j < 50) : lwA (onA A f x) j = lwA A j := onA_lo (by omega)
/-- a stocking's pass, told of the drawer -/
theorem c_onPass (h : LayD M B) (c : CR M B A) (g : GA A) {p : Nat} {n fr to : Int} {wt nt : Int → Int} (hw : WR M p n wt nt) (hp : p + 2 < B + 11 ∨ B + 35 ≤ p) (t9 : -2147483648 ≤ to ∧ to < 2147483648) (f0 : 0 ≤ fr) (f9 : fr < 2147483648) {k : Nat} (hk : (k : Int) < A 0) : ∃ M', fX7_passWay M (B + 11 + 3 * k) p (i2 fr) (i2 to) (B + 1) = some M' ∧ CR M' B (putA A k (wayS (lwA A) wt nt fr (min to n - fr).toNat (stA A k))) ∧ Same M M' (B + 11) (B + 35) := by
  have g0 := g.1
  have k8 : k < 8 := by omega
  have gs := g.2.2.2.2.2.2.2 k (by omega) hk
  have hr := c.2.2.2.2 k hk
  have hl := d_lay h k8
  have hL := d_law h c
  have hg := g.2.2.2.2.2.1
  obtain ⟨C', R', W', e, r⟩ := c_passWay (S := stA A k) (C := gI M (B + 11 + 3 * k)) (R := gI M (B + 11 + 3 * k + 1)) (W := gI M (B + 11 + 3 * k + 2)) hl hg (q := B + 1) (p := p) (by unfold Off; omega) hL hw (by unfold Off; omega) (by unfold Off; omega) (by unfold Off; omega) t9 f0 f9 hr gs
  rw [st_self] at e
  exact ⟨_, e, c.put g hk r (gs.way hg _ _), (Same.st M _ C' R' W').wide (by omega) (by omega)⟩
theorem WR.same {M M' : Mm} {p lo hi : Nat} {n : Int} {wt nt : Int → Int} (hs : Same M M' lo hi) (h : WR M p n wt nt) (hd : p + 2 < lo ∨ hi ≤ p) : WR M' p n wt nt := by
  obtain ⟨⟨-, h2, h3, -, h5⟩, hg⟩ := hs
  obtain ⟨a, b, c1, d, e, f⟩ := h
  unfold WR gk rdI rdN alI at *
  rw [h2, h3, h5, hg p (by omega), hg (p + 1) (by omega), hg (p + 2) (by omega)]
  exact ⟨a, b, c1, d, e, f⟩
theorem c_footPass (h : LayD M B) (c : CR M B A) (g : GA A) {p : Nat} {n fr to : Int} {wt nt : Int → Int} (hw : WR M p n wt nt) (hp : p + 2 < B + 11 ∨ B + 35 ≤ p) (t9 : -2147483648 ≤ to ∧ to < 2147483648) (f0 : 0 ≤ fr) (f9 : fr < 2147483648) (x : Int) : ∃ M1, (∀ (f : Mm → Option Mm), NL (stAt A B x) (f M) (fun a => B1 (rdN M B 3 0) fun q => B1 (gk M a 10) fun _ => B1 (fX7_passWay M a p (i2 fr) (i2 to) q) f) = f M1) ∧ CR M1 B (onA A (wayS (lwA A) wt nt fr (min to n - fr).toNat) x) ∧ Same M M1 (B + 11) (B + 35) := by
  unfold stAt onA
  by_cases e : 0 ≤ x ∧ x < A 0
  · obtain ⟨M1, e1, c1, sm⟩ := c_onPass h c g hw hp t9 f0 f9 (k := x.toNat) (by omega)
    rw [show ((x.toNat : Nat) : Int) = x by omega] at c1
    refine ⟨M1, fun f => ?_, by rw [if_pos e]; exact c1, sm⟩
    have gkk : gk M (B + 11 + 3 * x.toNat) 10 = some () := if_pos (d_lay h (by have := g.1; omega)).1
    simp -dsimp (disch := omega) only [↓NL_bp, BNP_none, BNP_some, if_pos e, ↓B1_bp, BP_some, d_laws h, gkk, e1]
  · refine ⟨M, fun f => ?_, by rw [if_neg e]; exact c, Same.rf _ _ _⟩
    rw [if_neg e]
    rfl
theorem wayS_cg {L L' wt nt : Int → Int} (h : ∀ j, 0 ≤ j → j < 8 → L' j = L j) (i : Int) (d : Nat) (S : Int → Int) : wayS L' wt nt i d S = wayS L wt nt i d S := by
  have e0 : ∀ mv S, mvS L' mv S = mvS L mv S := fun mv S => by
    unfold mvS ladS lowS higS lo1 hi1 lo0 hi0 dnP upP
    rw [h 0 (by decide) (by decide), h 1 (by decide) (by decide)]
  have e1 : ∀ mv, mvS L' mv = mvS L mv := fun mv => funext fun S => e0 mv S
  have e2 : ∀ a b S, legS L' a b S = legS L a b S := fun a b S => by unfold legS; rw [e1]
  induction d generalizing i S with
  | zero => rfl
  | succ d ih => show wayS L' wt nt _ d _ = wayS L wt nt _ d _; rw [e2, ih]
theorem c_dPass (h : LayD M B) (c : CR M B A) (g : GA A) {p : Nat} {n fr to : Int} {wt nt : Int → Int} (hw : WR M p n wt nt) (hp : p + 2 < B + 11 ∨ B + 35 ≤ p) (t9 : -2147483648 ≤ to ∧ to < 2147483648) (f0 : 0 ≤ fr) (f9 : fr < 2147483648) : ∃ M', fX0_passWay M B p (i2 fr) (i2 to) = some M' ∧ CR M' B (pwA A (wayS (lwA A) wt nt fr (min to n - fr).toNat)) ∧ Same M M' (B + 11) (B + 35) := by
  obtain ⟨N, hN⟩ := FL3
  have g2 := g.2.2.1
  have g3 := g.2.2.2.1
  have hg := g.2.2.2.2.2.1
  obtain ⟨M1, k1, c1, sm1⟩ := c_footPass h c g hw hp t9 f0 f9 (A 2)
  have h1 := h.same sm1
  have gA1 : GA (onA A (wayS (lwA A) wt nt fr (min to n - fr).toNat) (A 2)) := g.on fun S q => q.way hg _ _
  have hw1 := hw.same sm1 (by omega)
  obtain ⟨M2, k2, c2, sm2⟩ := c_footPass h1 c1 gA1 hw1 hp t9 f0 f9 (A 3)
  have u : ∀ (K : Nat) (v : Int32) (M : Mm), fX0_passWay_L3 B p (i2 fr) (i2 to) (K + 1) v M = if 2 ≤ v then some M else B1 (gk M B 3) fun _ => B1 (fX0_wornOn M B v) fun x => NL x (fX0_passWay_L3 B p (i2 fr) (i2 to) K (v + 1) M) (fun a => B1 (rdN M B 3 0) fun q => B1 (gk M a 10) fun _ => B1 (fX7_passWay M a p (i2 fr) (i2 to) q) fun M' => fX0_passWay_L3 B p (i2 fr) (i2 to) K (v + 1) M') := fun _ _ _ => rfl
  have w0 := c_wornOn0 h c g
  have w1 := c_wornOn1 h1 c1 gA1
  rw [show onA A (wayS (lwA A) wt nt fr (min to n - fr).toNat) (A 2) 3 = A 3 from onA_lo (by decide)] at w1
  refine ⟨M2, ?_, ?_, sm1.tr sm2⟩
  · unfold fX0_passWay
    rw [hN, show (0 : Int32) = i2 0 from L_0, u, if_neg (by decide +kernel), d_gk h, B1_some, w0, B1_some, k1 (fun M' => fX0_passWay_L3 B p (i2 fr) (i2 to) (N + 1 + 1) (i2 0 + 1) M'), show i2 0 + 1 = i2 1 from by decide +kernel, u, if_neg (by decide +kernel), d_gk h1, B1_some, w1, B1_some, k2 (fun M' => fX0_passWay_L3 B p (i2 fr) (i2 to) (N + 1) (i2 1 + 1) M'), show i2 1 + 1 = i2 2 from by decide +kernel, u, if_pos (by decide +kernel)]
  · have e : wayS (lwA (onA A (wayS (lwA A) wt nt fr (min to n - fr).toNat) (A 2))) wt nt fr (min to n - fr).toNat = wayS (lwA A) wt nt fr (min to n - fr).toNat := funext fun S => wayS_cg (fun j _ hj => lwA_on (by omega)) _ _ _
    rw [e] at c2
    exact c2
end DRF
