section OPW
variable {M : Mm} {A : Int → Int}
theorem c_footOf {B : Nat} (h : LayD M B) (c : CR M B A) (g : GA A) {x : Int} (x0 : -2147483648 ≤ x) (x1 : x < 2147483648) : fX0_footOf M B (i2 x) = some (i2 (if A 2 = x then 0 else if A 3 = x then 1 else -9)) := by
  have g0 := g.1
  have g2 := g.2.2.1
  have g3 := g.2.2.2.1
  unfold fX0_footOf
  simp -dsimp (disch := omega) only [↓B1_bp, ↓B2_bp, BP_some, BQ_some, ↓reduceIte, L_0, L_1, L_2, L_3, L_4, L_5, L_6, L_7, L_8, L_9, L_10, L_11, L_12, L_13, L_54, L_14, L_99, L_20, L_30, L_31, L_60, L_19, i2_add, i2_sub, i2_mul, i2_neg, Int.reduceAdd, Int.reduceSub, Int.reduceMul, Int.reduceNeg, Int.reduceLT, Int.reduceLE, Int.reduceEq, i2_le, i2_lt, i2_eq, uA_self, uA_ne, tf_0, not_true_eq_false, not_false_eq_true, ↓NL_bp, BNP_none, BNP_some, d_gk h, d_cnt h c, d_laws h, d_sts h, d_feet h, d_ways h, d_f0 h c, d_f1 h c]
  (repeat' split) <;> rfl
theorem c_isOnAFoot {B : Nat} (h : LayD M B) (c : CR M B A) (g : GA A) {x : Int} (x0 : -2147483648 ≤ x) (x1 : x < 2147483648) : fX0_isOnAFoot M B (i2 x) = some (i2 (if A 2 = x ∨ A 3 = x then 1 else 0)) := by
  have k := c_footOf h c g x0 x1
  unfold fX0_isOnAFoot
  by_cases a : A 2 = x
  · rw [if_pos a] at k
    rw [if_pos (Or.inl a)]
    simp -dsimp (disch := omega) only [↓B1_bp, ↓B2_bp, BP_some, BQ_some, ↓reduceIte, L_0, L_1, L_2, L_3, L_4, L_5, L_6, L_7, L_8, L_9, L_10, L_11, L_12, L_13, L_54, L_14, L_99, L_20, L_30, L_31, L_60, L_19, i2_add, i2_sub, i2_mul, i2_neg, Int.reduceAdd, Int.reduceSub, Int.reduceMul, Int.reduceNeg, Int.reduceLT, Int.reduceLE, Int.reduceEq, i2_le, i2_lt, i2_eq, uA_self, uA_ne, tf_0, not_true_eq_false, not_false_eq_true, d_gk h, k]
  · rw [if_neg a] at k
    by_cases b : A 3 = x
    · rw [if_pos b] at k
      rw [if_pos (Or.inr b)]
      simp -dsimp (disch := omega) only [↓B1_bp, ↓B2_bp, BP_some, BQ_some, ↓reduceIte, L_0, L_1, L_2, L_3, L_4, L_5, L_6, L_7, L_8, L_9, L_10, L_11, L_12, L_13, L_54, L_14, L_99, L_20, L_30, L_31, L_60, L_19, i2_add, i2_sub, i2_mul, i2_neg, Int.reduceAdd, Int.reduceSub, Int.reduceMul, Int.reduceNeg, Int.reduceLT, Int.reduceLE, Int.reduceEq, i2_le, i2_lt, i2_eq, uA_self, uA_ne, tf_0, not_true_eq_false, not_false_eq_true, d_gk h, k]
    · rw [if_neg b] at k
      rw [if_neg (by omega)]
      simp -dsimp (disch := omega) only [↓B1_bp, ↓B2_bp, BP_some, BQ_some, ↓reduceIte, L_0, L_1, L_2, L_3, L_4, L_5, L_6, L_7, L_8, L_9, L_10, L_11, L_12, L_13, L_54, L_14, L_99, L_20, L_30, L_31, L_60, L_19, i2_add, i2_sub, i2_mul, i2_neg, Int.reduceAdd, Int.reduceSub, Int.reduceMul, Int.reduceNeg, Int.reduceLT, Int.reduceLE, Int.reduceEq, i2_le, i2_lt, i2_eq, uA_self, uA_ne, tf_0, not_true_eq_false, not_false_eq_true, d_gk h, k]
theorem m_footOf (h : LayM M) (g : GA A) {x : Int} (x0 : -2147483648 ≤ x) (x1 : x < 2147483648) : fX12_footOf (M.row 165 A) 164 (i2 x) = some (i2 (if A 2 = x then 0 else if A 3 = x then 1 else -1)) := by
  have g0 := g.1
  have g2 := g.2.2.1
  have g3 := g.2.2.2.1
  unfold fX12_footOf
  simp -dsimp (disch := omega) only [↓B1_bp, ↓B2_bp, BP_some, BQ_some, ↓reduceIte, gk_row, rdN_row, alN_row, alN__row, gk_m h, rdm0 h, rdm1 h, rdm2 h, rdm3 h, L_0, L_1, L_2, L_3, L_4, L_5, L_6, L_7, L_8, L_9, L_10, L_11, L_12, L_13, L_54, L_14, L_99, L_20, L_30, L_31, L_60, L_19, i2_add, i2_sub, i2_mul, i2_neg, Int.reduceAdd, Int.reduceSub, Int.reduceMul, Int.reduceNeg, Int.reduceLT, Int.reduceLE, Int.reduceEq, m_al h, i2_eq]
  (repeat' split) <;> rfl
theorem m_setP (h : LayM M) {k w v : Int} (k0 : 0 ≤ k) (k8 : k < 8) (w0 : 0 ≤ w) (w13 : w < 13) : fX12_sets (M.row 165 A) 164 (i2 k) (i2 w) (i2 v) = some (M.row 165 (putA A k (uA (stA A k) w v))) := by
  have q := m_setsP (A := A) (S := stA A k) (v := v) h k0 k8 w0 w13
  rwa [put_st] at q
theorem op_wash (h : LayC M) (hm : LayM M) (c : CR M 1 A) (g : GA A) (ha : M.g 165 = rI A) {x : Int} (x0 : -2147483648 ≤ x) (x1 : x < 2147483648) : OpR M A (fun M => fX11_wash M 0 (i2 x)) (fun M => fX12_wash M 164 (i2 x)) := by
  have g0 := g.1
  have q2 := c_stockingAt (t_d1 h) c g x0 x1
  have q3 := c_isOnAFoot (t_d1 h) c g x0 x1
  by_cases e : 0 ≤ x ∧ x < A 0
  · have e1 : 0 ≤ x ∧ x ≤ A 0 - 1 := by omega
    have e2 : stAt A 1 x = some (1 + 11 + 3 * x.toNat) := if_pos e
    have hx : ((x.toNat : Nat) : Int) = x := by omega
    have gs := g.2.2.2.2.2.2.2 x e.1 e.2
    have hl := d_lay (t_d1 h) (k := x.toNat) (by omega)
    have sr := c.2.2.2.2 x.toNat (by omega)
    rw [hx] at sr
    rw [e2] at q2
    by_cases r : A 2 = x ∨ A 3 = x
    · rw [if_pos r] at q3
      refine opR_keep (r := i2 (-4)) c g ha ?_ ?_
      · show fX11_wash M 0 (i2 x) = _
        unfold fX11_wash
        simp -dsimp (disch := omega) only [↓B1_bp, ↓B2_bp, BP_some, BQ_some, ↓reduceIte, L_0, L_1, L_2, L_3, L_4, L_5, L_6, L_7, L_8, L_9, L_10, L_11, L_12, L_13, L_54, L_14, L_99, L_20, L_30, L_31, L_60, L_19, i2_add, i2_sub, i2_mul, i2_neg, Int.reduceAdd, Int.reduceSub, Int.reduceMul, Int.reduceNeg, Int.reduceLT, Int.reduceLE, Int.reduceEq, i2_le, i2_lt, i2_eq, uA_self, uA_ne, tf_0, not_true_eq_false, not_false_eq_true, ↓NL_bp, BNP_none, BNP_some, t_now h, d_gk (t_d1 h), q2, q3]
      · show fX12_wash (M.row 165 A) 164 (i2 x) = _
        have a1 := m_isOne (A := A) hm g x0 x1
        have a2 := m_footOf (A := A) hm g x0 x1
        rw [tf_t e1] at a1
        have a3 : (if A 2 = x then (0 : Int) else if A 3 = x then 1 else -1) = 0 ∨ (if A 2 = x then (0 : Int) else if A 3 = x then 1 else -1) = 1 := by
          repeat' split
          all_goals omega
        unfold fX12_wash
        rcases a3 with a3 | a3 <;> rw [a3] at a2 <;>
        · simp -dsimp (disch := omega) only [↓B1_bp, BP_some, ↓reduceIte, gk_row, gk_m hm, L_0, L_4, i2_neg, i2_eq, i2_lt, Int.reduceEq, Int.reduceLT, a1, a2]
    · rw [if_neg r] at q3
      have w1 : wrI M (1 + 11 + 3 * x.toNat) 10 8 (i2 0) = some (stM M (1 + 11 + 3 * x.toNat) (uA (gI M (1 + 11 + 3 * x.toNat)) 8 0) (gI M (1 + 11 + 3 * x.toNat + 1)) (gI M (1 + 11 + 3 * x.toNat + 2))) := by
        have w := st_wr8 (C := gI M (1 + 11 + 3 * x.toNat)) (R := gI M (1 + 11 + 3 * x.toNat + 1)) (W := gI M (1 + 11 + 3 * x.toNat + 2)) hl 0
        rwa [st_self] at w
      have k8 : rdI M (1 + 11 + 3 * x.toNat) 10 8 = some (i2 (stA A x 8)) := by
        rw [g_rdI hl.1, ← sr.2.2.1]
        rfl
      have sr' : SR (uA (gI M (1 + 11 + 3 * x.toNat)) 8 0) (gI M (1 + 11 + 3 * x.toNat + 1)) (gI M (1 + 11 + 3 * x.toNat + 2)) (uA (stA A x) 8 0) := by
        obtain ⟨b0, b1, b2, b3⟩ := sr
        exact ⟨b0, b1, rfl, fun q => absurd (show (1 : Int) ≤ 0 from q) (by decide), fun q => absurd (show (2 : Int) ≤ 0 from q) (by decide)⟩
      have gs' : GS (uA (stA A x) 8 0) := by
        obtain ⟨a0, a1, a2, a3, a4, a5, a6, a8, a9, a10, a11, a12, ad⟩ := gs
        exact ⟨a0, a1, a2, a3, a4, a5, a6, ⟨(by decide : (0 : Int) ≤ 0), (by decide : (0 : Int) ≤ 2)⟩, a9, a10, a11, a12, fun q => absurd (show (0 : Int) = 2 from q) (by decide)⟩
      refine opR_st (r := i2 (stA A x 8)) hm c g ha e ?_ sr' gs' fun X hX => ?_
      · show fX11_wash M 0 (i2 x) = _
        unfold fX11_wash
        simp -dsimp (disch := omega) only [↓B1_bp, ↓B2_bp, BP_some, BQ_some, ↓reduceIte, L_0, L_1, L_2, L_3, L_4, L_5, L_6, L_7, L_8, L_9, L_10, L_11, L_12, L_13, L_54, L_14, L_99, L_20, L_30, L_31, L_60, L_19, i2_add, i2_sub, i2_mul, i2_neg, Int.reduceAdd, Int.reduceSub, Int.reduceMul, Int.reduceNeg, Int.reduceLT, Int.reduceLE, Int.reduceEq, i2_le, i2_lt, i2_eq, uA_self, uA_ne, tf_0, not_true_eq_false, not_false_eq_true, ↓NL_bp, BNP_none, BNP_some, t_now h, d_gk (t_d1 h), q2, q3, k8, w1]
      · show fX12_wash (X.row 165 A) 164 (i2 x) = _
        have a1 := m_isOne (A := A) hX g x0 x1
        have a2 := m_footOf (A := A) hX g x0 x1
        rw [tf_t e1] at a1
        rw [if_neg (by omega), if_neg (by omega)] at a2
        have a3 := m_setP (A := A) hX (k := x) (w := 8) (v := 0) e.1 (by omega) (by decide) (by decide)
        unfold fX12_wash
        simp -dsimp (disch := omega) only [↓B1_bp, BP_some, ↓reduceIte, gk_row, gk_m hX, L_0, L_8, i2_eq, i2_lt, Int.reduceEq, Int.reduceLT, a1, a2, m_st hX, a3]
  · have e1 : ¬ (0 ≤ x ∧ x ≤ A 0 - 1) := by omega
    have e2 : stAt A 1 x = none := if_neg e
    rw [e2] at q2
    refine opR_keep (r := i2 (-1)) c g ha ?_ ?_
    · show fX11_wash M 0 (i2 x) = _
      unfold fX11_wash
      simp -dsimp (disch := omega) only [↓B1_bp, ↓B2_bp, BP_some, BQ_some, ↓reduceIte, L_0, L_1, L_2, L_3, L_4, L_5, L_6, L_7, L_8, L_9, L_10, L_11, L_12, L_13, L_54, L_14, L_99, L_20, L_30, L_31, L_60, L_19, i2_add, i2_sub, i2_mul, i2_neg, Int.reduceAdd, Int.reduceSub, Int.reduceMul, Int.reduceNeg, Int.reduceLT, Int.reduceLE, Int.reduceEq, i2_le, i2_lt, i2_eq, uA_self, uA_ne, tf_0, not_true_eq_false, not_false_eq_true, ↓NL_bp, BNP_none, BNP_some, t_now h, d_gk (t_d1 h), q2]
    · show fX12_wash (M.row 165 A) 164 (i2 x) = _
      have a1 := m_isOne (A := A) hm g x0 x1
      rw [tf_f e1] at a1
      unfold fX12_wash
      simp -dsimp (disch := omega) only [↓B1_bp, BP_some, ↓reduceIte, gk_row, gk_m hm, L_0, L_1, i2_neg, i2_eq, Int.reduceEq, a1]
end OPW
