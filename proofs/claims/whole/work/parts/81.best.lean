section BEST
variable {M : Mm} {A : Int → Int}
theorem c_hasLadderOn (h : LayC M) (c : CR M 1 A) (g : GA A) {f : Int} (ef : 0 ≤ f ∧ f ≤ 1) : fX11_hasLadderOn M 0 (i2 f) = some (i2 (tf (0 ≤ A (2 + f) ∧ 0 ≤ stA A (A (2 + f)) 6))) := by
  have g0 := g.1
  have bf := b_feet g ef.1 ef.2
  have w := c_wornOn (t_d1 h) c g (f := f) (by omega)
  unfold fX11_hasLadderOn
  by_cases e4 : 0 ≤ A (2 + f)
  · have hk : (((A (2 + f)).toNat : Nat) : Int) = A (2 + f) := by omega
    rw [show stAt A 1 (A (2 + f)) = some (1 + 11 + 3 * (A (2 + f)).toNat) from if_pos ⟨e4, bf.2⟩] at w
    have hh := d_hasLadder (t_d1 h) c g (k := (A (2 + f)).toNat) (by omega)
    have gk1 := d_gk10 (t_d1 h) (k := (A (2 + f)).toNat) (by omega)
    rw [hk] at hh
    by_cases q : 0 ≤ stA A (A (2 + f)) 6
    · rw [tf_t ⟨e4, q⟩]
      rw [tf_t q] at hh
      simp -dsimp (disch := omega) only [↓B1_bp, ↓B2_bp, BP_some, BQ_some, ↓reduceIte, L_0, L_1, L_2, L_3, L_4, L_5, L_6, L_7, L_8, L_9, L_10, L_11, L_12, L_13, L_54, L_14, L_99, L_20, L_30, L_31, L_60, L_19, i2_add, i2_sub, i2_mul, i2_neg, Int.reduceAdd, Int.reduceSub, Int.reduceMul, Int.reduceNeg, Int.reduceLT, Int.reduceLE, Int.reduceEq, i2_le, i2_lt, i2_eq, uA_self, uA_ne, tf_0, not_true_eq_false, not_false_eq_true, L_15, L_40, L_100, L_101, L_200, L_999, ↓NL_bp, BNP_none, BNP_some, and_self, if_true, if_false, and_true, true_and, and_false, false_and, t_now h, d_gk (t_d1 h), w, gk1, hh]
    · rw [tf_f (fun z => q z.2)]
      rw [tf_f q] at hh
      simp -dsimp (disch := omega) only [↓B1_bp, ↓B2_bp, BP_some, BQ_some, ↓reduceIte, L_0, L_1, L_2, L_3, L_4, L_5, L_6, L_7, L_8, L_9, L_10, L_11, L_12, L_13, L_54, L_14, L_99, L_20, L_30, L_31, L_60, L_19, i2_add, i2_sub, i2_mul, i2_neg, Int.reduceAdd, Int.reduceSub, Int.reduceMul, Int.reduceNeg, Int.reduceLT, Int.reduceLE, Int.reduceEq, i2_le, i2_lt, i2_eq, uA_self, uA_ne, tf_0, not_true_eq_false, not_false_eq_true, L_15, L_40, L_100, L_101, L_200, L_999, ↓NL_bp, BNP_none, BNP_some, and_self, if_true, if_false, and_true, true_and, and_false, false_and, t_now h, d_gk (t_d1 h), w, gk1, hh]
  · rw [show stAt A 1 (A (2 + f)) = none from if_neg (fun q => e4 q.1)] at w
    rw [tf_f (fun z => e4 z.1)]
    simp -dsimp (disch := omega) only [↓B1_bp, ↓B2_bp, BP_some, BQ_some, ↓reduceIte, L_0, L_1, L_2, L_3, L_4, L_5, L_6, L_7, L_8, L_9, L_10, L_11, L_12, L_13, L_54, L_14, L_99, L_20, L_30, L_31, L_60, L_19, i2_add, i2_sub, i2_mul, i2_neg, Int.reduceAdd, Int.reduceSub, Int.reduceMul, Int.reduceNeg, Int.reduceLT, Int.reduceLE, Int.reduceEq, i2_le, i2_lt, i2_eq, uA_self, uA_ne, tf_0, not_true_eq_false, not_false_eq_true, L_15, L_40, L_100, L_101, L_200, L_999, ↓NL_bp, BNP_none, BNP_some, and_self, if_true, if_false, and_true, true_and, and_false, false_and, t_now h, d_gk (t_d1 h), w]
theorem m_isLaddered (h : LayM M) (g : GA A) {f : Int} (ef : 0 ≤ f ∧ f ≤ 1) : fX12_isLaddered (M.row 165 A) 164 (i2 f) = some (i2 (tf (0 ≤ A (2 + f) ∧ 0 ≤ stA A (A (2 + f)) 6))) := by
  have g0 := g.1
  have bf := b_feet g ef.1 ef.2
  have hm := h
  unfold fX12_isLaddered
  by_cases e4 : 0 ≤ A (2 + f)
  · have n : ¬ A (2 + f) < 0 := by omega
    have hh := m_hasL (A := A) h g e4 bf.2
    by_cases q : 0 ≤ stA A (A (2 + f)) 6
    · rw [tf_t ⟨e4, q⟩]
      rw [tf_t q] at hh
      simp -dsimp (disch := omega) only [↓B1_bp, ↓B2_bp, BP_some, BQ_some, ↓reduceIte, gk_row, rdN_row, alN_row, alN__row, gk_m hm, rdm0 hm, rdm1 hm, rdm2 hm, rdm3 hm, L_0, L_1, L_2, L_3, L_4, L_5, L_6, L_7, L_8, L_9, L_10, L_11, L_12, L_13, L_54, L_14, L_99, L_20, L_30, L_31, L_60, L_19, i2_add, i2_sub, i2_mul, i2_neg, Int.reduceAdd, Int.reduceSub, Int.reduceMul, Int.reduceNeg, Int.reduceLT, Int.reduceLE, Int.reduceEq, i2_le, i2_lt, i2_eq, J_0, J_1, J_2, J_3, J_5, J_7, J_8, J_9, J_10, J_13, J_15, J_30, J_60, J_99, J_100, J_999, J_n1, i2_j2, m_in, tf_0, not_true_eq_false, not_false_eq_true, m_al hm, L_15, L_40, L_100, L_101, L_190, L_200, L_999, uA_self, and_self, if_true, if_false, and_true, true_and, and_false, false_and, n, hh]
    · rw [tf_f (fun z => q z.2)]
      rw [tf_f q] at hh
      simp -dsimp (disch := omega) only [↓B1_bp, ↓B2_bp, BP_some, BQ_some, ↓reduceIte, gk_row, rdN_row, alN_row, alN__row, gk_m hm, rdm0 hm, rdm1 hm, rdm2 hm, rdm3 hm, L_0, L_1, L_2, L_3, L_4, L_5, L_6, L_7, L_8, L_9, L_10, L_11, L_12, L_13, L_54, L_14, L_99, L_20, L_30, L_31, L_60, L_19, i2_add, i2_sub, i2_mul, i2_neg, Int.reduceAdd, Int.reduceSub, Int.reduceMul, Int.reduceNeg, Int.reduceLT, Int.reduceLE, Int.reduceEq, i2_le, i2_lt, i2_eq, J_0, J_1, J_2, J_3, J_5, J_7, J_8, J_9, J_10, J_13, J_15, J_30, J_60, J_99, J_100, J_999, J_n1, i2_j2, m_in, tf_0, not_true_eq_false, not_false_eq_true, m_al hm, L_15, L_40, L_100, L_101, L_190, L_200, L_999, uA_self, and_self, if_true, if_false, and_true, true_and, and_false, false_and, n, hh]
  · have n : A (2 + f) < 0 := by omega
    rw [tf_f (fun z => e4 z.1)]
    simp -dsimp (disch := omega) only [↓B1_bp, ↓B2_bp, BP_some, BQ_some, ↓reduceIte, gk_row, rdN_row, alN_row, alN__row, gk_m hm, rdm0 hm, rdm1 hm, rdm2 hm, rdm3 hm, L_0, L_1, L_2, L_3, L_4, L_5, L_6, L_7, L_8, L_9, L_10, L_11, L_12, L_13, L_54, L_14, L_99, L_20, L_30, L_31, L_60, L_19, i2_add, i2_sub, i2_mul, i2_neg, Int.reduceAdd, Int.reduceSub, Int.reduceMul, Int.reduceNeg, Int.reduceLT, Int.reduceLE, Int.reduceEq, i2_le, i2_lt, i2_eq, J_0, J_1, J_2, J_3, J_5, J_7, J_8, J_9, J_10, J_13, J_15, J_30, J_60, J_99, J_100, J_999, J_n1, i2_j2, m_in, tf_0, not_true_eq_false, not_false_eq_true, m_al hm, L_15, L_40, L_100, L_101, L_190, L_200, L_999, uA_self, and_self, if_true, if_false, and_true, true_and, and_false, false_and, n]
theorem op_dabbed (h : LayC M) (hm : LayM M) (c : CR M 1 A) (g : GA A) (ha : M.g 165 = rI A) {x y z : Int} (x0 : -2147483648 ≤ x) (x1 : x < 2147483648) (y0 : -2147483648 ≤ y) (y1 : y < 2147483648) (z0 : -2147483648 ≤ z) (z1 : z < 2147483648) (hi : Inv M) : Op M (fun M => fX11_dabbed M 0 (i2 x) (i2 y) (i2 z)) (fun M => fX12_dabbed M 164 (i2 x) (i2 y) (i2 z)) := by
  have g0 := g.1
  have q1 := c_wayAt (t_d1 h) y0 y1
  have q2 := c_isFoot M x0 x1
  by_cases e1 : 0 ≤ x ∧ x ≤ 1
  · rw [tf_t e1] at q2
    have bf := b_feet g e1.1 e1.2
    by_cases e2 : 0 ≤ y ∧ y ≤ 1
    · rw [if_pos e2] at q1
      have gc := g_wcnt g e2
      have wr := d_wrx (t_d1 h) c g e2
      by_cases e3 : 0 ≤ z ∧ z ≤ A (12 + y)
      · have te3 : tf (0 ≤ z ∧ z ≤ A (12 + y)) = 1 := tf_t e3
        have hc := c_hasLadderOn h c g e1
        by_cases e4 : 0 ≤ A (2 + x) ∧ 0 ≤ stA A (A (2 + x)) 6
        · rw [tf_t e4] at hc
          obtain ⟨X, p1, p2⟩ := c_openDabbed h c g e1 e2 e3.1 e3.2 e4.1 e4.2
          refine op_T (X := X) (r := i2 (opS (dbS A y z (stA A (A (2 + x)))))) hi hm ha g ?_ (TrP.scr p2) (tr165 p2) (TrP.cr p2 g c) fun Y hY => ?_
          · unfold fX11_dabbed
            simp -dsimp (disch := omega) only [↓B1_bp, ↓B2_bp, BP_some, BQ_some, ↓reduceIte, L_0, L_1, L_2, L_3, L_4, L_5, L_6, L_7, L_8, L_9, L_10, L_11, L_12, L_13, L_54, L_14, L_99, L_20, L_30, L_31, L_60, L_19, i2_add, i2_sub, i2_mul, i2_neg, Int.reduceAdd, Int.reduceSub, Int.reduceMul, Int.reduceNeg, Int.reduceLT, Int.reduceLE, Int.reduceEq, i2_le, i2_lt, i2_eq, uA_self, uA_ne, tf_0, not_true_eq_false, not_false_eq_true, L_15, L_40, L_100, L_101, L_200, L_999, ↓NL_bp, BNP_none, BNP_some, and_self, if_true, if_false, and_true, true_and, and_false, false_and, t_now h, d_gk (t_d1 h), q1, q2, wr.2.1, c_isWithin, te3, t_gk h, hc, p1]
          · have a1 := m_isTwo (Y.row 165 A) x0 x1
            have a2 := m_isWay (A := A) hY g e2.1 e2.2 z0 z1
            rw [tf_t e1] at a1
            rw [tf_t e3] at a2
            have hl := m_isLaddered (A := A) hY g e1
            rw [tf_t e4] at hl
            obtain ⟨Z, R, u1, u2⟩ := m_dabbedAt (A := A) hY g e4.1 bf.2 (on_foot e1) e2 e3.1 e3.2 e4.2
            refine ⟨Z, R, ?_, u2⟩
            have hX := hY
            unfold fX12_dabbed
            simp -dsimp (disch := omega) only [↓B1_bp, ↓B2_bp, BP_some, BQ_some, ↓reduceIte, gk_row, rdN_row, alN_row, alN__row, gk_m hX, rdm0 hX, rdm1 hX, rdm2 hX, rdm3 hX, L_0, L_1, L_2, L_3, L_4, L_5, L_6, L_7, L_8, L_9, L_10, L_11, L_12, L_13, L_54, L_14, L_99, L_20, L_30, L_31, L_60, L_19, i2_add, i2_sub, i2_mul, i2_neg, Int.reduceAdd, Int.reduceSub, Int.reduceMul, Int.reduceNeg, Int.reduceLT, Int.reduceLE, Int.reduceEq, i2_le, i2_lt, i2_eq, J_0, J_1, J_2, J_3, J_5, J_7, J_8, J_9, J_10, J_13, J_15, J_30, J_60, J_99, J_100, J_999, J_n1, i2_j2, m_in, tf_0, not_true_eq_false, not_false_eq_true, m_al hX, L_15, L_40, L_100, L_101, L_190, L_200, L_999, uA_self, and_self, if_true, if_false, and_true, true_and, and_false, false_and, a1, a2, hl, u1]
        · rw [tf_f e4] at hc
          have a1 := m_isTwo (M.row 165 A) x0 x1
          have a2 := m_isWay (A := A) hm g e2.1 e2.2 z0 z1
          rw [tf_t e1] at a1
          rw [tf_t e3] at a2
          have hl := m_isLaddered (A := A) hm g e1
          rw [tf_f e4] at hl
          refine OpR.op hi (opR_keep (r := i2 (-3)) c g ha ?_ ?_)
          · unfold fX11_dabbed
            simp -dsimp (disch := omega) only [↓B1_bp, ↓B2_bp, BP_some, BQ_some, ↓reduceIte, L_0, L_1, L_2, L_3, L_4, L_5, L_6, L_7, L_8, L_9, L_10, L_11, L_12, L_13, L_54, L_14, L_99, L_20, L_30, L_31, L_60, L_19, i2_add, i2_sub, i2_mul, i2_neg, Int.reduceAdd, Int.reduceSub, Int.reduceMul, Int.reduceNeg, Int.reduceLT, Int.reduceLE, Int.reduceEq, i2_le, i2_lt, i2_eq, uA_self, uA_ne, tf_0, not_true_eq_false, not_false_eq_true, L_15, L_40, L_100, L_101, L_200, L_999, ↓NL_bp, BNP_none, BNP_some, and_self, if_true, if_false, and_true, true_and, and_false, false_and, t_now h, d_gk (t_d1 h), q1, q2, wr.2.1, c_isWithin, te3, t_gk h, hc]
          · unfold fX12_dabbed
            simp -dsimp (disch := omega) only [↓B1_bp, ↓B2_bp, BP_some, BQ_some, ↓reduceIte, gk_row, rdN_row, alN_row, alN__row, gk_m hm, rdm0 hm, rdm1 hm, rdm2 hm, rdm3 hm, L_0, L_1, L_2, L_3, L_4, L_5, L_6, L_7, L_8, L_9, L_10, L_11, L_12, L_13, L_54, L_14, L_99, L_20, L_30, L_31, L_60, L_19, i2_add, i2_sub, i2_mul, i2_neg, Int.reduceAdd, Int.reduceSub, Int.reduceMul, Int.reduceNeg, Int.reduceLT, Int.reduceLE, Int.reduceEq, i2_le, i2_lt, i2_eq, J_0, J_1, J_2, J_3, J_5, J_7, J_8, J_9, J_10, J_13, J_15, J_30, J_60, J_99, J_100, J_999, J_n1, i2_j2, m_in, tf_0, not_true_eq_false, not_false_eq_true, m_al hm, L_15, L_40, L_100, L_101, L_190, L_200, L_999, uA_self, and_self, if_true, if_false, and_true, true_and, and_false, false_and, a1, a2, hl]
      · have te3 : tf (0 ≤ z ∧ z ≤ A (12 + y)) = 0 := tf_f e3
        have a1 := m_isTwo (M.row 165 A) x0 x1
        have a2 := m_isWay (A := A) hm g e2.1 e2.2 z0 z1
        rw [tf_t e1] at a1
        rw [tf_f e3] at a2
        refine OpR.op hi (opR_keep (r := i2 (-1)) c g ha ?_ ?_)
        · unfold fX11_dabbed
          simp -dsimp (disch := omega) only [↓B1_bp, ↓B2_bp, BP_some, BQ_some, ↓reduceIte, L_0, L_1, L_2, L_3, L_4, L_5, L_6, L_7, L_8, L_9, L_10, L_11, L_12, L_13, L_54, L_14, L_99, L_20, L_30, L_31, L_60, L_19, i2_add, i2_sub, i2_mul, i2_neg, Int.reduceAdd, Int.reduceSub, Int.reduceMul, Int.reduceNeg, Int.reduceLT, Int.reduceLE, Int.reduceEq, i2_le, i2_lt, i2_eq, uA_self, uA_ne, tf_0, not_true_eq_false, not_false_eq_true, L_15, L_40, L_100, L_101, L_200, L_999, ↓NL_bp, BNP_none, BNP_some, and_self, if_true, if_false, and_true, true_and, and_false, false_and, t_now h, d_gk (t_d1 h), q1, q2, wr.2.1, c_isWithin, te3]
        · unfold fX12_dabbed
          simp -dsimp (disch := omega) only [↓B1_bp, ↓B2_bp, BP_some, BQ_some, ↓reduceIte, gk_row, rdN_row, alN_row, alN__row, gk_m hm, rdm0 hm, rdm1 hm, rdm2 hm, rdm3 hm, L_0, L_1, L_2, L_3, L_4, L_5, L_6, L_7, L_8, L_9, L_10, L_11, L_12, L_13, L_54, L_14, L_99, L_20, L_30, L_31, L_60, L_19, i2_add, i2_sub, i2_mul, i2_neg, Int.reduceAdd, Int.reduceSub, Int.reduceMul, Int.reduceNeg, Int.reduceLT, Int.reduceLE, Int.reduceEq, i2_le, i2_lt, i2_eq, J_0, J_1, J_2, J_3, J_5, J_7, J_8, J_9, J_10, J_13, J_15, J_30, J_60, J_99, J_100, J_999, J_n1, i2_j2, m_in, tf_0, not_true_eq_false, not_false_eq_true, m_al hm, L_15, L_40, L_100, L_101, L_190, L_200, L_999, uA_self, and_self, if_true, if_false, and_true, true_and, and_false, false_and, a1, a2]
    · rw [if_neg e2] at q1
      have a1 := m_isTwo (M.row 165 A) x0 x1
      have a2 := m_isWayN (M := M.row 165 A) (y := i2 z) y0 y1 e2
      rw [tf_t e1] at a1
      refine OpR.op hi (opR_keep (r := i2 (-1)) c g ha ?_ ?_)
      · unfold fX11_dabbed
        simp -dsimp (disch := omega) only [↓B1_bp, ↓B2_bp, BP_some, BQ_some, ↓reduceIte, L_0, L_1, L_2, L_3, L_4, L_5, L_6, L_7, L_8, L_9, L_10, L_11, L_12, L_13, L_54, L_14, L_99, L_20, L_30, L_31, L_60, L_19, i2_add, i2_sub, i2_mul, i2_neg, Int.reduceAdd, Int.reduceSub, Int.reduceMul, Int.reduceNeg, Int.reduceLT, Int.reduceLE, Int.reduceEq, i2_le, i2_lt, i2_eq, uA_self, uA_ne, tf_0, not_true_eq_false, not_false_eq_true, L_15, L_40, L_100, L_101, L_200, L_999, ↓NL_bp, BNP_none, BNP_some, and_self, if_true, if_false, and_true, true_and, and_false, false_and, t_now h, d_gk (t_d1 h), q1, q2]
      · unfold fX12_dabbed
        simp -dsimp (disch := omega) only [↓B1_bp, ↓B2_bp, BP_some, BQ_some, ↓reduceIte, gk_row, rdN_row, alN_row, alN__row, gk_m hm, rdm0 hm, rdm1 hm, rdm2 hm, rdm3 hm, L_0, L_1, L_2, L_3, L_4, L_5, L_6, L_7, L_8, L_9, L_10, L_11, L_12, L_13, L_54, L_14, L_99, L_20, L_30, L_31, L_60, L_19, i2_add, i2_sub, i2_mul, i2_neg, Int.reduceAdd, Int.reduceSub, Int.reduceMul, Int.reduceNeg, Int.reduceLT, Int.reduceLE, Int.reduceEq, i2_le, i2_lt, i2_eq, J_0, J_1, J_2, J_3, J_5, J_7, J_8, J_9, J_10, J_13, J_15, J_30, J_60, J_99, J_100, J_999, J_n1, i2_j2, m_in, tf_0, not_true_eq_false, not_false_eq_true, m_al hm, L_15, L_40, L_100, L_101, L_190, L_200, L_999, uA_self, and_self, if_true, if_false, and_true, true_and, and_false, false_and, a1, a2]
  · rw [tf_f e1] at q2
    have a1 := m_isTwo (M.row 165 A) x0 x1
    rw [tf_f e1] at a1
    refine OpR.op hi (opR_keep (r := i2 (-1)) c g ha ?_ ?_)
    · unfold fX11_dabbed
      simp -dsimp (disch := omega) only [↓B1_bp, ↓B2_bp, BP_some, BQ_some, ↓reduceIte, L_0, L_1, L_2, L_3, L_4, L_5, L_6, L_7, L_8, L_9, L_10, L_11, L_12, L_13, L_54, L_14, L_99, L_20, L_30, L_31, L_60, L_19, i2_add, i2_sub, i2_mul, i2_neg, Int.reduceAdd, Int.reduceSub, Int.reduceMul, Int.reduceNeg, Int.reduceLT, Int.reduceLE, Int.reduceEq, i2_le, i2_lt, i2_eq, uA_self, uA_ne, tf_0, not_true_eq_false, not_false_eq_true, L_15, L_40, L_100, L_101, L_200, L_999, ↓NL_bp, BNP_none, BNP_some, and_self, if_true, if_false, and_true, true_and, and_false, false_and, t_now h, d_gk (t_d1 h), q1, q2]
    · unfold fX12_dabbed
      simp -dsimp (disch := omega) only [↓B1_bp, ↓B2_bp, BP_some, BQ_some, ↓reduceIte, gk_row, rdN_row, alN_row, alN__row, gk_m hm, rdm0 hm, rdm1 hm, rdm2 hm, rdm3 hm, L_0, L_1, L_2, L_3, L_4, L_5, L_6, L_7, L_8, L_9, L_10, L_11, L_12, L_13, L_54, L_14, L_99, L_20, L_30, L_31, L_60, L_19, i2_add, i2_sub, i2_mul, i2_neg, Int.reduceAdd, Int.reduceSub, Int.reduceMul, Int.reduceNeg, Int.reduceLT, Int.reduceLE, Int.reduceEq, i2_le, i2_lt, i2_eq, J_0, J_1, J_2, J_3, J_5, J_7, J_8, J_9, J_10, J_13, J_15, J_30, J_60, J_99, J_100, J_999, J_n1, i2_j2, m_in, tf_0, not_true_eq_false, not_false_eq_true, m_al hm, L_15, L_40, L_100, L_101, L_190, L_200, L_999, uA_self, and_self, if_true, if_false, and_true, true_and, and_false, false_and, a1]
/-- how much is open, dabbed ahead of the leg i -/
def snD (A : Int → Int) (f w i : Int) : Int := opS (dbS A w i (stA A (A (2 + f))))
theorem snD_b (g : GA A) {f w i : Int} (bk : 0 ≤ A (2 + f) ∧ A (2 + f) < A 0) (hl : 0 ≤ stA A (A (2 + f)) 6) : 0 ≤ snD A f w i ∧ snD A f w i ≤ 100 :=
  opS_b ((db_gs g (g.2.2.2.2.2.2.2 _ bk.1 bk.2) hl).2.2.2.1.way g.2.2.2.2.2.1 _ _)
theorem snD_e {A' : Int → Int} (h : E158 A' A) (g : GA A) {f w i : Int} (ef : 0 ≤ f ∧ f ≤ 1) (e : 0 ≤ w ∧ w ≤ 1) (i0 : 0 ≤ i) (i1 : i ≤ A (12 + w)) (bk : 0 ≤ A (2 + f) ∧ A (2 + f) < A 0) : snD A' f w i = snD A f w i := by
  have g0 := g.1
  unfold snD
  rw [h (2 + f) (by omega) (by omega)]
  exact opS_e (db_e h g e i0 i1 (E158.st h bk.1 (by omega)))
theorem c_best_L (g : GA A) {f w : Int} (ef : 0 ≤ f ∧ f ≤ 1) (e : 0 ≤ w ∧ w ≤ 1) (bk : 0 ≤ A (2 + f) ∧ A (2 + f) < A 0) (hl : 0 ≤ stA A (A (2 + f)) 6) : ∀ (d N : Nat) (X : Mm) (b l v : Int), LayC X → CR X 1 A → d < N → 0 ≤ v → v + d = A (12 + w) + 1 → 0 ≤ b → b ≤ 10 → 0 ≤ l → l ≤ 100 → ∃ X', fX11_bestLeg_L81 0 (i2 f) (1 + 5 + 3 * w.toNat) N (i2 b) (i2 l) (i2 v) X = some (i2 (tuF (snD A f w) d b l v), X') ∧ SmP TrP X X' := by
  have gc := g_wcnt g e
  intro d
  induction d with
  | zero =>
    intro N X b l v h c hN v0 hv b0 b9 l0 l9
    obtain ⟨N, rfl⟩ : ∃ k, N = k + 1 := ⟨N - 1, by omega⟩
    have wr := (d_wrx (t_d1 h) c g e).2.1
    have q : A (12 + w) < v := by omega
    refine ⟨X, ?_, SmP.rf _ _⟩
    simp -dsimp (disch := omega) only [fX11_bestLeg_L81, ↓B1_bp, ↓B2_bp, BP_some, BQ_some, ↓reduceIte, L_0, L_1, L_2, L_3, L_4, L_5, L_6, L_7, L_8, L_9, L_10, L_11, L_12, L_13, L_54, L_14, L_99, L_20, L_30, L_31, L_60, L_19, i2_add, i2_sub, i2_mul, i2_neg, Int.reduceAdd, Int.reduceSub, Int.reduceMul, Int.reduceNeg, Int.reduceLT, Int.reduceLE, Int.reduceEq, i2_le, i2_lt, i2_eq, uA_self, uA_ne, tf_0, not_true_eq_false, not_false_eq_true, wr, q, if_true]
    rfl
  | succ d ih =>
    intro N X b l v h c hN v0 hv b0 b9 l0 l9
    obtain ⟨N, rfl⟩ : ∃ k, N = k + 1 := ⟨N - 1, by omega⟩
    have wr := (d_wrx (t_d1 h) c g e).2.1
    have q : ¬ A (12 + w) < v := by omega
    obtain ⟨X1, p1, s1⟩ := c_openDabbed h c g ef e (i := v) v0 (by omega) bk.1 hl
    change fX11_openDabbed X 0 (i2 f) (1 + 5 + 3 * w.toNat) (i2 v) = some (i2 (snD A f w v), X1) at p1
    have sb := snD_b g (w := w) (i := v) bk hl
    have h1 := h.sm s1
    have c1 := TrP.cr s1 g c
    have tg := t_gk h
    show ∃ X', _ = some (i2 (if l ≤ snD A f w v then _ else _), X') ∧ _
    by_cases r : l ≤ snD A f w v
    · obtain ⟨X2, j1, j2⟩ := ih N X1 b l (v + 1) h1 c1 (by omega) (by omega) (by omega) b0 b9 l0 l9
      refine ⟨X2, ?_, s1.tr j2⟩
      rw [if_pos r, ← j1]
      clear ih j1 j2 g c h1 c1
      simp -dsimp (disch := omega) only [fX11_bestLeg_L81, ↓B1_bp, ↓B2_bp, BP_some, BQ_some, ↓reduceIte, L_0, L_1, L_2, L_3, L_4, L_5, L_6, L_7, L_8, L_9, L_10, L_11, L_12, L_13, L_54, L_14, L_99, L_20, L_30, L_31, L_60, L_19, i2_add, i2_sub, i2_mul, i2_neg, Int.reduceAdd, Int.reduceSub, Int.reduceMul, Int.reduceNeg, Int.reduceLT, Int.reduceLE, Int.reduceEq, i2_le, i2_lt, i2_eq, uA_self, uA_ne, tf_0, not_true_eq_false, not_false_eq_true, wr, q, if_false, tg, p1, r, if_true]
    · obtain ⟨X2, j1, j2⟩ := ih N X1 v (snD A f w v) (v + 1) h1 c1 (by omega) (by omega) (by omega) v0 (by omega) sb.1 sb.2
      refine ⟨X2, ?_, s1.tr j2⟩
      rw [if_neg r, ← j1]
      clear ih j1 j2 g c h1 c1
      simp -dsimp (disch := omega) only [fX11_bestLeg_L81, ↓B1_bp, ↓B2_bp, BP_some, BQ_some, ↓reduceIte, L_0, L_1, L_2, L_3, L_4, L_5, L_6, L_7, L_8, L_9, L_10, L_11, L_12, L_13, L_54, L_14, L_99, L_20, L_30, L_31, L_60, L_19, i2_add, i2_sub, i2_mul, i2_neg, Int.reduceAdd, Int.reduceSub, Int.reduceMul, Int.reduceNeg, Int.reduceLT, Int.reduceLE, Int.reduceEq, i2_le, i2_lt, i2_eq, uA_self, uA_ne, tf_0, not_true_eq_false, not_false_eq_true, wr, q, if_false, tg, p1, r]
theorem m_best_L (h : LayM M) (g : GA A) {f w : Int} (ef : 0 ≤ f ∧ f ≤ 1) (e : 0 ≤ w ∧ w ≤ 1) (bk : 0 ≤ A (2 + f) ∧ A (2 + f) < A 0) (hl : 0 ≤ stA A (A (2 + f)) 6) : ∀ (d N : Nat) (Z R : Int → Int) (b l v : Int), E158 R A → d < N → 0 ≤ v → v + d = A (12 + w) + 1 → 0 ≤ b → b ≤ 10 → 0 ≤ l → l ≤ 101 → ∃ Z' R', fX12_bestLeg_L66 164 (i2 f) (i2 w) N (i2 b) (i2 l) (i2 v) ((M.row 167 Z).row 165 R) = some (i2 (tuF (snD A f w) d b l v), (M.row 167 Z').row 165 R') ∧ E158 R' A := by
  have g0 := g.1
  have gc := g_wcnt g e
  intro d
  induction d with
  | zero =>
    intro N Z R b l v hR hN v0 hv b0 b9 l0 l9
    obtain ⟨N, rfl⟩ : ∃ k, N = k + 1 := ⟨N - 1, by omega⟩
    have hm : LayM (M.row 167 Z) := h
    have q : A (12 + w) < v := by omega
    have r7 : alI ((M.row 167 Z).row 165 R) 165 (i2 (12 + w)) = some (i2 (A (12 + w))) := by
      rw [m_al hm (by omega) (by omega), hR _ (by omega) (by omega)]
    refine ⟨Z, R, ?_, hR⟩
    simp -dsimp (disch := omega) only [fX12_bestLeg_L66, ↓B1_bp, ↓B2_bp, BP_some, BQ_some, ↓reduceIte, L_0, L_1, L_2, L_3, L_4, L_5, L_6, L_7, L_8, L_9, L_10, L_11, L_12, L_13, L_54, L_14, L_99, L_20, L_30, L_31, L_60, L_19, i2_add, i2_sub, i2_mul, i2_neg, Int.reduceAdd, Int.reduceSub, Int.reduceMul, Int.reduceNeg, Int.reduceLT, Int.reduceLE, Int.reduceEq, i2_le, i2_lt, i2_eq, uA_self, uA_ne, tf_0, not_true_eq_false, not_false_eq_true, rdN_row, rdm0 hm, gk_row, gk_m hm, r7, q, if_true]
    rfl
  | succ d ih =>
    intro N Z R b l v hR hN v0 hv b0 b9 l0 l9
    obtain ⟨N, rfl⟩ : ∃ k, N = k + 1 := ⟨N - 1, by omega⟩
    have hm : LayM (M.row 167 Z) := h
    have q : ¬ A (12 + w) < v := by omega
    have r7 : alI ((M.row 167 Z).row 165 R) 165 (i2 (12 + w)) = some (i2 (A (12 + w))) := by
      rw [m_al hm (by omega) (by omega), hR _ (by omega) (by omega)]
    have r8 : alI ((M.row 167 Z).row 165 R) 165 (i2 (2 + f)) = some (i2 (A (2 + f))) := by
      rw [m_al hm (by omega) (by omega), hR _ (by omega) (by omega)]
    have gR := g.e hR
    have ea : ∀ y : Int, 0 ≤ y → y < 158 → R y = A y := hR
    have bkR : 0 ≤ R (2 + f) ∧ R (2 + f) < R 0 := by rw [ea (2 + f) (by omega) (by omega), ea 0 (by decide) (by decide)]; exact bk
    obtain ⟨Z1, R1, p1, p2⟩ := m_dabbedAt (A := R) hm gR bkR.1 bkR.2 (on_foot ef) e (i := v) v0 (by rw [ea _ (by omega) (by omega)]; omega) (by
      rw [ea (2 + f) (by omega) (by omega)]
      rw [E158.st hR bk.1 (by omega) 6 (by decide) (by decide)]
      exact hl)
    change _ = some (i2 (snD R f w v), _) at p1
    rw [snD_e hR g ef e v0 (by omega) bk, row_row, ea (2 + f) (by omega) (by omega)] at p1
    have hR1 : E158 R1 A := fun y a b => (p2 y a b).trans (hR y a b)
    have sb := snD_b g (w := w) (i := v) bk hl
    have mn := i2_min (a := l) (b := snD A f w v) (by omega) (by omega) (by omega) (by omega)
    show ∃ Z' R', _ = some (i2 (if l ≤ snD A f w v then _ else _), _) ∧ _
    by_cases r : l ≤ snD A f w v
    · obtain ⟨Z2, R2, j1, j2⟩ := ih N Z1 R1 b l (v + 1) hR1 (by omega) (by omega) (by omega) b0 b9 l0 l9
      rw [show min l (snD A f w v) = l by omega] at mn
      refine ⟨Z2, R2, ?_, j2⟩
      rw [if_pos r, ← j1]
      clear ih j1 j2 g gR hR hR1 p2
      simp -dsimp (disch := omega) only [fX12_bestLeg_L66, ↓B1_bp, ↓B2_bp, BP_some, BQ_some, ↓reduceIte, L_0, L_1, L_2, L_3, L_4, L_5, L_6, L_7, L_8, L_9, L_10, L_11, L_12, L_13, L_54, L_14, L_99, L_20, L_30, L_31, L_60, L_19, i2_add, i2_sub, i2_mul, i2_neg, Int.reduceAdd, Int.reduceSub, Int.reduceMul, Int.reduceNeg, Int.reduceLT, Int.reduceLE, Int.reduceEq, i2_le, i2_lt, i2_eq, uA_self, uA_ne, tf_0, not_true_eq_false, not_false_eq_true, rdN_row, rdm0 hm, gk_row, gk_m hm, r7, q, if_false, r8, p1, r, if_true, mn]
    · obtain ⟨Z2, R2, j1, j2⟩ := ih N Z1 R1 v (snD A f w v) (v + 1) hR1 (by omega) (by omega) (by omega) v0 (by omega) sb.1 (by omega)
      rw [show min l (snD A f w v) = snD A f w v by omega] at mn
      refine ⟨Z2, R2, ?_, j2⟩
      rw [if_neg r, ← j1]
      clear ih j1 j2 g gR hR hR1 p2
      simp -dsimp (disch := omega) only [fX12_bestLeg_L66, ↓B1_bp, ↓B2_bp, BP_some, BQ_some, ↓reduceIte, L_0, L_1, L_2, L_3, L_4, L_5, L_6, L_7, L_8, L_9, L_10, L_11, L_12, L_13, L_54, L_14, L_99, L_20, L_30, L_31, L_60, L_19, i2_add, i2_sub, i2_mul, i2_neg, Int.reduceAdd, Int.reduceSub, Int.reduceMul, Int.reduceNeg, Int.reduceLT, Int.reduceLE, Int.reduceEq, i2_le, i2_lt, i2_eq, uA_self, uA_ne, tf_0, not_true_eq_false, not_false_eq_true, rdN_row, rdm0 hm, gk_row, gk_m hm, r7, q, if_false, r8, p1, r, mn]
theorem op_bestLeg (h : LayC M) (hm : LayM M) (c : CR M 1 A) (g : GA A) (ha : M.g 165 = rI A) {x y z : Int} (x0 : -2147483648 ≤ x) (x1 : x < 2147483648) (y0 : -2147483648 ≤ y) (y1 : y < 2147483648) (z0 : -2147483648 ≤ z) (z1 : z < 2147483648) (hi : Inv M) : Op M (fun M => fX11_bestLeg M 0 (i2 x) (i2 y) (i2 z)) (fun M => fX12_bestLeg M 164 (i2 x) (i2 y) (i2 z)) := by
  have g0 := g.1
  have q1 := c_wayAt (t_d1 h) y0 y1
  have q2 := c_isFoot M x0 x1
  have a1 := m_isTwo (M.row 165 A) x0 x1
  have a2 := m_isTwo (M.row 165 A) y0 y1
  by_cases e1 : 0 ≤ x ∧ x ≤ 1
  · rw [tf_t e1] at q2 a1
    have bf := b_feet g e1.1 e1.2
    by_cases e2 : 0 ≤ y ∧ y ≤ 1
    · rw [if_pos e2] at q1
      rw [tf_t e2] at a2
      have gc := g_wcnt g e2
      have wr := d_wrx (t_d1 h) c g e2
      have mb := miA_b g e2
      have cm := c_min (t_d1 h) c g e2
      have mm := m_min (A := A) hm g e2
      have d0 := g.2.2.2.2.2.1.2.2.1
      change 1 ≤ A (4 + 2) ∧ A (4 + 2) ≤ 5 at d0
      rw [show (4 : Int) + 2 = 6 from rfl] at d0
      have ld : alI M (1 + 1) (i2 2) = some (i2 (A 6)) := d_law (t_d1 h) c 2 (by decide) (by decide)
      by_cases e3 : 0 ≤ z ∧ z ≤ 999
      · have te3 : tf (0 ≤ z ∧ z ≤ 999) = 1 := tf_t e3
        have hc := c_hasLadderOn h c g e1
        have hl := m_isLaddered (A := A) hm g e1
        by_cases e4 : 0 ≤ A (2 + x) ∧ 0 ≤ stA A (A (2 + x)) 6
        · rw [tf_t e4] at hc hl
          have bk : 0 ≤ A (2 + x) ∧ A (2 + x) < A 0 := ⟨e4.1, bf.2⟩
          by_cases e5 : miA A y + A 6 ≤ z
          · obtain ⟨X, p1, p2⟩ := c_openDabbed h c g e1 e2 (i := 0) (by decide) gc.1 e4.1 e4.2
            change _ = some (i2 (snD A x y 0), X) at p1
            have sb := snD_b g (w := y) (i := 0) bk e4.2
            obtain ⟨X2, t1, t2⟩ := c_best_L g e1 e2 bk e4.2 (A (12 + y)).toNat FL X 0 (snD A x y 0) 1 (h.sm p2) (TrP.cr p2 g c) (by show _ < 4096; omega) (by decide) (by omega) (by decide) (by decide) sb.1 sb.2
            have fin : tuF (snD A x y) ((A (12 + y)).toNat + 1) 0 101 0 = tuF (snD A x y) (A (12 + y)).toNat 0 (snD A x y 0) 1 := by
              show (if (101 : Int) ≤ snD A x y 0 then _ else _) = _
              rw [if_neg (by omega)]
              rfl
            refine op_T (X := X2) (r := i2 (tuF (snD A x y) (A (12 + y)).toNat 0 (snD A x y 0) 1)) hi hm ha g ?_ (TrP.scr (p2.tr t2)) (tr165 (p2.tr t2)) (TrP.cr (p2.tr t2) g c) fun Y hY => ?_
            · unfold fX11_bestLeg
              simp -dsimp (disch := omega) only [↓B1_bp, ↓B2_bp, BP_some, BQ_some, ↓reduceIte, L_0, L_1, L_2, L_3, L_4, L_5, L_6, L_7, L_8, L_9, L_10, L_11, L_12, L_13, L_54, L_14, L_99, L_20, L_30, L_31, L_60, L_19, i2_add, i2_sub, i2_mul, i2_neg, Int.reduceAdd, Int.reduceSub, Int.reduceMul, Int.reduceNeg, Int.reduceLT, Int.reduceLE, Int.reduceEq, i2_le, i2_lt, i2_eq, uA_self, uA_ne, tf_0, not_true_eq_false, not_false_eq_true, L_15, L_40, L_100, L_101, L_200, L_999, ↓NL_bp, BNP_none, BNP_some, and_self, if_true, if_false, and_true, true_and, and_false, false_and, t_now h, d_gk (t_d1 h), q1, q2, c_isWithin, te3, t_gk h, hc, wr.1, cm, d_laws (t_d1 h), ld, e5, p1, t1]
            · have a1 := m_isTwo (Y.row 165 A) x0 x1
              have a2 := m_isTwo (Y.row 165 A) y0 y1
              have hl := m_isLaddered (A := A) hY g e1
              have mm := m_min (A := A) hY g e2
              rw [tf_t e1] at a1
              rw [tf_t e2] at a2
              rw [tf_t e4] at hl
              obtain ⟨Z, R, u1, u2⟩ := m_best_L hY g e1 e2 bk e4.2 ((A (12 + y)).toNat + 1) FL (gI Y 167) A 0 101 0 (fun _ _ _ => rfl) (by show _ < 4096; omega) (by decide) (by omega) (by decide) (by decide) (by decide) (by decide)
              rw [fin, row_gI] at u1
              refine ⟨Z, R, ?_, u2⟩
              have hX := hY
              unfold fX12_bestLeg
              simp -dsimp (disch := omega) only [↓B1_bp, ↓B2_bp, BP_some, BQ_some, ↓reduceIte, gk_row, rdN_row, alN_row, alN__row, gk_m hX, rdm0 hX, rdm1 hX, rdm2 hX, rdm3 hX, L_0, L_1, L_2, L_3, L_4, L_5, L_6, L_7, L_8, L_9, L_10, L_11, L_12, L_13, L_54, L_14, L_99, L_20, L_30, L_31, L_60, L_19, i2_add, i2_sub, i2_mul, i2_neg, Int.reduceAdd, Int.reduceSub, Int.reduceMul, Int.reduceNeg, Int.reduceLT, Int.reduceLE, Int.reduceEq, i2_le, i2_lt, i2_eq, J_0, J_1, J_2, J_3, J_5, J_7, J_8, J_9, J_10, J_13, J_15, J_30, J_60, J_99, J_100, J_999, J_n1, i2_j2, m_in, tf_0, not_true_eq_false, not_false_eq_true, m_al hX, L_15, L_40, L_100, L_101, L_190, L_200, L_999, uA_self, and_self, if_true, if_false, and_true, true_and, and_false, false_and, a1, a2, te3, hl, mm, e5, u1]
          · refine OpR.op hi (opR_keep (r := i2 (-3)) c g ha ?_ ?_)
            · unfold fX11_bestLeg
              simp -dsimp (disch := omega) only [↓B1_bp, ↓B2_bp, BP_some, BQ_some, ↓reduceIte, L_0, L_1, L_2, L_3, L_4, L_5, L_6, L_7, L_8, L_9, L_10, L_11, L_12, L_13, L_54, L_14, L_99, L_20, L_30, L_31, L_60, L_19, i2_add, i2_sub, i2_mul, i2_neg, Int.reduceAdd, Int.reduceSub, Int.reduceMul, Int.reduceNeg, Int.reduceLT, Int.reduceLE, Int.reduceEq, i2_le, i2_lt, i2_eq, uA_self, uA_ne, tf_0, not_true_eq_false, not_false_eq_true, L_15, L_40, L_100, L_101, L_200, L_999, ↓NL_bp, BNP_none, BNP_some, and_self, if_true, if_false, and_true, true_and, and_false, false_and, t_now h, d_gk (t_d1 h), q1, q2, c_isWithin, te3, t_gk h, hc, wr.1, cm, d_laws (t_d1 h), ld, e5]
            · unfold fX12_bestLeg
              simp -dsimp (disch := omega) only [↓B1_bp, ↓B2_bp, BP_some, BQ_some, ↓reduceIte, gk_row, rdN_row, alN_row, alN__row, gk_m hm, rdm0 hm, rdm1 hm, rdm2 hm, rdm3 hm, L_0, L_1, L_2, L_3, L_4, L_5, L_6, L_7, L_8, L_9, L_10, L_11, L_12, L_13, L_54, L_14, L_99, L_20, L_30, L_31, L_60, L_19, i2_add, i2_sub, i2_mul, i2_neg, Int.reduceAdd, Int.reduceSub, Int.reduceMul, Int.reduceNeg, Int.reduceLT, Int.reduceLE, Int.reduceEq, i2_le, i2_lt, i2_eq, J_0, J_1, J_2, J_3, J_5, J_7, J_8, J_9, J_10, J_13, J_15, J_30, J_60, J_99, J_100, J_999, J_n1, i2_j2, m_in, tf_0, not_true_eq_false, not_false_eq_true, m_al hm, L_15, L_40, L_100, L_101, L_190, L_200, L_999, uA_self, and_self, if_true, if_false, and_true, true_and, and_false, false_and, a1, a2, te3, hl, mm, e5]
        · rw [tf_f e4] at hc hl
          refine OpR.op hi (opR_keep (r := i2 (-3)) c g ha ?_ ?_)
          · unfold fX11_bestLeg
            simp -dsimp (disch := omega) only [↓B1_bp, ↓B2_bp, BP_some, BQ_some, ↓reduceIte, L_0, L_1, L_2, L_3, L_4, L_5, L_6, L_7, L_8, L_9, L_10, L_11, L_12, L_13, L_54, L_14, L_99, L_20, L_30, L_31, L_60, L_19, i2_add, i2_sub, i2_mul, i2_neg, Int.reduceAdd, Int.reduceSub, Int.reduceMul, Int.reduceNeg, Int.reduceLT, Int.reduceLE, Int.reduceEq, i2_le, i2_lt, i2_eq, uA_self, uA_ne, tf_0, not_true_eq_false, not_false_eq_true, L_15, L_40, L_100, L_101, L_200, L_999, ↓NL_bp, BNP_none, BNP_some, and_self, if_true, if_false, and_true, true_and, and_false, false_and, t_now h, d_gk (t_d1 h), q1, q2, c_isWithin, te3, t_gk h, hc]
          · unfold fX12_bestLeg
            simp -dsimp (disch := omega) only [↓B1_bp, ↓B2_bp, BP_some, BQ_some, ↓reduceIte, gk_row, rdN_row, alN_row, alN__row, gk_m hm, rdm0 hm, rdm1 hm, rdm2 hm, rdm3 hm, L_0, L_1, L_2, L_3, L_4, L_5, L_6, L_7, L_8, L_9, L_10, L_11, L_12, L_13, L_54, L_14, L_99, L_20, L_30, L_31, L_60, L_19, i2_add, i2_sub, i2_mul, i2_neg, Int.reduceAdd, Int.reduceSub, Int.reduceMul, Int.reduceNeg, Int.reduceLT, Int.reduceLE, Int.reduceEq, i2_le, i2_lt, i2_eq, J_0, J_1, J_2, J_3, J_5, J_7, J_8, J_9, J_10, J_13, J_15, J_30, J_60, J_99, J_100, J_999, J_n1, i2_j2, m_in, tf_0, not_true_eq_false, not_false_eq_true, m_al hm, L_15, L_40, L_100, L_101, L_190, L_200, L_999, uA_self, and_self, if_true, if_false, and_true, true_and, and_false, false_and, a1, a2, te3, hl]
      · have te3 : tf (0 ≤ z ∧ z ≤ 999) = 0 := tf_f e3
        refine OpR.op hi (opR_keep (r := i2 (-1)) c g ha ?_ ?_)
        · unfold fX11_bestLeg
          simp -dsimp (disch := omega) only [↓B1_bp, ↓B2_bp, BP_some, BQ_some, ↓reduceIte, L_0, L_1, L_2, L_3, L_4, L_5, L_6, L_7, L_8, L_9, L_10, L_11, L_12, L_13, L_54, L_14, L_99, L_20, L_30, L_31, L_60, L_19, i2_add, i2_sub, i2_mul, i2_neg, Int.reduceAdd, Int.reduceSub, Int.reduceMul, Int.reduceNeg, Int.reduceLT, Int.reduceLE, Int.reduceEq, i2_le, i2_lt, i2_eq, uA_self, uA_ne, tf_0, not_true_eq_false, not_false_eq_true, L_15, L_40, L_100, L_101, L_200, L_999, ↓NL_bp, BNP_none, BNP_some, and_self, if_true, if_false, and_true, true_and, and_false, false_and, t_now h, d_gk (t_d1 h), q1, q2, c_isWithin, te3]
        · unfold fX12_bestLeg
          simp -dsimp (disch := omega) only [↓B1_bp, ↓B2_bp, BP_some, BQ_some, ↓reduceIte, gk_row, rdN_row, alN_row, alN__row, gk_m hm, rdm0 hm, rdm1 hm, rdm2 hm, rdm3 hm, L_0, L_1, L_2, L_3, L_4, L_5, L_6, L_7, L_8, L_9, L_10, L_11, L_12, L_13, L_54, L_14, L_99, L_20, L_30, L_31, L_60, L_19, i2_add, i2_sub, i2_mul, i2_neg, Int.reduceAdd, Int.reduceSub, Int.reduceMul, Int.reduceNeg, Int.reduceLT, Int.reduceLE, Int.reduceEq, i2_le, i2_lt, i2_eq, J_0, J_1, J_2, J_3, J_5, J_7, J_8, J_9, J_10, J_13, J_15, J_30, J_60, J_99, J_100, J_999, J_n1, i2_j2, m_in, tf_0, not_true_eq_false, not_false_eq_true, m_al hm, L_15, L_40, L_100, L_101, L_190, L_200, L_999, uA_self, and_self, if_true, if_false, and_true, true_and, and_false, false_and, a1, a2, te3]
    · rw [if_neg e2] at q1
      rw [tf_f e2] at a2
      refine OpR.op hi (opR_keep (r := i2 (-1)) c g ha ?_ ?_)
      · unfold fX11_bestLeg
        simp -dsimp (disch := omega) only [↓B1_bp, ↓B2_bp, BP_some, BQ_some, ↓reduceIte, L_0, L_1, L_2, L_3, L_4, L_5, L_6, L_7, L_8, L_9, L_10, L_11, L_12, L_13, L_54, L_14, L_99, L_20, L_30, L_31, L_60, L_19, i2_add, i2_sub, i2_mul, i2_neg, Int.reduceAdd, Int.reduceSub, Int.reduceMul, Int.reduceNeg, Int.reduceLT, Int.reduceLE, Int.reduceEq, i2_le, i2_lt, i2_eq, uA_self, uA_ne, tf_0, not_true_eq_false, not_false_eq_true, L_15, L_40, L_100, L_101, L_200, L_999, ↓NL_bp, BNP_none, BNP_some, and_self, if_true, if_false, and_true, true_and, and_false, false_and, t_now h, d_gk (t_d1 h), q1, q2]
      · unfold fX12_bestLeg
        simp -dsimp (disch := omega) only [↓B1_bp, ↓B2_bp, BP_some, BQ_some, ↓reduceIte, gk_row, rdN_row, alN_row, alN__row, gk_m hm, rdm0 hm, rdm1 hm, rdm2 hm, rdm3 hm, L_0, L_1, L_2, L_3, L_4, L_5, L_6, L_7, L_8, L_9, L_10, L_11, L_12, L_13, L_54, L_14, L_99, L_20, L_30, L_31, L_60, L_19, i2_add, i2_sub, i2_mul, i2_neg, Int.reduceAdd, Int.reduceSub, Int.reduceMul, Int.reduceNeg, Int.reduceLT, Int.reduceLE, Int.reduceEq, i2_le, i2_lt, i2_eq, J_0, J_1, J_2, J_3, J_5, J_7, J_8, J_9, J_10, J_13, J_15, J_30, J_60, J_99, J_100, J_999, J_n1, i2_j2, m_in, tf_0, not_true_eq_false, not_false_eq_true, m_al hm, L_15, L_40, L_100, L_101, L_190, L_200, L_999, uA_self, and_self, if_true, if_false, and_true, true_and, and_false, false_and, a1, a2]
  · rw [tf_f e1] at q2 a1
    refine OpR.op hi (opR_keep (r := i2 (-1)) c g ha ?_ ?_)
    · unfold fX11_bestLeg
      simp -dsimp (disch := omega) only [↓B1_bp, ↓B2_bp, BP_some, BQ_some, ↓reduceIte, L_0, L_1, L_2, L_3, L_4, L_5, L_6, L_7, L_8, L_9, L_10, L_11, L_12, L_13, L_54, L_14, L_99, L_20, L_30, L_31, L_60, L_19, i2_add, i2_sub, i2_mul, i2_neg, Int.reduceAdd, Int.reduceSub, Int.reduceMul, Int.reduceNeg, Int.reduceLT, Int.reduceLE, Int.reduceEq, i2_le, i2_lt, i2_eq, uA_self, uA_ne, tf_0, not_true_eq_false, not_false_eq_true, L_15, L_40, L_100, L_101, L_200, L_999, ↓NL_bp, BNP_none, BNP_some, and_self, if_true, if_false, and_true, true_and, and_false, false_and, t_now h, d_gk (t_d1 h), q1, q2]
    · unfold fX12_bestLeg
      simp -dsimp (disch := omega) only [↓B1_bp, ↓B2_bp, BP_some, BQ_some, ↓reduceIte, gk_row, rdN_row, alN_row, alN__row, gk_m hm, rdm0 hm, rdm1 hm, rdm2 hm, rdm3 hm, L_0, L_1, L_2, L_3, L_4, L_5, L_6, L_7, L_8, L_9, L_10, L_11, L_12, L_13, L_54, L_14, L_99, L_20, L_30, L_31, L_60, L_19, i2_add, i2_sub, i2_mul, i2_neg, Int.reduceAdd, Int.reduceSub, Int.reduceMul, Int.reduceNeg, Int.reduceLT, Int.reduceLE, Int.reduceEq, i2_le, i2_lt, i2_eq, J_0, J_1, J_2, J_3, J_5, J_7, J_8, J_9, J_10, J_13, J_15, J_30, J_60, J_99, J_100, J_999, J_n1, i2_j2, m_in, tf_0, not_true_eq_false, not_false_eq_true, m_al hm, L_15, L_40, L_100, L_101, L_190, L_200, L_999, uA_self, and_self, if_true, if_false, and_true, true_and, and_false, false_and, a1]
end BEST
