theorem J_2 : (2 : Int64) = j2 2 := by decide +kernel
theorem J_30 : (30 : Int64) = j2 30 := by decide +kernel
theorem J_60 : (60 : Int64) = j2 60 := by decide +kernel
theorem J_100 : (100 : Int64) = j2 100 := by decide +kernel
theorem J_999 : (999 : Int64) = j2 999 := by decide +kernel
theorem J_8 : (8 : Int64) = j2 8 := by decide +kernel
theorem J_15 : (15 : Int64) = j2 15 := by decide +kernel
theorem J_10 : (10 : Int64) = j2 10 := by decide +kernel
theorem J_13 : (13 : Int64) = j2 13 := by decide +kernel
theorem J_n1 : (-1 : Int64) = j2 (-1) := by decide +kernel
section OPSA
variable {M : Mm} {A : Int → Int}
theorem opP_mk {r : Int32} {f f' : Mm → Option Int32} (ha : M.g 165 = rI A) (h1 : f M = some r) (h2 : f' (M.row 165 A) = some r) : OpP (f M) (f' M) := by
  rw [← row_of ha] at h2
  exact ⟨r, h1, h2⟩
theorem opP_of {f f' : Mm → Option Int32} (ha : M.g 165 = rI A) (h : ∃ r, f (M.row 165 A) = some r ∧ f' (M.row 165 A) = some r) : OpP (f M) (f' M) := by
  rw [← row_of ha] at h
  exact h
theorem cr_row (ha : M.g 165 = rI A) (c : CR M 1 A) : CR (M.row 165 A) 1 A := by rw [← row_of ha]; exact c
/-- a field of a stocking in the drawer now -/
theorem d_fld {B : Nat} (h : LayD M B) (c : CR M B A) (g : GA A) {k : Nat} (hk : (k : Int) < A 0) : (rdI M (B + 11 + 3 * k) 10 0 = some (i2 (stA A k 0)) ∧ rdI M (B + 11 + 3 * k) 10 1 = some (i2 (stA A k 1)) ∧ rdI M (B + 11 + 3 * k) 10 2 = some (i2 (stA A k 2)) ∧ rdI M (B + 11 + 3 * k) 10 3 = some (i2 (stA A k 3))) ∧ (rdI M (B + 11 + 3 * k) 10 4 = some (i2 (stA A k 4)) ∧ rdI M (B + 11 + 3 * k) 10 5 = some (i2 (stA A k 5)) ∧ rdI M (B + 11 + 3 * k) 10 6 = some (i2 (cl (stA A k 6))) ∧ rdI M (B + 11 + 3 * k) 10 7 = some (i2 (cl (stA A k 7)))) ∧ rdI M (B + 11 + 3 * k) 10 8 = some (i2 (stA A k 8)) := by
  have hl := d_lay h (k := k) (by have := g.1; omega)
  obtain ⟨⟨r0, r1, r2, r3, r4, r5⟩, ⟨r6, r7⟩, r8, -⟩ := c.2.2.2.2 k hk
  refine ⟨⟨?_, ?_, ?_, ?_⟩, ⟨?_, ?_, ?_, ?_⟩, ?_⟩
  · rw [g_rdI hl.1, ← r0]; rfl
  · rw [g_rdI hl.1, ← r1]; rfl
  · rw [g_rdI hl.1, ← r2]; rfl
  · rw [g_rdI hl.1, ← r3]; rfl
  · rw [g_rdI hl.1, ← r4]; rfl
  · rw [g_rdI hl.1, ← r5]; rfl
  · rw [g_rdI hl.1, ← r6]; rfl
  · rw [g_rdI hl.1, ← r7]; rfl
  · rw [g_rdI hl.1, ← r8]; rfl
theorem m_told (M : Mm) {x : Int} (x0 : -2147483648 ≤ x) (x1 : x < 2147483648) : fX12_told M (i2 x) = some (i2 (cl x)) := by
  unfold fX12_told cl
  simp -dsimp (disch := omega) only [L_0, L_9, i2_le, i2_neg]
  by_cases e : 0 ≤ x
  · rw [if_pos e, if_neg (by omega)]
  · rw [if_neg e, if_pos (by omega)]
theorem op_of (h : LayC M) (hm : LayM M) (c : CR M 1 A) (g : GA A) (ha : M.g 165 = rI A) {x y : Int} (x0 : -2147483648 ≤ x) (x1 : x < 2147483648) (y0 : -2147483648 ≤ y) (y1 : y < 2147483648) : OpP (fX11_of M 0 (i2 x) (i2 y)) (fX12_of M 164 (i2 x) (i2 y)) := by
  have g0 := g.1
  have q2 := c_stockingAt (t_d1 h) c g x0 x1
  have a1 := m_isOne (A := A) hm g x0 x1
  by_cases e : 0 ≤ x ∧ x < A 0
  · have e1 : 0 ≤ x ∧ x ≤ A 0 - 1 := by omega
    have e2 : stAt A 1 x = some (1 + 11 + 3 * x.toNat) := if_pos e
    have hx : ((x.toNat : Nat) : Int) = x := by omega
    have gs := g.2.2.2.2.2.2.2 x e.1 e.2
    have gk1 := d_gk10 (t_d1 h) (k := x.toNat) (by omega)
    obtain ⟨⟨f0, f1, f2, f3⟩, ⟨f4, f5, f6, f7⟩, f8⟩ := d_fld (t_d1 h) c g (k := x.toNat) (by omega)
    have hf := c_footOf (t_d1 h) c g x0 x1
    have ho := d_openRungs (t_d1 h) c g (k := x.toNat) (by omega)
    have a2 := m_footOf (A := A) hm g x0 x1
    have a3 := m_openOf (A := A) hm g e.1 e.2
    rw [hx] at f0 f1 f2 f3 f4 f5 f6 f7 f8 ho
    rw [e2] at q2
    rw [tf_t e1] at a1
    obtain ⟨s0, s1, s2, s3, s4, s5, s6, s8, -⟩ := gs
    have c0 := cl_n (stA A x 0) (by omega)
    have c1 := cl_n (stA A x 1) (by omega)
    have c2 := cl_n (stA A x 2) (by omega)
    have c3 := cl_n (stA A x 3) (by omega)
    have c4 := cl_n (stA A x 4) (by omega)
    have c5 := cl_n (stA A x 5) (by omega)
    by_cases r : 0 ≤ y ∧ y ≤ 9
    · have ty : tf (0 ≤ y ∧ y ≤ 9) = 1 := tf_t r
      have ry : y = 0 ∨ y = 1 ∨ y = 2 ∨ y = 3 ∨ y = 4 ∨ y = 5 ∨ y = 6 ∨ y = 7 ∨ y = 8 ∨ y = 9 := by omega
      rcases ry with rfl | rfl | rfl | rfl | rfl | rfl | rfl | rfl | rfl | rfl
      refine ⟨i2 (stA A x 0), ?_, ?_⟩
      · unfold fX11_of
        simp -dsimp (disch := omega) only [↓B1_bp, ↓B2_bp, BP_some, BQ_some, ↓reduceIte, L_0, L_1, L_2, L_3, L_4, L_5, L_6, L_7, L_8, L_9, L_10, L_11, L_12, L_13, L_54, L_14, L_99, L_20, L_30, L_31, L_60, L_19, i2_add, i2_sub, i2_mul, i2_neg, Int.reduceAdd, Int.reduceSub, Int.reduceMul, Int.reduceNeg, Int.reduceLT, Int.reduceLE, Int.reduceEq, i2_le, i2_lt, i2_eq, uA_self, uA_ne, tf_0, not_true_eq_false, not_false_eq_true, L_15, L_40, L_100, L_101, L_200, L_999, ↓NL_bp, BNP_none, BNP_some, and_self, if_true, if_false, and_true, true_and, and_false, false_and, t_now h, d_gk (t_d1 h), q2, gk1, f0]
      · rw [row_of ha]
        unfold fX12_of
        simp -dsimp (disch := omega) only [↓B1_bp, ↓B2_bp, BP_some, BQ_some, ↓reduceIte, gk_row, rdN_row, alN_row, alN__row, gk_m hm, rdm0 hm, rdm1 hm, rdm2 hm, rdm3 hm, L_0, L_1, L_2, L_3, L_4, L_5, L_6, L_7, L_8, L_9, L_10, L_11, L_12, L_13, L_54, L_14, L_99, L_20, L_30, L_31, L_60, L_19, i2_add, i2_sub, i2_mul, i2_neg, Int.reduceAdd, Int.reduceSub, Int.reduceMul, Int.reduceNeg, Int.reduceLT, Int.reduceLE, Int.reduceEq, i2_le, i2_lt, i2_eq, J_0, J_1, J_2, J_3, J_5, J_7, J_8, J_9, J_10, J_13, J_15, J_30, J_60, J_99, J_100, J_999, J_n1, i2_j2, m_in, tf_0, not_true_eq_false, not_false_eq_true, m_al hm, L_15, L_40, L_100, L_101, L_190, L_200, L_999, uA_self, and_self, if_true, if_false, and_true, true_and, and_false, false_and, a1, ty, m_st hm, m_told, c0]
      refine ⟨i2 (stA A x 1), ?_, ?_⟩
      · unfold fX11_of
        simp -dsimp (disch := omega) only [↓B1_bp, ↓B2_bp, BP_some, BQ_some, ↓reduceIte, L_0, L_1, L_2, L_3, L_4, L_5, L_6, L_7, L_8, L_9, L_10, L_11, L_12, L_13, L_54, L_14, L_99, L_20, L_30, L_31, L_60, L_19, i2_add, i2_sub, i2_mul, i2_neg, Int.reduceAdd, Int.reduceSub, Int.reduceMul, Int.reduceNeg, Int.reduceLT, Int.reduceLE, Int.reduceEq, i2_le, i2_lt, i2_eq, uA_self, uA_ne, tf_0, not_true_eq_false, not_false_eq_true, L_15, L_40, L_100, L_101, L_200, L_999, ↓NL_bp, BNP_none, BNP_some, and_self, if_true, if_false, and_true, true_and, and_false, false_and, t_now h, d_gk (t_d1 h), q2, gk1, f1]
      · rw [row_of ha]
        unfold fX12_of
        simp -dsimp (disch := omega) only [↓B1_bp, ↓B2_bp, BP_some, BQ_some, ↓reduceIte, gk_row, rdN_row, alN_row, alN__row, gk_m hm, rdm0 hm, rdm1 hm, rdm2 hm, rdm3 hm, L_0, L_1, L_2, L_3, L_4, L_5, L_6, L_7, L_8, L_9, L_10, L_11, L_12, L_13, L_54, L_14, L_99, L_20, L_30, L_31, L_60, L_19, i2_add, i2_sub, i2_mul, i2_neg, Int.reduceAdd, Int.reduceSub, Int.reduceMul, Int.reduceNeg, Int.reduceLT, Int.reduceLE, Int.reduceEq, i2_le, i2_lt, i2_eq, J_0, J_1, J_2, J_3, J_5, J_7, J_8, J_9, J_10, J_13, J_15, J_30, J_60, J_99, J_100, J_999, J_n1, i2_j2, m_in, tf_0, not_true_eq_false, not_false_eq_true, m_al hm, L_15, L_40, L_100, L_101, L_190, L_200, L_999, uA_self, and_self, if_true, if_false, and_true, true_and, and_false, false_and, a1, ty, m_st hm, m_told, c1]
      refine ⟨i2 (stA A x 2), ?_, ?_⟩
      · unfold fX11_of
        simp -dsimp (disch := omega) only [↓B1_bp, ↓B2_bp, BP_some, BQ_some, ↓reduceIte, L_0, L_1, L_2, L_3, L_4, L_5, L_6, L_7, L_8, L_9, L_10, L_11, L_12, L_13, L_54, L_14, L_99, L_20, L_30, L_31, L_60, L_19, i2_add, i2_sub, i2_mul, i2_neg, Int.reduceAdd, Int.reduceSub, Int.reduceMul, Int.reduceNeg, Int.reduceLT, Int.reduceLE, Int.reduceEq, i2_le, i2_lt, i2_eq, uA_self, uA_ne, tf_0, not_true_eq_false, not_false_eq_true, L_15, L_40, L_100, L_101, L_200, L_999, ↓NL_bp, BNP_none, BNP_some, and_self, if_true, if_false, and_true, true_and, and_false, false_and, t_now h, d_gk (t_d1 h), q2, gk1, f2]
      · rw [row_of ha]
        unfold fX12_of
        simp -dsimp (disch := omega) only [↓B1_bp, ↓B2_bp, BP_some, BQ_some, ↓reduceIte, gk_row, rdN_row, alN_row, alN__row, gk_m hm, rdm0 hm, rdm1 hm, rdm2 hm, rdm3 hm, L_0, L_1, L_2, L_3, L_4, L_5, L_6, L_7, L_8, L_9, L_10, L_11, L_12, L_13, L_54, L_14, L_99, L_20, L_30, L_31, L_60, L_19, i2_add, i2_sub, i2_mul, i2_neg, Int.reduceAdd, Int.reduceSub, Int.reduceMul, Int.reduceNeg, Int.reduceLT, Int.reduceLE, Int.reduceEq, i2_le, i2_lt, i2_eq, J_0, J_1, J_2, J_3, J_5, J_7, J_8, J_9, J_10, J_13, J_15, J_30, J_60, J_99, J_100, J_999, J_n1, i2_j2, m_in, tf_0, not_true_eq_false, not_false_eq_true, m_al hm, L_15, L_40, L_100, L_101, L_190, L_200, L_999, uA_self, and_self, if_true, if_false, and_true, true_and, and_false, false_and, a1, ty, m_st hm, m_told, c2]
      refine ⟨i2 (stA A x 3), ?_, ?_⟩
      · unfold fX11_of
        simp -dsimp (disch := omega) only [↓B1_bp, ↓B2_bp, BP_some, BQ_some, ↓reduceIte, L_0, L_1, L_2, L_3, L_4, L_5, L_6, L_7, L_8, L_9, L_10, L_11, L_12, L_13, L_54, L_14, L_99, L_20, L_30, L_31, L_60, L_19, i2_add, i2_sub, i2_mul, i2_neg, Int.reduceAdd, Int.reduceSub, Int.reduceMul, Int.reduceNeg, Int.reduceLT, Int.reduceLE, Int.reduceEq, i2_le, i2_lt, i2_eq, uA_self, uA_ne, tf_0, not_true_eq_false, not_false_eq_true, L_15, L_40, L_100, L_101, L_200, L_999, ↓NL_bp, BNP_none, BNP_some, and_self, if_true, if_false, and_true, true_and, and_false, false_and, t_now h, d_gk (t_d1 h), q2, gk1, f3]
      · rw [row_of ha]
        unfold fX12_of
        simp -dsimp (disch := omega) only [↓B1_bp, ↓B2_bp, BP_some, BQ_some, ↓reduceIte, gk_row, rdN_row, alN_row, alN__row, gk_m hm, rdm0 hm, rdm1 hm, rdm2 hm, rdm3 hm, L_0, L_1, L_2, L_3, L_4, L_5, L_6, L_7, L_8, L_9, L_10, L_11, L_12, L_13, L_54, L_14, L_99, L_20, L_30, L_31, L_60, L_19, i2_add, i2_sub, i2_mul, i2_neg, Int.reduceAdd, Int.reduceSub, Int.reduceMul, Int.reduceNeg, Int.reduceLT, Int.reduceLE, Int.reduceEq, i2_le, i2_lt, i2_eq, J_0, J_1, J_2, J_3, J_5, J_7, J_8, J_9, J_10, J_13, J_15, J_30, J_60, J_99, J_100, J_999, J_n1, i2_j2, m_in, tf_0, not_true_eq_false, not_false_eq_true, m_al hm, L_15, L_40, L_100, L_101, L_190, L_200, L_999, uA_self, and_self, if_true, if_false, and_true, true_and, and_false, false_and, a1, ty, m_st hm, m_told, c3]
      refine ⟨i2 (stA A x 4), ?_, ?_⟩
      · unfold fX11_of
        simp -dsimp (disch := omega) only [↓B1_bp, ↓B2_bp, BP_some, BQ_some, ↓reduceIte, L_0, L_1, L_2, L_3, L_4, L_5, L_6, L_7, L_8, L_9, L_10, L_11, L_12, L_13, L_54, L_14, L_99, L_20, L_30, L_31, L_60, L_19, i2_add, i2_sub, i2_mul, i2_neg, Int.reduceAdd, Int.reduceSub, Int.reduceMul, Int.reduceNeg, Int.reduceLT, Int.reduceLE, Int.reduceEq, i2_le, i2_lt, i2_eq, uA_self, uA_ne, tf_0, not_true_eq_false, not_false_eq_true, L_15, L_40, L_100, L_101, L_200, L_999, ↓NL_bp, BNP_none, BNP_some, and_self, if_true, if_false, and_true, true_and, and_false, false_and, t_now h, d_gk (t_d1 h), q2, gk1, f4]
      · rw [row_of ha]
        unfold fX12_of
        simp -dsimp (disch := omega) only [↓B1_bp, ↓B2_bp, BP_some, BQ_some, ↓reduceIte, gk_row, rdN_row, alN_row, alN__row, gk_m hm, rdm0 hm, rdm1 hm, rdm2 hm, rdm3 hm, L_0, L_1, L_2, L_3, L_4, L_5, L_6, L_7, L_8, L_9, L_10, L_11, L_12, L_13, L_54, L_14, L_99, L_20, L_30, L_31, L_60, L_19, i2_add, i2_sub, i2_mul, i2_neg, Int.reduceAdd, Int.reduceSub, Int.reduceMul, Int.reduceNeg, Int.reduceLT, Int.reduceLE, Int.reduceEq, i2_le, i2_lt, i2_eq, J_0, J_1, J_2, J_3, J_5, J_7, J_8, J_9, J_10, J_13, J_15, J_30, J_60, J_99, J_100, J_999, J_n1, i2_j2, m_in, tf_0, not_true_eq_false, not_false_eq_true, m_al hm, L_15, L_40, L_100, L_101, L_190, L_200, L_999, uA_self, and_self, if_true, if_false, and_true, true_and, and_false, false_and, a1, ty, m_st hm, m_told, c4]
      refine ⟨i2 (stA A x 5), ?_, ?_⟩
      · unfold fX11_of
        simp -dsimp (disch := omega) only [↓B1_bp, ↓B2_bp, BP_some, BQ_some, ↓reduceIte, L_0, L_1, L_2, L_3, L_4, L_5, L_6, L_7, L_8, L_9, L_10, L_11, L_12, L_13, L_54, L_14, L_99, L_20, L_30, L_31, L_60, L_19, i2_add, i2_sub, i2_mul, i2_neg, Int.reduceAdd, Int.reduceSub, Int.reduceMul, Int.reduceNeg, Int.reduceLT, Int.reduceLE, Int.reduceEq, i2_le, i2_lt, i2_eq, uA_self, uA_ne, tf_0, not_true_eq_false, not_false_eq_true, L_15, L_40, L_100, L_101, L_200, L_999, ↓NL_bp, BNP_none, BNP_some, and_self, if_true, if_false, and_true, true_and, and_false, false_and, t_now h, d_gk (t_d1 h), q2, gk1, f5]
      · rw [row_of ha]
        unfold fX12_of
        simp -dsimp (disch := omega) only [↓B1_bp, ↓B2_bp, BP_some, BQ_some, ↓reduceIte, gk_row, rdN_row, alN_row, alN__row, gk_m hm, rdm0 hm, rdm1 hm, rdm2 hm, rdm3 hm, L_0, L_1, L_2, L_3, L_4, L_5, L_6, L_7, L_8, L_9, L_10, L_11, L_12, L_13, L_54, L_14, L_99, L_20, L_30, L_31, L_60, L_19, i2_add, i2_sub, i2_mul, i2_neg, Int.reduceAdd, Int.reduceSub, Int.reduceMul, Int.reduceNeg, Int.reduceLT, Int.reduceLE, Int.reduceEq, i2_le, i2_lt, i2_eq, J_0, J_1, J_2, J_3, J_5, J_7, J_8, J_9, J_10, J_13, J_15, J_30, J_60, J_99, J_100, J_999, J_n1, i2_j2, m_in, tf_0, not_true_eq_false, not_false_eq_true, m_al hm, L_15, L_40, L_100, L_101, L_190, L_200, L_999, uA_self, and_self, if_true, if_false, and_true, true_and, and_false, false_and, a1, ty, m_st hm, m_told, c5]
      refine ⟨i2 (cl (stA A x 6)), ?_, ?_⟩
      · unfold fX11_of
        simp -dsimp (disch := omega) only [↓B1_bp, ↓B2_bp, BP_some, BQ_some, ↓reduceIte, L_0, L_1, L_2, L_3, L_4, L_5, L_6, L_7, L_8, L_9, L_10, L_11, L_12, L_13, L_54, L_14, L_99, L_20, L_30, L_31, L_60, L_19, i2_add, i2_sub, i2_mul, i2_neg, Int.reduceAdd, Int.reduceSub, Int.reduceMul, Int.reduceNeg, Int.reduceLT, Int.reduceLE, Int.reduceEq, i2_le, i2_lt, i2_eq, uA_self, uA_ne, tf_0, not_true_eq_false, not_false_eq_true, L_15, L_40, L_100, L_101, L_200, L_999, ↓NL_bp, BNP_none, BNP_some, and_self, if_true, if_false, and_true, true_and, and_false, false_and, t_now h, d_gk (t_d1 h), q2, gk1, f6]
      · rw [row_of ha]
        unfold fX12_of
        simp -dsimp (disch := omega) only [↓B1_bp, ↓B2_bp, BP_some, BQ_some, ↓reduceIte, gk_row, rdN_row, alN_row, alN__row, gk_m hm, rdm0 hm, rdm1 hm, rdm2 hm, rdm3 hm, L_0, L_1, L_2, L_3, L_4, L_5, L_6, L_7, L_8, L_9, L_10, L_11, L_12, L_13, L_54, L_14, L_99, L_20, L_30, L_31, L_60, L_19, i2_add, i2_sub, i2_mul, i2_neg, Int.reduceAdd, Int.reduceSub, Int.reduceMul, Int.reduceNeg, Int.reduceLT, Int.reduceLE, Int.reduceEq, i2_le, i2_lt, i2_eq, J_0, J_1, J_2, J_3, J_5, J_7, J_8, J_9, J_10, J_13, J_15, J_30, J_60, J_99, J_100, J_999, J_n1, i2_j2, m_in, tf_0, not_true_eq_false, not_false_eq_true, m_al hm, L_15, L_40, L_100, L_101, L_190, L_200, L_999, uA_self, and_self, if_true, if_false, and_true, true_and, and_false, false_and, a1, ty, m_st hm, m_told]
      refine ⟨i2 (cl (stA A x 7)), ?_, ?_⟩
      · unfold fX11_of
        simp -dsimp (disch := omega) only [↓B1_bp, ↓B2_bp, BP_some, BQ_some, ↓reduceIte, L_0, L_1, L_2, L_3, L_4, L_5, L_6, L_7, L_8, L_9, L_10, L_11, L_12, L_13, L_54, L_14, L_99, L_20, L_30, L_31, L_60, L_19, i2_add, i2_sub, i2_mul, i2_neg, Int.reduceAdd, Int.reduceSub, Int.reduceMul, Int.reduceNeg, Int.reduceLT, Int.reduceLE, Int.reduceEq, i2_le, i2_lt, i2_eq, uA_self, uA_ne, tf_0, not_true_eq_false, not_false_eq_true, L_15, L_40, L_100, L_101, L_200, L_999, ↓NL_bp, BNP_none, BNP_some, and_self, if_true, if_false, and_true, true_and, and_false, false_and, t_now h, d_gk (t_d1 h), q2, gk1, f7]
      · rw [row_of ha]
        unfold fX12_of
        simp -dsimp (disch := omega) only [↓B1_bp, ↓B2_bp, BP_some, BQ_some, ↓reduceIte, gk_row, rdN_row, alN_row, alN__row, gk_m hm, rdm0 hm, rdm1 hm, rdm2 hm, rdm3 hm, L_0, L_1, L_2, L_3, L_4, L_5, L_6, L_7, L_8, L_9, L_10, L_11, L_12, L_13, L_54, L_14, L_99, L_20, L_30, L_31, L_60, L_19, i2_add, i2_sub, i2_mul, i2_neg, Int.reduceAdd, Int.reduceSub, Int.reduceMul, Int.reduceNeg, Int.reduceLT, Int.reduceLE, Int.reduceEq, i2_le, i2_lt, i2_eq, J_0, J_1, J_2, J_3, J_5, J_7, J_8, J_9, J_10, J_13, J_15, J_30, J_60, J_99, J_100, J_999, J_n1, i2_j2, m_in, tf_0, not_true_eq_false, not_false_eq_true, m_al hm, L_15, L_40, L_100, L_101, L_190, L_200, L_999, uA_self, and_self, if_true, if_false, and_true, true_and, and_false, false_and, a1, ty, m_st hm, m_told]
      · have a3 : (if A 2 = x then (0 : Int) else if A 3 = x then 1 else -9) = cl (if A 2 = x then (0 : Int) else if A 3 = x then 1 else -1) ∧ -1 ≤ (if A 2 = x then (0 : Int) else if A 3 = x then 1 else -1) ∧ (if A 2 = x then (0 : Int) else if A 3 = x then 1 else -1) ≤ 1 := by
          unfold cl
          repeat' split
          all_goals omega
        rw [a3.1] at hf
        have b1 := a3.2.1
        have b2 := a3.2.2
        generalize (if A 2 = x then (0 : Int) else if A 3 = x then 1 else -1) = v at a2 hf b1 b2
        refine ⟨i2 (cl v), ?_, ?_⟩
        · unfold fX11_of
          simp -dsimp (disch := omega) only [↓B1_bp, ↓B2_bp, BP_some, BQ_some, ↓reduceIte, L_0, L_1, L_2, L_3, L_4, L_5, L_6, L_7, L_8, L_9, L_10, L_11, L_12, L_13, L_54, L_14, L_99, L_20, L_30, L_31, L_60, L_19, i2_add, i2_sub, i2_mul, i2_neg, Int.reduceAdd, Int.reduceSub, Int.reduceMul, Int.reduceNeg, Int.reduceLT, Int.reduceLE, Int.reduceEq, i2_le, i2_lt, i2_eq, uA_self, uA_ne, tf_0, not_true_eq_false, not_false_eq_true, L_15, L_40, L_100, L_101, L_200, L_999, ↓NL_bp, BNP_none, BNP_some, and_self, if_true, if_false, and_true, true_and, and_false, false_and, t_now h, d_gk (t_d1 h), q2, gk1, hf]
        · rw [row_of ha]
          unfold fX12_of
          simp -dsimp (disch := omega) only [↓B1_bp, ↓B2_bp, BP_some, BQ_some, ↓reduceIte, gk_row, rdN_row, alN_row, alN__row, gk_m hm, rdm0 hm, rdm1 hm, rdm2 hm, rdm3 hm, L_0, L_1, L_2, L_3, L_4, L_5, L_6, L_7, L_8, L_9, L_10, L_11, L_12, L_13, L_54, L_14, L_99, L_20, L_30, L_31, L_60, L_19, i2_add, i2_sub, i2_mul, i2_neg, Int.reduceAdd, Int.reduceSub, Int.reduceMul, Int.reduceNeg, Int.reduceLT, Int.reduceLE, Int.reduceEq, i2_le, i2_lt, i2_eq, J_0, J_1, J_2, J_3, J_5, J_7, J_8, J_9, J_10, J_13, J_15, J_30, J_60, J_99, J_100, J_999, J_n1, i2_j2, m_in, tf_0, not_true_eq_false, not_false_eq_true, m_al hm, L_15, L_40, L_100, L_101, L_190, L_200, L_999, uA_self, and_self, if_true, if_false, and_true, true_and, and_false, false_and, a1, ty, a2, m_told]
      refine ⟨i2 (opS (stA A x)), ?_, ?_⟩
      · unfold fX11_of
        simp -dsimp (disch := omega) only [↓B1_bp, ↓B2_bp, BP_some, BQ_some, ↓reduceIte, L_0, L_1, L_2, L_3, L_4, L_5, L_6, L_7, L_8, L_9, L_10, L_11, L_12, L_13, L_54, L_14, L_99, L_20, L_30, L_31, L_60, L_19, i2_add, i2_sub, i2_mul, i2_neg, Int.reduceAdd, Int.reduceSub, Int.reduceMul, Int.reduceNeg, Int.reduceLT, Int.reduceLE, Int.reduceEq, i2_le, i2_lt, i2_eq, uA_self, uA_ne, tf_0, not_true_eq_false, not_false_eq_true, L_15, L_40, L_100, L_101, L_200, L_999, ↓NL_bp, BNP_none, BNP_some, and_self, if_true, if_false, and_true, true_and, and_false, false_and, t_now h, d_gk (t_d1 h), q2, gk1, ho]
      · rw [row_of ha]
        unfold fX12_of
        simp -dsimp (disch := omega) only [↓B1_bp, ↓B2_bp, BP_some, BQ_some, ↓reduceIte, gk_row, rdN_row, alN_row, alN__row, gk_m hm, rdm0 hm, rdm1 hm, rdm2 hm, rdm3 hm, L_0, L_1, L_2, L_3, L_4, L_5, L_6, L_7, L_8, L_9, L_10, L_11, L_12, L_13, L_54, L_14, L_99, L_20, L_30, L_31, L_60, L_19, i2_add, i2_sub, i2_mul, i2_neg, Int.reduceAdd, Int.reduceSub, Int.reduceMul, Int.reduceNeg, Int.reduceLT, Int.reduceLE, Int.reduceEq, i2_le, i2_lt, i2_eq, J_0, J_1, J_2, J_3, J_5, J_7, J_8, J_9, J_10, J_13, J_15, J_30, J_60, J_99, J_100, J_999, J_n1, i2_j2, m_in, tf_0, not_true_eq_false, not_false_eq_true, m_al hm, L_15, L_40, L_100, L_101, L_190, L_200, L_999, uA_self, and_self, if_true, if_false, and_true, true_and, and_false, false_and, a1, ty, a3]
    · have ty : tf (0 ≤ y ∧ y ≤ 9) = 0 := tf_f r
      have n0 : ¬ y = 0 := by omega
      have n1 : ¬ y = 1 := by omega
      have n2 : ¬ y = 2 := by omega
      have n3 : ¬ y = 3 := by omega
      have n4 : ¬ y = 4 := by omega
      have n5 : ¬ y = 5 := by omega
      have n6 : ¬ y = 6 := by omega
      have n7 : ¬ y = 7 := by omega
      have n8 : ¬ y = 8 := by omega
      have n9 : ¬ y = 9 := by omega
      refine ⟨i2 (-1), ?_, ?_⟩
      · unfold fX11_of
        simp -dsimp (disch := omega) only [↓B1_bp, ↓B2_bp, BP_some, BQ_some, ↓reduceIte, L_0, L_1, L_2, L_3, L_4, L_5, L_6, L_7, L_8, L_9, L_10, L_11, L_12, L_13, L_54, L_14, L_99, L_20, L_30, L_31, L_60, L_19, i2_add, i2_sub, i2_mul, i2_neg, Int.reduceAdd, Int.reduceSub, Int.reduceMul, Int.reduceNeg, Int.reduceLT, Int.reduceLE, Int.reduceEq, i2_le, i2_lt, i2_eq, uA_self, uA_ne, tf_0, not_true_eq_false, not_false_eq_true, L_15, L_40, L_100, L_101, L_200, L_999, ↓NL_bp, BNP_none, BNP_some, and_self, if_true, if_false, and_true, true_and, and_false, false_and, t_now h, d_gk (t_d1 h), q2, gk1, n0, n1, n2, n3, n4, n5, n6, n7, n8, n9, if_false]
      · rw [row_of ha]
        unfold fX12_of
        simp -dsimp (disch := omega) only [↓B1_bp, ↓B2_bp, BP_some, BQ_some, ↓reduceIte, gk_row, rdN_row, alN_row, alN__row, gk_m hm, rdm0 hm, rdm1 hm, rdm2 hm, rdm3 hm, L_0, L_1, L_2, L_3, L_4, L_5, L_6, L_7, L_8, L_9, L_10, L_11, L_12, L_13, L_54, L_14, L_99, L_20, L_30, L_31, L_60, L_19, i2_add, i2_sub, i2_mul, i2_neg, Int.reduceAdd, Int.reduceSub, Int.reduceMul, Int.reduceNeg, Int.reduceLT, Int.reduceLE, Int.reduceEq, i2_le, i2_lt, i2_eq, J_0, J_1, J_2, J_3, J_5, J_7, J_8, J_9, J_10, J_13, J_15, J_30, J_60, J_99, J_100, J_999, J_n1, i2_j2, m_in, tf_0, not_true_eq_false, not_false_eq_true, m_al hm, L_15, L_40, L_100, L_101, L_190, L_200, L_999, uA_self, and_self, if_true, if_false, and_true, true_and, and_false, false_and, a1, ty]
  · have e1 : ¬ (0 ≤ x ∧ x ≤ A 0 - 1) := by omega
    have e2 : stAt A 1 x = none := if_neg e
    rw [e2] at q2
    rw [tf_f e1] at a1
    refine ⟨i2 (-1), ?_, ?_⟩
    · unfold fX11_of
      simp -dsimp (disch := omega) only [↓B1_bp, ↓B2_bp, BP_some, BQ_some, ↓reduceIte, L_0, L_1, L_2, L_3, L_4, L_5, L_6, L_7, L_8, L_9, L_10, L_11, L_12, L_13, L_54, L_14, L_99, L_20, L_30, L_31, L_60, L_19, i2_add, i2_sub, i2_mul, i2_neg, Int.reduceAdd, Int.reduceSub, Int.reduceMul, Int.reduceNeg, Int.reduceLT, Int.reduceLE, Int.reduceEq, i2_le, i2_lt, i2_eq, uA_self, uA_ne, tf_0, not_true_eq_false, not_false_eq_true, L_15, L_40, L_100, L_101, L_200, L_999, ↓NL_bp, BNP_none, BNP_some, and_self, if_true, if_false, and_true, true_and, and_false, false_and, t_now h, d_gk (t_d1 h), q2]
    · rw [row_of ha]
      unfold fX12_of
      simp -dsimp (disch := omega) only [↓B1_bp, ↓B2_bp, BP_some, BQ_some, ↓reduceIte, gk_row, rdN_row, alN_row, alN__row, gk_m hm, rdm0 hm, rdm1 hm, rdm2 hm, rdm3 hm, L_0, L_1, L_2, L_3, L_4, L_5, L_6, L_7, L_8, L_9, L_10, L_11, L_12, L_13, L_54, L_14, L_99, L_20, L_30, L_31, L_60, L_19, i2_add, i2_sub, i2_mul, i2_neg, Int.reduceAdd, Int.reduceSub, Int.reduceMul, Int.reduceNeg, Int.reduceLT, Int.reduceLE, Int.reduceEq, i2_le, i2_lt, i2_eq, J_0, J_1, J_2, J_3, J_5, J_7, J_8, J_9, J_10, J_13, J_15, J_30, J_60, J_99, J_100, J_999, J_n1, i2_j2, m_in, tf_0, not_true_eq_false, not_false_eq_true, m_al hm, L_15, L_40, L_100, L_101, L_190, L_200, L_999, uA_self, and_self, if_true, if_false, and_true, true_and, and_false, false_and, a1]
end OPSA
