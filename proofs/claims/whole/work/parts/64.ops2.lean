theorem J_0 : (0 : Int64) = j2 0 := by decide +kernel
theorem J_1 : (1 : Int64) = j2 1 := by decide +kernel
theorem J_3 : (3 : Int64) = j2 3 := by decide +kernel
theorem J_5 : (5 : Int64) = j2 5 := by decide +kernel
theorem J_7 : (7 : Int64) = j2 7 := by decide +kernel
theorem J_9 : (9 : Int64) = j2 9 := by decide +kernel
theorem J_99 : (99 : Int64) = j2 99 := by decide +kernel
section OPS2
variable {M : Mm} {A : Int → Int}
theorem m_isTwo (M : Mm) {x : Int} (x0 : -2147483648 ≤ x) (x1 : x < 2147483648) : fX12_isTwo M (i2 x) = some (i2 (tf (0 ≤ x ∧ x ≤ 1))) := by
  unfold fX12_isTwo
  simp -dsimp (disch := omega) only [↓B1_bp, BP_some, J_0, J_1, J_3, J_5, J_7, J_9, J_99, i2_j2, m_in, tf_bz]
theorem m_isRung (M : Mm) {x : Int} (x0 : -2147483648 ≤ x) (x1 : x < 2147483648) : fX12_isRung M (i2 x) = some (i2 (tf (0 ≤ x ∧ x ≤ 99))) := by
  unfold fX12_isRung
  simp -dsimp (disch := omega) only [↓B1_bp, BP_some, J_0, J_1, J_3, J_5, J_7, J_9, J_99, i2_j2, m_in, tf_bz]
theorem m_isOne (h : LayM M) (g : GA A) {x : Int} (x0 : -2147483648 ≤ x) (x1 : x < 2147483648) : fX12_isOne (M.row 165 A) 164 (i2 x) = some (i2 (tf (0 ≤ x ∧ x ≤ A 0 - 1))) := by
  have g0 := g.1
  unfold fX12_isOne
  simp -dsimp (disch := omega) only [↓B1_bp, ↓B2_bp, BP_some, BQ_some, ↓reduceIte, gk_row, rdN_row, alN_row, alN__row, gk_m h, rdm0 h, rdm1 h, rdm2 h, rdm3 h, L_0, L_1, L_2, L_3, L_4, L_5, L_6, L_7, L_8, L_9, L_10, L_11, L_12, L_13, L_54, L_14, L_99, L_20, L_30, L_31, L_60, L_19, i2_add, i2_sub, i2_mul, i2_neg, Int.reduceAdd, Int.reduceSub, Int.reduceMul, Int.reduceNeg, Int.reduceLT, Int.reduceLE, Int.reduceEq, m_al h, i2_le, i2_lt, i2_eq, J_0, J_1, J_3, J_5, J_7, J_9, J_99, i2_j2, m_in, tf_bz]
theorem c_isLaw (M : Mm) {x : Int} (x0 : -2147483648 ≤ x) (x1 : x < 2147483648) : fX11_isLaw M (i2 x) = some (i2 (tf (0 ≤ x ∧ x ≤ 7))) := by
  unfold fX11_isLaw
  simp -dsimp (disch := omega) only [↓B1_bp, ↓B2_bp, BP_some, BQ_some, ↓reduceIte, L_0, L_1, L_2, L_3, L_4, L_5, L_6, L_7, L_8, L_9, L_10, L_11, L_12, L_13, L_54, L_14, L_99, L_20, L_30, L_31, L_60, L_19, i2_add, i2_sub, i2_mul, i2_neg, Int.reduceAdd, Int.reduceSub, Int.reduceMul, Int.reduceNeg, Int.reduceLT, Int.reduceLE, Int.reduceEq, i2_le, i2_lt, i2_eq, uA_self, uA_ne, tf_0, not_true_eq_false, not_false_eq_true, c_isWithin, tf_bz]
theorem op_lawOf (h : LayC M) (hm : LayM M) (c : CR (M.row 165 A) 1 A) (g : GA A) {x : Int} (x0 : -2147483648 ≤ x) (x1 : x < 2147483648) : ∃ r, fX11_lawOf (M.row 165 A) 0 (i2 x) = some r ∧ fX12_lawOf (M.row 165 A) 164 (i2 x) = some r := by
  have h' : LayC (M.row 165 A) := h
  have hl := d_law (t_d1 h') c
  have q := c_isLaw (M.row 165 A) x0 x1
  by_cases e : 0 ≤ x ∧ x ≤ 7
  · have hx := hl x e.1 (by omega)
    rw [tf_t e] at q
    refine ⟨i2 (A (4 + x)), ?_, ?_⟩
    · unfold fX11_lawOf
      simp -dsimp (disch := omega) only [↓B1_bp, ↓B2_bp, BP_some, BQ_some, ↓reduceIte, L_0, L_1, L_2, L_3, L_4, L_5, L_6, L_7, L_8, L_9, L_10, L_11, L_12, L_13, L_54, L_14, L_99, L_20, L_30, L_31, L_60, L_19, i2_add, i2_sub, i2_mul, i2_neg, Int.reduceAdd, Int.reduceSub, Int.reduceMul, Int.reduceNeg, Int.reduceLT, Int.reduceLE, Int.reduceEq, i2_le, i2_lt, i2_eq, uA_self, uA_ne, tf_0, not_true_eq_false, not_false_eq_true, t_now h', d_laws (t_d1 h'), q]
      rw [hx]
      rfl
    · unfold fX12_lawOf
      have ee : (0 : Int) ≤ x ∧ x ≤ 7 := e
      simp -dsimp (disch := omega) only [↓B1_bp, ↓B2_bp, BP_some, BQ_some, ↓reduceIte, gk_row, rdN_row, alN_row, alN__row, gk_m hm, rdm0 hm, rdm1 hm, rdm2 hm, rdm3 hm, L_4, i2_add, i2_sub, i2_mul, i2_neg, Int.reduceAdd, Int.reduceSub, Int.reduceMul, Int.reduceNeg, Int.reduceLT, Int.reduceLE, Int.reduceEq, J_0, J_1, J_3, J_5, J_7, J_9, J_99, i2_j2, m_in, i2_eq, L_0, tf_t ee, m_al hm, if_false]
  · rw [tf_f e] at q
    refine ⟨i2 (-1), ?_, ?_⟩
    · unfold fX11_lawOf
      simp -dsimp (disch := omega) only [↓B1_bp, ↓B2_bp, BP_some, BQ_some, ↓reduceIte, L_0, L_1, L_2, L_3, L_4, L_5, L_6, L_7, L_8, L_9, L_10, L_11, L_12, L_13, L_54, L_14, L_99, L_20, L_30, L_31, L_60, L_19, i2_add, i2_sub, i2_mul, i2_neg, Int.reduceAdd, Int.reduceSub, Int.reduceMul, Int.reduceNeg, Int.reduceLT, Int.reduceLE, Int.reduceEq, i2_le, i2_lt, i2_eq, uA_self, uA_ne, tf_0, not_true_eq_false, not_false_eq_true, q]
    · unfold fX12_lawOf
      simp -dsimp (disch := omega) only [↓B1_bp, ↓B2_bp, BP_some, BQ_some, ↓reduceIte, gk_row, rdN_row, alN_row, alN__row, gk_m hm, rdm0 hm, rdm1 hm, rdm2 hm, rdm3 hm, L_0, L_1, i2_add, i2_sub, i2_mul, i2_neg, Int.reduceAdd, Int.reduceSub, Int.reduceMul, Int.reduceNeg, Int.reduceLT, Int.reduceLE, Int.reduceEq, J_0, J_1, J_3, J_5, J_7, J_9, J_99, i2_j2, m_in, i2_eq, tf_f e, if_true]
theorem op_mate (h : LayC M) (hm : LayM M) (c : CR (M.row 165 A) 1 A) (g : GA A) {x : Int} (x0 : -2147483648 ≤ x) (x1 : x < 2147483648) : ∃ r, fX11_mate (M.row 165 A) 0 (i2 x) = some r ∧ fX12_mate (M.row 165 A) 164 (i2 x) = some r := by
  have g0 := g.1
  have h' : LayC (M.row 165 A) := h
  have q := m_isOne (A := A) hm g x0 x1
  have q2 := c_stockingAt (t_d1 h') c g x0 x1
  by_cases e : 0 ≤ x ∧ x < A 0
  · have e1 : 0 ≤ x ∧ x ≤ A 0 - 1 := by omega
    have e2 : stAt A 1 x = some (1 + 11 + 3 * x.toNat) := if_pos e
    rw [e2] at q2
    rw [tf_t e1] at q
    have k1 := m_mateOf (A := A) hm g e.1 e.2
    have k2 := c_mateOf (t_d1 h') c g e.1 e.2
    refine ⟨if (0 : Int32) ≤ i2 (mateA A x) then i2 (mateA A x) else i2 (-3), ?_, ?_⟩
    · unfold fX11_mate
      simp -dsimp (disch := omega) only [↓B1_bp, BP_some, ↓NL_bp, BNP_none, BNP_some, t_now h', d_gk (t_d1 h'), q2, k2, L_3, i2_add, i2_sub, i2_mul, i2_neg, Int.reduceAdd, Int.reduceSub, Int.reduceMul, Int.reduceNeg, Int.reduceLT, Int.reduceLE, Int.reduceEq]
      split <;> rfl
    · unfold fX12_mate
      simp -dsimp (disch := omega) only [↓B1_bp, BP_some, gk_row, gk_m hm, q, k1, L_3, i2_add, i2_sub, i2_mul, i2_neg, Int.reduceAdd, Int.reduceSub, Int.reduceMul, Int.reduceNeg, Int.reduceLT, Int.reduceLE, Int.reduceEq]
      rw [if_neg (by decide +kernel)]
      split <;> rfl
  · have e1 : ¬ (0 ≤ x ∧ x ≤ A 0 - 1) := by omega
    have e2 : stAt A 1 x = none := if_neg e
    rw [e2] at q2
    rw [tf_f e1] at q
    refine ⟨i2 (-1), ?_, ?_⟩
    · unfold fX11_mate
      simp -dsimp (disch := omega) only [↓B1_bp, ↓B2_bp, BP_some, BQ_some, ↓reduceIte, L_0, L_1, L_2, L_3, L_4, L_5, L_6, L_7, L_8, L_9, L_10, L_11, L_12, L_13, L_54, L_14, L_99, L_20, L_30, L_31, L_60, L_19, i2_add, i2_sub, i2_mul, i2_neg, Int.reduceAdd, Int.reduceSub, Int.reduceMul, Int.reduceNeg, Int.reduceLT, Int.reduceLE, Int.reduceEq, i2_le, i2_lt, i2_eq, uA_self, uA_ne, tf_0, not_true_eq_false, not_false_eq_true, ↓NL_bp, BNP_none, BNP_some, t_now h', d_gk (t_d1 h'), q2]
    · unfold fX12_mate
      simp -dsimp (disch := omega) only [↓B1_bp, ↓B2_bp, BP_some, BQ_some, ↓reduceIte, gk_row, rdN_row, alN_row, alN__row, gk_m hm, rdm0 hm, rdm1 hm, rdm2 hm, rdm3 hm, L_0, L_1, L_2, L_3, L_4, L_5, L_6, L_7, L_8, L_9, L_10, L_11, L_12, L_13, L_54, L_14, L_99, L_20, L_30, L_31, L_60, L_19, i2_add, i2_sub, i2_mul, i2_neg, Int.reduceAdd, Int.reduceSub, Int.reduceMul, Int.reduceNeg, Int.reduceLT, Int.reduceLE, Int.reduceEq, q]
end OPS2
