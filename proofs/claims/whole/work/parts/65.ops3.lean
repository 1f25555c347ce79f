section OPS3
variable {M : Mm} {A : Int → Int}
theorem op_minutes (h : LayC M) (hm : LayM M) (c : CR (M.row 165 A) 1 A) (g : GA A) {x : Int} (x0 : -2147483648 ≤ x) (x1 : x < 2147483648) : ∃ r, fX11_minutes (M.row 165 A) 0 (i2 x) = some r ∧ fX12_minutes (M.row 165 A) 164 (i2 x) = some r := by
  have g0 := g.1
  have h' : LayC (M.row 165 A) := h
  have q := m_isTwo (M.row 165 A) x0 x1
  have q2 := c_wayAt (t_d1 h') x0 x1
  by_cases e : 0 ≤ x ∧ x ≤ 1
  · rw [if_pos e] at q2
    rw [tf_t e] at q
    have k1 := m_minutes (A := A) hm g e.1 (show x < 2 by omega)
    have wr := d_wr (t_d1 h') c g (w := x.toNat) (by omega)
    have k2 := c_minutes wr
    rw [show ((x.toNat : Nat) : Int) = x by omega] at k2
    have gw : gk (M.row 165 A) (1 + 5 + 3 * x.toNat) 13 = some () := wr.1
    refine ⟨i2 (minW (wtA A x) (ntA A x) 0 (A (12 + x)).toNat), ?_, ?_⟩
    · unfold fX11_minutes
      simp -dsimp (disch := omega) only [↓B1_bp, BP_some, ↓NL_bp, BNP_none, BNP_some, t_now h', d_gk (t_d1 h'), q2, gw, k2]
      rfl
    · unfold fX12_minutes
      simp -dsimp (disch := omega) only [↓B1_bp, BP_some, gk_row, gk_m hm, q, k1]
      rw [if_neg (by decide +kernel)]
  · rw [if_neg e] at q2
    rw [tf_f e] at q
    refine ⟨i2 (-1), ?_, ?_⟩
    · unfold fX11_minutes
      simp -dsimp (disch := omega) only [↓B1_bp, ↓B2_bp, BP_some, BQ_some, ↓reduceIte, L_0, L_1, L_2, L_3, L_4, L_5, L_6, L_7, L_8, L_9, L_10, L_11, L_12, L_13, L_54, L_14, L_99, L_20, L_30, L_31, L_60, L_19, i2_add, i2_sub, i2_mul, i2_neg, Int.reduceAdd, Int.reduceSub, Int.reduceMul, Int.reduceNeg, Int.reduceLT, Int.reduceLE, Int.reduceEq, i2_le, i2_lt, i2_eq, uA_self, uA_ne, tf_0, not_true_eq_false, not_false_eq_true, ↓NL_bp, BNP_none, BNP_some, t_now h', d_gk (t_d1 h'), q2]
    · unfold fX12_minutes
      simp -dsimp (disch := omega) only [↓B1_bp, ↓B2_bp, BP_some, BQ_some, ↓reduceIte, gk_row, rdN_row, alN_row, alN__row, gk_m hm, rdm0 hm, rdm1 hm, rdm2 hm, rdm3 hm, L_0, L_1, L_2, L_3, L_4, L_5, L_6, L_7, L_8, L_9, L_10, L_11, L_12, L_13, L_54, L_14, L_99, L_20, L_30, L_31, L_60, L_19, i2_add, i2_sub, i2_mul, i2_neg, Int.reduceAdd, Int.reduceSub, Int.reduceMul, Int.reduceNeg, Int.reduceLT, Int.reduceLE, Int.reduceEq, q]
theorem m_dabAt (h : LayM M) (g : GA A) {k x : Int} (k0 : 0 ≤ k) (k1 : k < A 0) (x0 : -2147483648 ≤ x) (x1 : x < 2147483648) : fX12_dabAt (M.row 165 A) 164 (i2 k) (i2 x) = some (i2 (dabC (stA A k) x)) := by
  obtain ⟨n, hn⟩ := FL3
  have g0 := g.1
  obtain ⟨-, -, -, -, -, -, -, g8, g9, g10, -, -, gd⟩ := g.2.2.2.2.2.2.2 k k0 k1
  unfold fX12_dabAt dabC
  rw [hn]
  have e9 : ∀ S : Int, stA A k 9 = S ∨ ¬ stA A k 9 = S := fun S => Classical.em _
  rcases (by omega : stA A k 8 = 0 ∨ stA A k 8 = 1 ∨ stA A k 8 = 2) with e | e | e
  · simp -dsimp (disch := omega) only [fX12_dabAt_L10, ↓B1_bp, ↓B2_bp, BP_some, BQ_some, ↓reduceIte, gk_row, rdN_row, alN_row, alN__row, gk_m h, rdm0 h, rdm1 h, rdm2 h, rdm3 h, L_0, L_1, L_2, L_3, L_4, L_5, L_6, L_7, L_8, L_9, L_10, L_11, L_12, L_13, L_54, L_14, L_99, L_20, L_30, L_31, L_60, L_19, i2_add, i2_sub, i2_mul, i2_neg, Int.reduceAdd, Int.reduceSub, Int.reduceMul, Int.reduceNeg, Int.reduceLT, Int.reduceLE, Int.reduceEq, i2_lt, i2_eq, m_st h, e]
    simp
  · by_cases a : stA A k 9 = x
    · simp -dsimp (disch := omega) only [fX12_dabAt_L10, ↓B1_bp, ↓B2_bp, BP_some, BQ_some, ↓reduceIte, gk_row, rdN_row, alN_row, alN__row, gk_m h, rdm0 h, rdm1 h, rdm2 h, rdm3 h, L_0, L_1, L_2, L_3, L_4, L_5, L_6, L_7, L_8, L_9, L_10, L_11, L_12, L_13, L_54, L_14, L_99, L_20, L_30, L_31, L_60, L_19, i2_add, i2_sub, i2_mul, i2_neg, Int.reduceAdd, Int.reduceSub, Int.reduceMul, Int.reduceNeg, Int.reduceLT, Int.reduceLE, Int.reduceEq, i2_lt, i2_eq, m_st h, e, a, if_true]
      simp
    · simp -dsimp (disch := omega) only [fX12_dabAt_L10, ↓B1_bp, ↓B2_bp, BP_some, BQ_some, ↓reduceIte, gk_row, rdN_row, alN_row, alN__row, gk_m h, rdm0 h, rdm1 h, rdm2 h, rdm3 h, L_0, L_1, L_2, L_3, L_4, L_5, L_6, L_7, L_8, L_9, L_10, L_11, L_12, L_13, L_54, L_14, L_99, L_20, L_30, L_31, L_60, L_19, i2_add, i2_sub, i2_mul, i2_neg, Int.reduceAdd, Int.reduceSub, Int.reduceMul, Int.reduceNeg, Int.reduceLT, Int.reduceLE, Int.reduceEq, i2_lt, i2_eq, m_st h, e, a, if_false]
      simp
  · by_cases a : stA A k 9 = x <;> by_cases b : stA A k 10 = x
    · omega
    · simp -dsimp (disch := omega) only [fX12_dabAt_L10, ↓B1_bp, ↓B2_bp, BP_some, BQ_some, ↓reduceIte, gk_row, rdN_row, alN_row, alN__row, gk_m h, rdm0 h, rdm1 h, rdm2 h, rdm3 h, L_0, L_1, L_2, L_3, L_4, L_5, L_6, L_7, L_8, L_9, L_10, L_11, L_12, L_13, L_54, L_14, L_99, L_20, L_30, L_31, L_60, L_19, i2_add, i2_sub, i2_mul, i2_neg, Int.reduceAdd, Int.reduceSub, Int.reduceMul, Int.reduceNeg, Int.reduceLT, Int.reduceLE, Int.reduceEq, i2_lt, i2_eq, m_st h, e, a, b, if_true, if_false]
      simp
    · simp -dsimp (disch := omega) only [fX12_dabAt_L10, ↓B1_bp, ↓B2_bp, BP_some, BQ_some, ↓reduceIte, gk_row, rdN_row, alN_row, alN__row, gk_m h, rdm0 h, rdm1 h, rdm2 h, rdm3 h, L_0, L_1, L_2, L_3, L_4, L_5, L_6, L_7, L_8, L_9, L_10, L_11, L_12, L_13, L_54, L_14, L_99, L_20, L_30, L_31, L_60, L_19, i2_add, i2_sub, i2_mul, i2_neg, Int.reduceAdd, Int.reduceSub, Int.reduceMul, Int.reduceNeg, Int.reduceLT, Int.reduceLE, Int.reduceEq, i2_lt, i2_eq, m_st h, e, a, b, if_true, if_false]
      simp
    · simp -dsimp (disch := omega) only [fX12_dabAt_L10, ↓B1_bp, ↓B2_bp, BP_some, BQ_some, ↓reduceIte, gk_row, rdN_row, alN_row, alN__row, gk_m h, rdm0 h, rdm1 h, rdm2 h, rdm3 h, L_0, L_1, L_2, L_3, L_4, L_5, L_6, L_7, L_8, L_9, L_10, L_11, L_12, L_13, L_54, L_14, L_99, L_20, L_30, L_31, L_60, L_19, i2_add, i2_sub, i2_mul, i2_neg, Int.reduceAdd, Int.reduceSub, Int.reduceMul, Int.reduceNeg, Int.reduceLT, Int.reduceLE, Int.reduceEq, i2_lt, i2_eq, m_st h, e, a, b, if_true, if_false]
      simp
end OPS3
