section OPSD
variable {M : Mm} {A : Int → Int}
theorem t_rdI {j : Nat} (h : LayC M) : rdI M 0 14 j = some (i2 (gI M 0 j)) := g_rdI h.1.1 j
theorem m_rdI {j : Nat} (h : LayM M) : rdI M 164 15 j = some (i2 (gI M 164 j)) := g_rdI h.1.1 j
theorem t_tp (h : LayC M) : rdI M 109 11 1 = some (i2 (gI M 109 1)) := g_rdI h.2.2.2.2.2.2.1.1 1
theorem t_ran (h : LayC M) : rdN M 0 14 11 = some 163 := by unfold rdN; rw [if_pos h.1.1]; exact h.1.2.2.2.2.2.2.2.2.2.2
theorem t_k163 (h : LayC M) : M.k 163 = 2 := h.2.2.2.2.2.2.2.2.2.2.2.2.2.2
theorem c_bodies (h : LayC M) (n : NI M) : fX11_bodiesKept M 0 = some (i2 (gI M 163 2)) := by
  have q := n.1
  have k := t_k163 h
  have gk1 : gk M 163 2 = some () := if_pos k
  have rd : rdI M 163 2 2 = some (i2 (gI M 163 2)) := g_rdI k 2
  have mn := i2_min (a := 30) (b := gI M 163 2) (by decide) (by decide) (by omega) (by omega)
  rw [show min 30 (gI M 163 2) = gI M 163 2 by omega] at mn
  unfold fX11_bodiesKept fJx4a65c_size_8abf5
  simp -dsimp (disch := omega) only [↓B1_bp, ↓B2_bp, BP_some, BQ_some, ↓reduceIte, L_0, L_1, L_2, L_3, L_4, L_5, L_6, L_7, L_8, L_9, L_10, L_11, L_12, L_13, L_54, L_14, L_99, L_20, L_30, L_31, L_60, L_19, i2_add, i2_sub, i2_mul, i2_neg, Int.reduceAdd, Int.reduceSub, Int.reduceMul, Int.reduceNeg, Int.reduceLT, Int.reduceLE, Int.reduceEq, i2_le, i2_lt, i2_eq, uA_self, uA_ne, tf_0, not_true_eq_false, not_false_eq_true, t_ran h, gk1, rd, mn]
/-- a reading on both sides of one memory -/
theorem opP_2 {r : Int32} {f f' : Option Int32} (h1 : f = some r) (h2 : f' = some r) : OpP f f' := ⟨r, h1, h2⟩
theorem op_many (h : LayC M) (hm : LayM M) (c : CR M 1 A) (g : GA A) (ha : M.g 165 = rI A) {x : Int} (x0 : -2147483648 ≤ x) (x1 : x < 2147483648) (hi : Inv M) : OpP (fX11_many M 0 (i2 x)) (fX12_many M 164 (i2 x)) := by
  have g0 := g.1
  obtain ⟨k1, k2, k3, k4, k5, k6⟩ := hi.2
  have e0 : (0 : Int) ≤ 0 ∧ (0 : Int) ≤ 1 := by decide
  have e1 : (0 : Int) ≤ 1 ∧ (1 : Int) ≤ 1 := by decide
  by_cases q0 : x = 0
  · subst q0
    refine ⟨i2 (A 0), ?_, ?_⟩
    · unfold fX11_many
      simp -dsimp (disch := omega) only [↓B1_bp, ↓B2_bp, BP_some, BQ_some, ↓reduceIte, L_0, L_1, L_2, L_3, L_4, L_5, L_6, L_7, L_8, L_9, L_10, L_11, L_12, L_13, L_54, L_14, L_99, L_20, L_30, L_31, L_60, L_19, i2_add, i2_sub, i2_mul, i2_neg, Int.reduceAdd, Int.reduceSub, Int.reduceMul, Int.reduceNeg, Int.reduceLT, Int.reduceLE, Int.reduceEq, i2_le, i2_lt, i2_eq, uA_self, uA_ne, tf_0, not_true_eq_false, not_false_eq_true, L_15, L_40, L_100, L_101, L_200, L_999, ↓NL_bp, BNP_none, BNP_some, and_self, if_true, if_false, and_true, true_and, and_false, false_and, t_now h, d_gk (t_d1 h), d_cnt (t_d1 h) c]
    · rw [row_of ha]
      unfold fX12_many
      simp -dsimp (disch := omega) only [↓B1_bp, ↓B2_bp, BP_some, BQ_some, ↓reduceIte, gk_row, rdN_row, alN_row, alN__row, gk_m hm, rdm0 hm, rdm1 hm, rdm2 hm, rdm3 hm, L_0, L_1, L_2, L_3, L_4, L_5, L_6, L_7, L_8, L_9, L_10, L_11, L_12, L_13, L_54, L_14, L_99, L_20, L_30, L_31, L_60, L_19, i2_add, i2_sub, i2_mul, i2_neg, Int.reduceAdd, Int.reduceSub, Int.reduceMul, Int.reduceNeg, Int.reduceLT, Int.reduceLE, Int.reduceEq, i2_le, i2_lt, i2_eq, J_0, J_1, J_2, J_3, J_5, J_7, J_8, J_9, J_10, J_13, J_15, J_30, J_60, J_99, J_100, J_999, J_n1, i2_j2, m_in, tf_0, not_true_eq_false, not_false_eq_true, m_al hm, L_15, L_40, L_100, L_101, L_190, L_200, L_999, uA_self, and_self, if_true, if_false, and_true, true_and, and_false, false_and]
  · by_cases q1 : x = 1
    · subst q1
      have w0 : rdI M (1 + 5) 13 0 = some (i2 (A 12)) := (d_wrx (t_d1 h) c g e0).2.1
      have w1 : rdI M (1 + 5 + 3) 13 0 = some (i2 (A 13)) := (d_wrx (t_d1 h) c g e1).2.1
      have y0 : alN M (1 + 4) 24 (i2 0) = some (1 + 5) := d_way (t_d1 h) (w := 0) (by decide) (by decide)
      have y1 : alN M (1 + 4) 24 (i2 1) = some (1 + 5 + 3) := d_way (t_d1 h) (w := 1) (by decide) (by decide)
      refine ⟨i2 (A 12 + A 13), ?_, ?_⟩
      · unfold fX11_many
        simp -dsimp (disch := omega) only [↓B1_bp, ↓B2_bp, BP_some, BQ_some, ↓reduceIte, L_0, L_1, L_2, L_3, L_4, L_5, L_6, L_7, L_8, L_9, L_10, L_11, L_12, L_13, L_54, L_14, L_99, L_20, L_30, L_31, L_60, L_19, i2_add, i2_sub, i2_mul, i2_neg, Int.reduceAdd, Int.reduceSub, Int.reduceMul, Int.reduceNeg, Int.reduceLT, Int.reduceLE, Int.reduceEq, i2_le, i2_lt, i2_eq, uA_self, uA_ne, tf_0, not_true_eq_false, not_false_eq_true, L_15, L_40, L_100, L_101, L_200, L_999, ↓NL_bp, BNP_none, BNP_some, and_self, if_true, if_false, and_true, true_and, and_false, false_and, t_now h, d_gk (t_d1 h), q0, d_ways (t_d1 h), y0, y1, w0, w1]
      · rw [row_of ha]
        unfold fX12_many
        simp -dsimp (disch := omega) only [↓B1_bp, ↓B2_bp, BP_some, BQ_some, ↓reduceIte, gk_row, rdN_row, alN_row, alN__row, gk_m hm, rdm0 hm, rdm1 hm, rdm2 hm, rdm3 hm, L_0, L_1, L_2, L_3, L_4, L_5, L_6, L_7, L_8, L_9, L_10, L_11, L_12, L_13, L_54, L_14, L_99, L_20, L_30, L_31, L_60, L_19, i2_add, i2_sub, i2_mul, i2_neg, Int.reduceAdd, Int.reduceSub, Int.reduceMul, Int.reduceNeg, Int.reduceLT, Int.reduceLE, Int.reduceEq, i2_le, i2_lt, i2_eq, J_0, J_1, J_2, J_3, J_5, J_7, J_8, J_9, J_10, J_13, J_15, J_30, J_60, J_99, J_100, J_999, J_n1, i2_j2, m_in, tf_0, not_true_eq_false, not_false_eq_true, m_al hm, L_15, L_40, L_100, L_101, L_190, L_200, L_999, uA_self, and_self, if_true, if_false, and_true, true_and, and_false, false_and, q0]
    · by_cases q2 : x = 2
      · subst q2
        refine ⟨i2 (laF A (A 0).toNat 0), ?_, ?_⟩
        · unfold fX11_many
          simp -dsimp (disch := omega) only [↓B1_bp, ↓B2_bp, BP_some, BQ_some, ↓reduceIte, L_0, L_1, L_2, L_3, L_4, L_5, L_6, L_7, L_8, L_9, L_10, L_11, L_12, L_13, L_54, L_14, L_99, L_20, L_30, L_31, L_60, L_19, i2_add, i2_sub, i2_mul, i2_neg, Int.reduceAdd, Int.reduceSub, Int.reduceMul, Int.reduceNeg, Int.reduceLT, Int.reduceLE, Int.reduceEq, i2_le, i2_lt, i2_eq, uA_self, uA_ne, tf_0, not_true_eq_false, not_false_eq_true, L_15, L_40, L_100, L_101, L_200, L_999, ↓NL_bp, BNP_none, BNP_some, and_self, if_true, if_false, and_true, true_and, and_false, false_and, t_now h, d_gk (t_d1 h), c_ladders (t_d1 h) c g]
        · rw [row_of ha]
          unfold fX12_many
          simp -dsimp (disch := omega) only [↓B1_bp, ↓B2_bp, BP_some, BQ_some, ↓reduceIte, gk_row, rdN_row, alN_row, alN__row, gk_m hm, rdm0 hm, rdm1 hm, rdm2 hm, rdm3 hm, L_0, L_1, L_2, L_3, L_4, L_5, L_6, L_7, L_8, L_9, L_10, L_11, L_12, L_13, L_54, L_14, L_99, L_20, L_30, L_31, L_60, L_19, i2_add, i2_sub, i2_mul, i2_neg, Int.reduceAdd, Int.reduceSub, Int.reduceMul, Int.reduceNeg, Int.reduceLT, Int.reduceLE, Int.reduceEq, i2_le, i2_lt, i2_eq, J_0, J_1, J_2, J_3, J_5, J_7, J_8, J_9, J_10, J_13, J_15, J_30, J_60, J_99, J_100, J_999, J_n1, i2_j2, m_in, tf_0, not_true_eq_false, not_false_eq_true, m_al hm, L_15, L_40, L_100, L_101, L_190, L_200, L_999, uA_self, and_self, if_true, if_false, and_true, true_and, and_false, false_and, m_ladders hm g]
      · by_cases q3 : x = 3
        · subst q3
          refine ⟨i2 (dbF A (A 0).toNat 0), ?_, ?_⟩
          · unfold fX11_many
            simp -dsimp (disch := omega) only [↓B1_bp, ↓B2_bp, BP_some, BQ_some, ↓reduceIte, L_0, L_1, L_2, L_3, L_4, L_5, L_6, L_7, L_8, L_9, L_10, L_11, L_12, L_13, L_54, L_14, L_99, L_20, L_30, L_31, L_60, L_19, i2_add, i2_sub, i2_mul, i2_neg, Int.reduceAdd, Int.reduceSub, Int.reduceMul, Int.reduceNeg, Int.reduceLT, Int.reduceLE, Int.reduceEq, i2_le, i2_lt, i2_eq, uA_self, uA_ne, tf_0, not_true_eq_false, not_false_eq_true, L_15, L_40, L_100, L_101, L_200, L_999, ↓NL_bp, BNP_none, BNP_some, and_self, if_true, if_false, and_true, true_and, and_false, false_and, t_now h, d_gk (t_d1 h), c_dabs (t_d1 h) c g]
          · rw [row_of ha]
            unfold fX12_many
            simp -dsimp (disch := omega) only [↓B1_bp, ↓B2_bp, BP_some, BQ_some, ↓reduceIte, gk_row, rdN_row, alN_row, alN__row, gk_m hm, rdm0 hm, rdm1 hm, rdm2 hm, rdm3 hm, L_0, L_1, L_2, L_3, L_4, L_5, L_6, L_7, L_8, L_9, L_10, L_11, L_12, L_13, L_54, L_14, L_99, L_20, L_30, L_31, L_60, L_19, i2_add, i2_sub, i2_mul, i2_neg, Int.reduceAdd, Int.reduceSub, Int.reduceMul, Int.reduceNeg, Int.reduceLT, Int.reduceLE, Int.reduceEq, i2_le, i2_lt, i2_eq, J_0, J_1, J_2, J_3, J_5, J_7, J_8, J_9, J_10, J_13, J_15, J_30, J_60, J_99, J_100, J_999, J_n1, i2_j2, m_in, tf_0, not_true_eq_false, not_false_eq_true, m_al hm, L_15, L_40, L_100, L_101, L_190, L_200, L_999, uA_self, and_self, if_true, if_false, and_true, true_and, and_false, false_and, m_dabs hm g]
        · by_cases q4 : x = 4
          · subst q4
            have a := t_rdI (j := 7) h
            have b := m_rdI (j := 11) hm
            have e : gI M 164 (11 : Nat) = gI M 0 (7 : Nat) := k3.1.symm
            rw [e] at b
            refine opP_2 (r := i2 (gI M 0 (7 : Nat))) ?_ ?_
            · unfold fX11_many
              simp -dsimp (disch := omega) only [↓B1_bp, ↓B2_bp, BP_some, BQ_some, ↓reduceIte, L_0, L_1, L_2, L_3, L_4, L_5, L_6, L_7, L_8, L_9, L_10, L_11, L_12, L_13, L_54, L_14, L_99, L_20, L_30, L_31, L_60, L_19, i2_add, i2_sub, i2_mul, i2_neg, Int.reduceAdd, Int.reduceSub, Int.reduceMul, Int.reduceNeg, Int.reduceLT, Int.reduceLE, Int.reduceEq, i2_le, i2_lt, i2_eq, uA_self, uA_ne, tf_0, not_true_eq_false, not_false_eq_true, L_15, L_40, L_100, L_101, L_200, L_999, ↓NL_bp, BNP_none, BNP_some, and_self, if_true, if_false, and_true, true_and, and_false, false_and, t_now h, d_gk (t_d1 h), a]
            · unfold fX12_many
              simp -dsimp (disch := omega) only [↓B1_bp, ↓B2_bp, BP_some, BQ_some, ↓reduceIte, L_0, L_1, L_2, L_3, L_4, L_5, L_6, L_7, L_8, L_9, L_10, L_11, L_12, L_13, L_54, L_14, L_99, L_20, L_30, L_31, L_60, L_19, i2_add, i2_sub, i2_mul, i2_neg, Int.reduceAdd, Int.reduceSub, Int.reduceMul, Int.reduceNeg, Int.reduceLT, Int.reduceLE, Int.reduceEq, i2_le, i2_lt, i2_eq, uA_self, uA_ne, tf_0, not_true_eq_false, not_false_eq_true, b]
          · by_cases q5 : x = 5
            · subst q5
              have b := m_rdI (j := 6) hm
              have e : gI M 164 (6 : Nat) = gI M 109 1 := k2.1.symm
              rw [e] at b
              refine opP_2 (r := i2 (gI M 109 1)) ?_ ?_
              · unfold fX11_many
                simp -dsimp (disch := omega) only [↓B1_bp, ↓B2_bp, BP_some, BQ_some, ↓reduceIte, L_0, L_1, L_2, L_3, L_4, L_5, L_6, L_7, L_8, L_9, L_10, L_11, L_12, L_13, L_54, L_14, L_99, L_20, L_30, L_31, L_60, L_19, i2_add, i2_sub, i2_mul, i2_neg, Int.reduceAdd, Int.reduceSub, Int.reduceMul, Int.reduceNeg, Int.reduceLT, Int.reduceLE, Int.reduceEq, i2_le, i2_lt, i2_eq, uA_self, uA_ne, tf_0, not_true_eq_false, not_false_eq_true, L_15, L_40, L_100, L_101, L_200, L_999, ↓NL_bp, BNP_none, BNP_some, and_self, if_true, if_false, and_true, true_and, and_false, false_and, t_now h, d_gk (t_d1 h), t_tape h, t_tp h]
              · unfold fX12_many
                simp -dsimp (disch := omega) only [↓B1_bp, ↓B2_bp, BP_some, BQ_some, ↓reduceIte, L_0, L_1, L_2, L_3, L_4, L_5, L_6, L_7, L_8, L_9, L_10, L_11, L_12, L_13, L_54, L_14, L_99, L_20, L_30, L_31, L_60, L_19, i2_add, i2_sub, i2_mul, i2_neg, Int.reduceAdd, Int.reduceSub, Int.reduceMul, Int.reduceNeg, Int.reduceLT, Int.reduceLE, Int.reduceEq, i2_le, i2_lt, i2_eq, uA_self, uA_ne, tf_0, not_true_eq_false, not_false_eq_true, b]
            · by_cases q6 : x = 6
              · subst q6
                have b := m_rdI (j := 20) hm
                have e : gI M 164 (20 : Nat) = gI M 163 2 := k6.2.1
                rw [e] at b
                refine opP_2 (r := i2 (gI M 163 2)) ?_ ?_
                · unfold fX11_many
                  simp -dsimp (disch := omega) only [↓B1_bp, ↓B2_bp, BP_some, BQ_some, ↓reduceIte, L_0, L_1, L_2, L_3, L_4, L_5, L_6, L_7, L_8, L_9, L_10, L_11, L_12, L_13, L_54, L_14, L_99, L_20, L_30, L_31, L_60, L_19, i2_add, i2_sub, i2_mul, i2_neg, Int.reduceAdd, Int.reduceSub, Int.reduceMul, Int.reduceNeg, Int.reduceLT, Int.reduceLE, Int.reduceEq, i2_le, i2_lt, i2_eq, uA_self, uA_ne, tf_0, not_true_eq_false, not_false_eq_true, L_15, L_40, L_100, L_101, L_200, L_999, ↓NL_bp, BNP_none, BNP_some, and_self, if_true, if_false, and_true, true_and, and_false, false_and, t_now h, d_gk (t_d1 h), t_gk h, c_bodies h k6]
                · unfold fX12_many
                  simp -dsimp (disch := omega) only [↓B1_bp, ↓B2_bp, BP_some, BQ_some, ↓reduceIte, L_0, L_1, L_2, L_3, L_4, L_5, L_6, L_7, L_8, L_9, L_10, L_11, L_12, L_13, L_54, L_14, L_99, L_20, L_30, L_31, L_60, L_19, i2_add, i2_sub, i2_mul, i2_neg, Int.reduceAdd, Int.reduceSub, Int.reduceMul, Int.reduceNeg, Int.reduceLT, Int.reduceLE, Int.reduceEq, i2_le, i2_lt, i2_eq, uA_self, uA_ne, tf_0, not_true_eq_false, not_false_eq_true, b]
              · refine ⟨i2 (-1), ?_, ?_⟩
                · unfold fX11_many
                  simp -dsimp (disch := omega) only [↓B1_bp, ↓B2_bp, BP_some, BQ_some, ↓reduceIte, L_0, L_1, L_2, L_3, L_4, L_5, L_6, L_7, L_8, L_9, L_10, L_11, L_12, L_13, L_54, L_14, L_99, L_20, L_30, L_31, L_60, L_19, i2_add, i2_sub, i2_mul, i2_neg, Int.reduceAdd, Int.reduceSub, Int.reduceMul, Int.reduceNeg, Int.reduceLT, Int.reduceLE, Int.reduceEq, i2_le, i2_lt, i2_eq, uA_self, uA_ne, tf_0, not_true_eq_false, not_false_eq_true, L_15, L_40, L_100, L_101, L_200, L_999, ↓NL_bp, BNP_none, BNP_some, and_self, if_true, if_false, and_true, true_and, and_false, false_and, t_now h, d_gk (t_d1 h), q0, q1, q2, q3, q4, q5, q6]
                · rw [row_of ha]
                  unfold fX12_many
                  simp -dsimp (disch := omega) only [↓B1_bp, ↓B2_bp, BP_some, BQ_some, ↓reduceIte, gk_row, rdN_row, alN_row, alN__row, gk_m hm, rdm0 hm, rdm1 hm, rdm2 hm, rdm3 hm, L_0, L_1, L_2, L_3, L_4, L_5, L_6, L_7, L_8, L_9, L_10, L_11, L_12, L_13, L_54, L_14, L_99, L_20, L_30, L_31, L_60, L_19, i2_add, i2_sub, i2_mul, i2_neg, Int.reduceAdd, Int.reduceSub, Int.reduceMul, Int.reduceNeg, Int.reduceLT, Int.reduceLE, Int.reduceEq, i2_le, i2_lt, i2_eq, J_0, J_1, J_2, J_3, J_5, J_7, J_8, J_9, J_10, J_13, J_15, J_30, J_60, J_99, J_100, J_999, J_n1, i2_j2, m_in, tf_0, not_true_eq_false, not_false_eq_true, m_al hm, L_15, L_40, L_100, L_101, L_190, L_200, L_999, uA_self, and_self, if_true, if_false, and_true, true_and, and_false, false_and, q0, q1, q2, q3, q4, q5, q6]
theorem m_cell (h : LayM M) (r : RI M) {x y : Int} (x0 : -2147483648 ≤ x) (x1 : x < 2147483648) (y0 : -2147483648 ≤ y) (y1 : y < 2147483648) : fX12_isCell M 164 (i2 x) (i2 y) = some (i2 (tf ((0 ≤ x ∧ x ≤ gI M 0 7 - 1) ∧ (0 ≤ y ∧ y ≤ 2)))) := by
  have b := m_rdI (j := 11) h
  have e : gI M 164 (11 : Nat) = gI M 0 7 := r.1.symm
  rw [e] at b
  have rb := r.2.1
  unfold fX12_isCell
  by_cases e1 : 0 ≤ x ∧ x ≤ gI M 0 7 - 1
  · have t1 : tf (0 ≤ x ∧ x ≤ gI M 0 7 - 1) = 1 := tf_t e1
    by_cases e2 : 0 ≤ y ∧ y ≤ 2
    · have t2 : tf (0 ≤ y ∧ y ≤ 2) = 1 := tf_t e2
      rw [tf_t ⟨e1, e2⟩]
      simp -dsimp (disch := omega) only [↓B1_bp, ↓B2_bp, BP_some, BQ_some, ↓reduceIte, L_0, L_1, L_2, L_3, L_4, L_5, L_6, L_7, L_8, L_9, L_10, L_11, L_12, L_13, L_54, L_14, L_99, L_20, L_30, L_31, L_60, L_19, i2_add, i2_sub, i2_mul, i2_neg, Int.reduceAdd, Int.reduceSub, Int.reduceMul, Int.reduceNeg, Int.reduceLT, Int.reduceLE, Int.reduceEq, i2_le, i2_lt, i2_eq, uA_self, uA_ne, tf_0, not_true_eq_false, not_false_eq_true, b, J_0, J_1, J_2, J_3, J_5, J_7, J_8, J_9, J_10, J_13, J_15, J_30, J_60, J_99, J_100, J_999, J_n1, i2_j2, m_in, t1, t2]
    · have t2 : tf (0 ≤ y ∧ y ≤ 2) = 0 := tf_f e2
      rw [tf_f (fun z => e2 z.2)]
      simp -dsimp (disch := omega) only [↓B1_bp, ↓B2_bp, BP_some, BQ_some, ↓reduceIte, L_0, L_1, L_2, L_3, L_4, L_5, L_6, L_7, L_8, L_9, L_10, L_11, L_12, L_13, L_54, L_14, L_99, L_20, L_30, L_31, L_60, L_19, i2_add, i2_sub, i2_mul, i2_neg, Int.reduceAdd, Int.reduceSub, Int.reduceMul, Int.reduceNeg, Int.reduceLT, Int.reduceLE, Int.reduceEq, i2_le, i2_lt, i2_eq, uA_self, uA_ne, tf_0, not_true_eq_false, not_false_eq_true, b, J_0, J_1, J_2, J_3, J_5, J_7, J_8, J_9, J_10, J_13, J_15, J_30, J_60, J_99, J_100, J_999, J_n1, i2_j2, m_in, t1, t2]
  · have t1 : tf (0 ≤ x ∧ x ≤ gI M 0 7 - 1) = 0 := tf_f e1
    rw [tf_f (fun z => e1 z.1)]
    simp -dsimp (disch := omega) only [↓B1_bp, ↓B2_bp, BP_some, BQ_some, ↓reduceIte, L_0, L_1, L_2, L_3, L_4, L_5, L_6, L_7, L_8, L_9, L_10, L_11, L_12, L_13, L_54, L_14, L_99, L_20, L_30, L_31, L_60, L_19, i2_add, i2_sub, i2_mul, i2_neg, Int.reduceAdd, Int.reduceSub, Int.reduceMul, Int.reduceNeg, Int.reduceLT, Int.reduceLE, Int.reduceEq, i2_le, i2_lt, i2_eq, uA_self, uA_ne, tf_0, not_true_eq_false, not_false_eq_true, b, J_0, J_1, J_2, J_3, J_5, J_7, J_8, J_9, J_10, J_13, J_15, J_30, J_60, J_99, J_100, J_999, J_n1, i2_j2, m_in, t1]
theorem c_inRows (h : LayC M) (r : RI M) {x y : Int} (x0 : -2147483648 ≤ x) (x1 : x < 2147483648) (y0 : -2147483648 ≤ y) (y1 : y < 2147483648) : fX11_isInRows M 0 (i2 x) (i2 y) = some (i2 (tf ((0 ≤ x ∧ x ≤ gI M 0 7 - 1) ∧ (0 ≤ y ∧ y ≤ 2)))) := by
  have b : rdI M 0 14 7 = some (i2 (gI M 0 7)) := t_rdI (j := 7) h
  have rb := r.2.1
  unfold fX11_isInRows
  by_cases e1 : 0 ≤ x ∧ x ≤ gI M 0 7 - 1
  · have t1 : tf (0 ≤ x ∧ x ≤ gI M 0 7 - 1) = 1 := tf_t e1
    by_cases e2 : 0 ≤ y ∧ y ≤ 2
    · have t2 : tf (0 ≤ y ∧ y ≤ 2) = 1 := tf_t e2
      rw [tf_t ⟨e1, e2⟩]
      simp -dsimp (disch := omega) only [↓B1_bp, ↓B2_bp, BP_some, BQ_some, ↓reduceIte, L_0, L_1, L_2, L_3, L_4, L_5, L_6, L_7, L_8, L_9, L_10, L_11, L_12, L_13, L_54, L_14, L_99, L_20, L_30, L_31, L_60, L_19, i2_add, i2_sub, i2_mul, i2_neg, Int.reduceAdd, Int.reduceSub, Int.reduceMul, Int.reduceNeg, Int.reduceLT, Int.reduceLE, Int.reduceEq, i2_le, i2_lt, i2_eq, uA_self, uA_ne, tf_0, not_true_eq_false, not_false_eq_true, b, c_isWithin, t1, t2]
    · have t2 : tf (0 ≤ y ∧ y ≤ 2) = 0 := tf_f e2
      rw [tf_f (fun z => e2 z.2)]
      simp -dsimp (disch := omega) only [↓B1_bp, ↓B2_bp, BP_some, BQ_some, ↓reduceIte, L_0, L_1, L_2, L_3, L_4, L_5, L_6, L_7, L_8, L_9, L_10, L_11, L_12, L_13, L_54, L_14, L_99, L_20, L_30, L_31, L_60, L_19, i2_add, i2_sub, i2_mul, i2_neg, Int.reduceAdd, Int.reduceSub, Int.reduceMul, Int.reduceNeg, Int.reduceLT, Int.reduceLE, Int.reduceEq, i2_le, i2_lt, i2_eq, uA_self, uA_ne, tf_0, not_true_eq_false, not_false_eq_true, b, c_isWithin, t1, t2]
  · have t1 : tf (0 ≤ x ∧ x ≤ gI M 0 7 - 1) = 0 := tf_f e1
    rw [tf_f (fun z => e1 z.1)]
    simp -dsimp (disch := omega) only [↓B1_bp, ↓B2_bp, BP_some, BQ_some, ↓reduceIte, L_0, L_1, L_2, L_3, L_4, L_5, L_6, L_7, L_8, L_9, L_10, L_11, L_12, L_13, L_54, L_14, L_99, L_20, L_30, L_31, L_60, L_19, i2_add, i2_sub, i2_mul, i2_neg, Int.reduceAdd, Int.reduceSub, Int.reduceMul, Int.reduceNeg, Int.reduceLT, Int.reduceLE, Int.reduceEq, i2_le, i2_lt, i2_eq, uA_self, uA_ne, tf_0, not_true_eq_false, not_false_eq_true, b, c_isWithin, t1]
theorem op_row (h : LayC M) (hm : LayM M) (c : CR M 1 A) (g : GA A) (ha : M.g 165 = rI A) {x y : Int} (x0 : -2147483648 ≤ x) (x1 : x < 2147483648) (y0 : -2147483648 ≤ y) (y1 : y < 2147483648) (hi : Inv M) : OpP (fX11_row M 0 (i2 x) (i2 y)) (fX12_row M 164 (i2 x) (i2 y)) := by
  have r := hi.2.2.2.1
  have q1 := c_inRows h r x0 x1 y0 y1
  have q2 := m_cell hm r x0 x1 y0 y1
  have rb := r.2.1
  by_cases e : (0 ≤ x ∧ x ≤ gI M 0 7 - 1) ∧ (0 ≤ y ∧ y ≤ 2)
  · rw [tf_t e] at q1 q2
    have hx : ((x.toNat : Nat) : Int) = x := by omega
    have rt := t_rowAt h (i := x) e.1.1 (by omega)
    have a1 := g_alI (t_rowA h (i := x.toNat) (by omega)) (x := y) e.2.1 (by omega) (by omega)
    have a2 := g_alI (ar_ro hm) (x := 3 * x + y) (by omega) (by omega) (by omega)
    have e2 := r.2.2 x.toNat (by omega) y e.2.1 (by omega)
    rw [hx] at e2
    rw [← e2] at a2
    refine opP_2 (r := i2 (gI M (150 + x.toNat) y)) ?_ ?_
    · unfold fX11_row
      simp -dsimp (disch := omega) only [↓B1_bp, ↓B2_bp, BP_some, BQ_some, ↓reduceIte, L_0, L_1, L_2, L_3, L_4, L_5, L_6, L_7, L_8, L_9, L_10, L_11, L_12, L_13, L_54, L_14, L_99, L_20, L_30, L_31, L_60, L_19, i2_add, i2_sub, i2_mul, i2_neg, Int.reduceAdd, Int.reduceSub, Int.reduceMul, Int.reduceNeg, Int.reduceLT, Int.reduceLE, Int.reduceEq, i2_le, i2_lt, i2_eq, uA_self, uA_ne, tf_0, not_true_eq_false, not_false_eq_true, L_15, L_40, L_100, L_101, L_200, L_999, ↓NL_bp, BNP_none, BNP_some, and_self, if_true, if_false, and_true, true_and, and_false, false_and, t_now h, d_gk (t_d1 h), t_gk h, q1, t_row h, rt, a1]
    · unfold fX12_row
      simp -dsimp (disch := omega) only [↓B1_bp, ↓B2_bp, BP_some, BQ_some, ↓reduceIte, L_0, L_1, L_2, L_3, L_4, L_5, L_6, L_7, L_8, L_9, L_10, L_11, L_12, L_13, L_54, L_14, L_99, L_20, L_30, L_31, L_60, L_19, i2_add, i2_sub, i2_mul, i2_neg, Int.reduceAdd, Int.reduceSub, Int.reduceMul, Int.reduceNeg, Int.reduceLT, Int.reduceLE, Int.reduceEq, i2_le, i2_lt, i2_eq, uA_self, uA_ne, tf_0, not_true_eq_false, not_false_eq_true, gk_m hm, q2, m_r10 hm, a2]
  · rw [tf_f e] at q1 q2
    refine opP_2 (r := i2 (-9)) ?_ ?_
    · unfold fX11_row
      simp -dsimp (disch := omega) only [↓B1_bp, ↓B2_bp, BP_some, BQ_some, ↓reduceIte, L_0, L_1, L_2, L_3, L_4, L_5, L_6, L_7, L_8, L_9, L_10, L_11, L_12, L_13, L_54, L_14, L_99, L_20, L_30, L_31, L_60, L_19, i2_add, i2_sub, i2_mul, i2_neg, Int.reduceAdd, Int.reduceSub, Int.reduceMul, Int.reduceNeg, Int.reduceLT, Int.reduceLE, Int.reduceEq, i2_le, i2_lt, i2_eq, uA_self, uA_ne, tf_0, not_true_eq_false, not_false_eq_true, L_15, L_40, L_100, L_101, L_200, L_999, ↓NL_bp, BNP_none, BNP_some, and_self, if_true, if_false, and_true, true_and, and_false, false_and, t_now h, d_gk (t_d1 h), t_gk h, q1]
    · unfold fX12_row
      simp -dsimp (disch := omega) only [↓B1_bp, ↓B2_bp, BP_some, BQ_some, ↓reduceIte, L_0, L_1, L_2, L_3, L_4, L_5, L_6, L_7, L_8, L_9, L_10, L_11, L_12, L_13, L_54, L_14, L_99, L_20, L_30, L_31, L_60, L_19, i2_add, i2_sub, i2_mul, i2_neg, Int.reduceAdd, Int.reduceSub, Int.reduceMul, Int.reduceNeg, Int.reduceLT, Int.reduceLE, Int.reduceEq, i2_le, i2_lt, i2_eq, uA_self, uA_ne, tf_0, not_true_eq_false, not_false_eq_true, gk_m hm, q2]
theorem op_alterRow (h : LayC M) (hm : LayM M) (c : CR M 1 A) (g : GA A) (ha : M.g 165 = rI A) {x y z : Int} (x0 : -2147483648 ≤ x) (x1 : x < 2147483648) (y0 : -2147483648 ≤ y) (y1 : y < 2147483648) (z0 : -2147483648 ≤ z) (z1 : z < 2147483648) (hi : Inv M) : Op M (fun M => fX11_alterRow M 0 (i2 x) (i2 y) (i2 z)) (fun M => fX12_alterRow M 164 (i2 x) (i2 y) (i2 z)) := by
  have r := hi.2.2.2.1
  have q1 := c_inRows h r x0 x1 y0 y1
  have rb := r.2.1
  by_cases e : (0 ≤ x ∧ x ≤ gI M 0 7 - 1) ∧ (0 ≤ y ∧ y ≤ 2)
  · rw [tf_t e] at q1
    have hx : ((x.toNat : Nat) : Int) = x := by omega
    have rt := t_rowAt h (i := x) e.1.1 (by omega)
    have ra := t_rowA h (i := x.toNat) (by omega)
    have a1 := g_alI ra (x := y) e.2.1 (by omega) (by omega)
    have w1 := g_asI (M := M) ra (x := y) (v := z) e.2.1 (by omega) (by omega)
    have s1 := SmP.row (P := RoP) M (p := 150 + x.toNat) (uA (gI M (150 + x.toNat)) y z) (by unfold RoP; omega)
    have e0 : ∀ q, q ≠ 150 + x.toNat → gI (M.row (150 + x.toNat) (uA (gI M (150 + x.toNat)) y z)) q = gI M q := fun q hq => gI_ne _ hq
    have hm1 := hm.sm s1
    have q2 := m_cell (M := M) hm r x0 x1 y0 y1
    rw [tf_t e] at q2
    have q2' : fX12_isCell (M.row (150 + x.toNat) (uA (gI M (150 + x.toNat)) y z)) 164 (i2 x) (i2 y) = some (i2 1) := by
      have z1 : ∀ N : Mm, fX12_isCell N 164 (i2 x) (i2 y) = B1 (rdI N 164 15 11) fun x4_1 => B1 (fX12_in M ((i2 x).toInt64) 0 ((x4_1 - 1).toInt64)) fun x10_2 => if x10_2 = 0 then some 0 else B1 (fX12_in M ((i2 y).toInt64) 0 2) fun x22_3 => if x22_3 = 0 then some 0 else some 1 := fun N => rfl
      rw [z1, rdI_row (by omega), ← z1]
      exact q2
    have a2 := g_alI (ar_ro hm1) (x := 3 * x + y) (by omega) (by omega) (by omega)
    rw [e0 170 (by omega)] at a2
    have e2 := r.2.2 x.toNat (by omega) y e.2.1 (by omega)
    rw [hx] at e2
    rw [← e2] at a2
    have w2 := g_asI (M := M.row (150 + x.toNat) (uA (gI M (150 + x.toNat)) y z)) (ar_ro hm1) (x := 3 * x + y) (v := z) (by omega) (by omega) (by omega)
    rw [e0 170 (by omega)] at w2
    have s2 := SmP.row (P := RoP) (M.row (150 + x.toNat) (uA (gI M (150 + x.toNat)) y z)) (p := 170) (uA (gI M 170) (3 * x + y) z) (by unfold RoP; omega)
    have e3 : ∀ q, q ≠ 150 + x.toNat → q ≠ 170 → gI ((M.row (150 + x.toNat) (uA (gI M (150 + x.toNat)) y z)).row 170 (uA (gI M 170) (3 * x + y) z)) q = gI M q := fun q h1 h2 => by rw [gI_ne _ h2, e0 q h1]
    have g165 : ((M.row (150 + x.toNat) (uA (gI M (150 + x.toNat)) y z)).row 170 (uA (gI M 170) (3 * x + y) z)).g 165 = rI A := by
      rw [row_g_ne _ (by omega), row_g_ne _ (by omega)]
      exact ha
    refine ⟨i2 (gI M (150 + x.toNat) y), M.row (150 + x.toNat) (uA (gI M (150 + x.toNat)) y z), (M.row (150 + x.toNat) (uA (gI M (150 + x.toNat)) y z)).row 170 (uA (gI M 170) (3 * x + y) z), ?_, ?_, Inv.rows (A' := A) hi (s1.tr s2) ?_ ?_ ?_ ?_ ⟨?_, ?_, ?_⟩ g165 g ((c.same (Same.row M _ _) (by omega) g.1.2).same (Same.row _ _ _) (by omega) g.1.2)⟩
    · show fX11_alterRow M 0 (i2 x) (i2 y) (i2 z) = _
      unfold fX11_alterRow
      simp -dsimp (disch := omega) only [↓B1_bp, ↓B2_bp, BP_some, BQ_some, ↓reduceIte, L_0, L_1, L_2, L_3, L_4, L_5, L_6, L_7, L_8, L_9, L_10, L_11, L_12, L_13, L_54, L_14, L_99, L_20, L_30, L_31, L_60, L_19, i2_add, i2_sub, i2_mul, i2_neg, Int.reduceAdd, Int.reduceSub, Int.reduceMul, Int.reduceNeg, Int.reduceLT, Int.reduceLE, Int.reduceEq, i2_le, i2_lt, i2_eq, uA_self, uA_ne, tf_0, not_true_eq_false, not_false_eq_true, L_15, L_40, L_100, L_101, L_200, L_999, ↓NL_bp, BNP_none, BNP_some, and_self, if_true, if_false, and_true, true_and, and_false, false_and, t_now h, d_gk (t_d1 h), t_gk h, q1, t_row h, rt, a1, w1]
    · show fX12_alterRow (M.row (150 + x.toNat) (uA (gI M (150 + x.toNat)) y z)) 164 (i2 x) (i2 y) (i2 z) = _
      unfold fX12_alterRow
      simp -dsimp (disch := omega) only [↓B1_bp, ↓B2_bp, BP_some, BQ_some, ↓reduceIte, L_0, L_1, L_2, L_3, L_4, L_5, L_6, L_7, L_8, L_9, L_10, L_11, L_12, L_13, L_54, L_14, L_99, L_20, L_30, L_31, L_60, L_19, i2_add, i2_sub, i2_mul, i2_neg, Int.reduceAdd, Int.reduceSub, Int.reduceMul, Int.reduceNeg, Int.reduceLT, Int.reduceLE, Int.reduceEq, i2_le, i2_lt, i2_eq, uA_self, uA_ne, tf_0, not_true_eq_false, not_false_eq_true, gk_row, rdN_row, gk_m hm, q2', m_r10 hm, a2, w2]
    · rw [e3 0 (by omega) (by omega)]
    · rw [e3 164 (by omega) (by omega)]
    · rw [e3 164 (by omega) (by omega)]
    · rw [e3 164 (by omega) (by omega)]
    · rw [e3 164 (by omega) (by omega), e3 0 (by omega) (by omega)]
      exact r.1
    · rw [e3 0 (by omega) (by omega)]
      exact r.2.1
    · intro i hi' j j0 j3
      rw [e3 0 (by omega) (by omega)] at hi'
      have old := r.2.2 i hi' j j0 j3
      by_cases ei : i = x.toNat ∧ j = y
      · obtain ⟨ei, ej⟩ := ei
        subst ej
        rw [ei, gI_ne _ (by omega), gI_u j0 z0 z1, hx, gI_at (by omega) (by rw [uA_self]; exact z0) (by rw [uA_self]; exact z1), uA_self]
      · have nb := gI_b M 170 (3 * i + j)
        have e5 : gI ((M.row (150 + x.toNat) (uA (gI M (150 + x.toNat)) y z)).row 170 (uA (gI M 170) (3 * x + y) z)) 170 (3 * i + j) = gI M 170 (3 * i + j) := by
          rw [gI_at (by omega) (by rw [uA_ne (by omega)]; exact nb.1) (by rw [uA_ne (by omega)]; exact nb.2), uA_ne (by omega)]
        rw [e5, gI_ne _ (by omega)]
        by_cases e6 : i = x.toNat
        · rw [← e6, gI_u_ne j0 (fun w => ei ⟨e6, w⟩)]
          exact old
        · rw [gI_ne _ (by omega)]
          exact old
  · rw [tf_f e] at q1
    have q2 := m_cell (M := M) hm r x0 x1 y0 y1
    rw [tf_f e] at q2
    refine ⟨i2 (-9), M, M, ?_, ?_, hi⟩
    · show fX11_alterRow M 0 (i2 x) (i2 y) (i2 z) = _
      unfold fX11_alterRow
      simp -dsimp (disch := omega) only [↓B1_bp, ↓B2_bp, BP_some, BQ_some, ↓reduceIte, L_0, L_1, L_2, L_3, L_4, L_5, L_6, L_7, L_8, L_9, L_10, L_11, L_12, L_13, L_54, L_14, L_99, L_20, L_30, L_31, L_60, L_19, i2_add, i2_sub, i2_mul, i2_neg, Int.reduceAdd, Int.reduceSub, Int.reduceMul, Int.reduceNeg, Int.reduceLT, Int.reduceLE, Int.reduceEq, i2_le, i2_lt, i2_eq, uA_self, uA_ne, tf_0, not_true_eq_false, not_false_eq_true, L_15, L_40, L_100, L_101, L_200, L_999, ↓NL_bp, BNP_none, BNP_some, and_self, if_true, if_false, and_true, true_and, and_false, false_and, t_now h, d_gk (t_d1 h), t_gk h, q1]
    · show fX12_alterRow M 164 (i2 x) (i2 y) (i2 z) = _
      unfold fX12_alterRow
      simp -dsimp (disch := omega) only [↓B1_bp, ↓B2_bp, BP_some, BQ_some, ↓reduceIte, L_0, L_1, L_2, L_3, L_4, L_5, L_6, L_7, L_8, L_9, L_10, L_11, L_12, L_13, L_54, L_14, L_99, L_20, L_30, L_31, L_60, L_19, i2_add, i2_sub, i2_mul, i2_neg, Int.reduceAdd, Int.reduceSub, Int.reduceMul, Int.reduceNeg, Int.reduceLT, Int.reduceLE, Int.reduceEq, i2_le, i2_lt, i2_eq, uA_self, uA_ne, tf_0, not_true_eq_false, not_false_eq_true, gk_m hm, q2]
end OPSD
