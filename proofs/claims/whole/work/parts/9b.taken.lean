section TAKEN
variable {M : Mm} {A : Int → Int}
def unI (k y : Int) : Int := if y = 0 ∨ y = k ∨ (y = 1 ∧ k = 3) ∨ (y = 2 ∧ k = 4) then 1 else 0
theorem unI_01 (k y : Int) : unI k y = 0 ∨ unI k y = 1 := by
  unfold unI
  split
  · exact Or.inr rfl
  · exact Or.inl rfl
theorem c_under (M : Mm) {k y : Int} (k0 : 0 ≤ k) (k5 : k ≤ 5) (yy : (0 ≤ y ∧ y ≤ 5) ∨ (10 ≤ y ∧ y ≤ 13)) : fX11_isKindUnder M (i2 k) (i2 y) = some (i2 (unI k y)) := by
  have kk : k = 0 ∨ k = 1 ∨ k = 2 ∨ k = 3 ∨ k = 4 ∨ k = 5 := by omega
  have y' : y = 0 ∨ y = 1 ∨ y = 2 ∨ y = 3 ∨ y = 4 ∨ y = 5 ∨ y = 10 ∨ y = 11 ∨ y = 12 ∨ y = 13 := by omega
  rcases kk with rfl | rfl | rfl | rfl | rfl | rfl <;> rcases y' with rfl | rfl | rfl | rfl | rfl | rfl | rfl | rfl | rfl | rfl <;> rfl
theorem m_under (M : Mm) {k y : Int} (k0 : 0 ≤ k) (k5 : k ≤ 5) (yy : 0 ≤ y ∧ y ≤ 5) : fX12_isUnder M (i2 k) (i2 y) = some (i2 (unI k y)) := by
  have kk : k = 0 ∨ k = 1 ∨ k = 2 ∨ k = 3 ∨ k = 4 ∨ k = 5 := by omega
  have y' : y = 0 ∨ y = 1 ∨ y = 2 ∨ y = 3 ∨ y = 4 ∨ y = 5 := by omega
  rcases kk with rfl | rfl | rfl | rfl | rfl | rfl <;> rcases y' with rfl | rfl | rfl | rfl | rfl | rfl <;> rfl
/-- a stocking that a shelf holds: its number, if there is one -/
theorem m_isStocking (hm : LayM M) (g : GA A) (ha : M.g 165 = rI A) {x : Int} (x0 : 0 ≤ x) (x3 : x ≤ 3) : fX12_isStocking M 164 (i2 x) = some (i2 (tf (gI M 175 x = 0 ∧ 0 ≤ gI M 176 x ∧ gI M 176 x ≤ A 0 - 1))) := by
  have l75 := g_alI (ar_75 hm) (x := x) x0 (by omega) (by omega)
  have l76 := g_alI (ar_76 hm) (x := x) x0 (by omega) (by omega)
  have b75 := gI_b M 175 x
  have b76 := gI_b M 176 x
  have a1 := m_isOne (A := A) hm g b76.1 b76.2
  rw [← row_of ha] at a1
  unfold fX12_isStocking
  by_cases e : gI M 175 x = 0
  · rw [e] at l75 ⊢
    by_cases e2 : 0 ≤ gI M 176 x ∧ gI M 176 x ≤ A 0 - 1
    · rw [tf_t e2] at a1
      rw [tf_t ⟨rfl, e2⟩]
      simp -dsimp (disch := omega) only [↓B1_bp, ↓B2_bp, BP_some, BQ_some, ↓reduceIte, L_0, L_1, L_2, L_3, L_4, L_5, L_6, L_7, L_8, L_9, L_10, L_11, L_12, L_13, L_54, L_14, L_99, L_20, L_30, L_31, L_60, L_19, i2_add, i2_sub, i2_mul, i2_neg, Int.reduceAdd, Int.reduceSub, Int.reduceMul, Int.reduceNeg, Int.reduceLT, Int.reduceLE, Int.reduceEq, i2_le, i2_lt, i2_eq, uA_self, uA_ne, tf_0, not_true_eq_false, not_false_eq_true, m_r16 hm, l75, m_r17 hm, l76, gk_m hm, a1]
    · rw [tf_f e2] at a1
      rw [tf_f (fun z => e2 z.2)]
      simp -dsimp (disch := omega) only [↓B1_bp, ↓B2_bp, BP_some, BQ_some, ↓reduceIte, L_0, L_1, L_2, L_3, L_4, L_5, L_6, L_7, L_8, L_9, L_10, L_11, L_12, L_13, L_54, L_14, L_99, L_20, L_30, L_31, L_60, L_19, i2_add, i2_sub, i2_mul, i2_neg, Int.reduceAdd, Int.reduceSub, Int.reduceMul, Int.reduceNeg, Int.reduceLT, Int.reduceLE, Int.reduceEq, i2_le, i2_lt, i2_eq, uA_self, uA_ne, tf_0, not_true_eq_false, not_false_eq_true, m_r16 hm, l75, m_r17 hm, l76, gk_m hm, a1]
  · rw [tf_f (fun z => e z.1)]
    simp -dsimp (disch := omega) only [↓B1_bp, ↓B2_bp, BP_some, BQ_some, ↓reduceIte, L_0, L_1, L_2, L_3, L_4, L_5, L_6, L_7, L_8, L_9, L_10, L_11, L_12, L_13, L_54, L_14, L_99, L_20, L_30, L_31, L_60, L_19, i2_add, i2_sub, i2_mul, i2_neg, Int.reduceAdd, Int.reduceSub, Int.reduceMul, Int.reduceNeg, Int.reduceLT, Int.reduceLE, Int.reduceEq, i2_le, i2_lt, i2_eq, uA_self, uA_ne, tf_0, not_true_eq_false, not_false_eq_true, m_r16 hm, l75, e, if_false]
theorem op_taken (h : LayC M) (hm : LayM M) (c : CR M 1 A) (g : GA A) (ha : M.g 165 = rI A) {x y : Int} (x0 : -2147483648 ≤ x) (x1 : x < 2147483648) (y0 : -2147483648 ≤ y) (y1 : y < 2147483648) (hi : Inv M) : OpP (fX11_taken M 0 (i2 x) (i2 y)) (fX12_taken M 164 (i2 x) (i2 y)) := by
  have g0 := g.1
  have fi := hi.2.2.2.2.2.1
  have q1 := c_isShelf M x0 x1
  have q2 := m_isFour M x0 x1
  by_cases e : 0 ≤ x ∧ x ≤ 3
  · have hx : ((x.toNat : Nat) : Int) = x := by omega
    rw [tf_t e] at q1 q2
    have q3 := q162 h e.1 e.2
    have l61 := g_alI (ar_61 h) (x := x) e.1 (by omega) (by omega)
    have l75 := g_alI (ar_75 hm) (x := x) e.1 (by omega) (by omega)
    have l76 := g_alI (ar_76 hm) (x := x) e.1 (by omega) (by omega)
    have l77 := g_alI (ar_77 hm) (x := x) e.1 (by omega) (by omega)
    have b61 := gI_b M 161 x
    have b75 := gI_b M 175 x
    have b76 := gI_b M 176 x
    have b77 := gI_b M 177 x
    have is := m_isStocking hm g ha e.1 e.2
    have st := c_stockingAt (t_d1 h) c g b61.1 b61.2
    have kw := c_isKind M y0 y1
    by_cases e2 : (0 ≤ y ∧ y ≤ 5) ∨ (10 ≤ y ∧ y ≤ 13)
    · have k13 : tf (10 ≤ y ∧ y ≤ 13) = tf (¬ (0 ≤ y ∧ y ≤ 5)) := by
        by_cases e3 : 0 ≤ y ∧ y ≤ 5
        · rw [tf_f (by omega), tf_f (fun z => z e3)]
        · rw [tf_t (by omega), tf_t e3]
      have kk := c_isWithin M y0 y1 (b := 10) (c := 13) (by decide) (by decide) (by decide) (by decide)
      rw [k13] at kk
      rcases fi x.toNat (by omega) with ⟨w1, w2, w3⟩ | ⟨w1, w2, o, w3, w4⟩ | ⟨w1, w2, w3⟩
      · rw [hx] at w1 w3
        rw [w2] at q3
        rw [w3] at st l61
        rw [w1] at l75
        by_cases e4 : 0 ≤ gI M 176 x ∧ gI M 176 x < A 0
        · have e5 : 0 ≤ gI M 176 x ∧ gI M 176 x ≤ A 0 - 1 := by omega
          have hk : (((gI M 176 x).toNat : Nat) : Int) = gI M 176 x := by omega
          rw [tf_t ⟨w1, e5⟩] at is
          rw [show stAt A 1 (gI M 176 x) = some (1 + 11 + 3 * (gI M 176 x).toNat) from if_pos e4] at st
          have f0 := (d_fld (t_d1 h) c g (k := (gI M 176 x).toNat) (by omega)).1.1
          rw [hk] at f0
          have gs := g.2.2.2.2.2.2.2 _ e4.1 e4.2
          have un := c_under M gs.1.1 gs.1.2 e2
          have a0 := m_st (A := A) hm e4.1 (show gI M 176 x < 8 by omega) (w := 0) (by decide) (by decide)
          rw [← row_of ha] at a0
          by_cases e3 : 0 ≤ y ∧ y ≤ 5
          · have k5 : tf (0 ≤ y ∧ y ≤ 5) = 1 := tf_t e3
            have mu := m_under M gs.1.1 gs.1.2 e3
            have n10 : ¬ 10 ≤ y := by omega
            rw [tf_t e3] at kw
            clear gs
            rcases unI_01 (stA A (gI M 176 x) 0) y with u | u
            · rw [u] at un mu
              refine opP_2 (r := i2 (-13)) ?_ ?_
              · unfold fX11_taken
                simp -dsimp (disch := omega) only [↓B1_bp, ↓B2_bp, BP_some, BQ_some, ↓reduceIte, L_0, L_1, L_2, L_3, L_4, L_5, L_6, L_7, L_8, L_9, L_10, L_11, L_12, L_13, L_54, L_14, L_99, L_20, L_30, L_31, L_60, L_19, i2_add, i2_sub, i2_mul, i2_neg, Int.reduceAdd, Int.reduceSub, Int.reduceMul, Int.reduceNeg, Int.reduceLT, Int.reduceLE, Int.reduceEq, i2_le, i2_lt, i2_eq, uA_self, uA_ne, tf_0, not_true_eq_false, not_false_eq_true, L_15, L_40, L_100, L_101, L_200, L_999, ↓NL_bp, BNP_none, BNP_some, and_self, if_true, if_false, and_true, true_and, and_false, false_and, t_now h, d_gk (t_d1 h), q1, kw, kk, t_sr h, q3, t_now h, t_ss h, l61, d_gk (t_d1 h), st, f0, un]
              · unfold fX12_taken
                simp -dsimp (disch := omega) only [↓B1_bp, ↓B2_bp, BP_some, BQ_some, ↓reduceIte, L_0, L_1, L_2, L_3, L_4, L_5, L_6, L_7, L_8, L_9, L_10, L_11, L_12, L_13, L_54, L_14, L_99, L_20, L_30, L_31, L_60, L_19, i2_add, i2_sub, i2_mul, i2_neg, Int.reduceAdd, Int.reduceSub, Int.reduceMul, Int.reduceNeg, Int.reduceLT, Int.reduceLE, Int.reduceEq, i2_le, i2_lt, i2_eq, uA_self, uA_ne, tf_0, not_true_eq_false, not_false_eq_true, J_0, J_1, J_2, J_3, J_5, J_7, J_8, J_9, J_10, J_13, J_15, J_30, J_60, J_99, J_100, J_999, J_n1, i2_j2, m_in, q2, k5, k13, gk_m hm, m_r16 hm, l75, m_r17 hm, l76, m_r18 hm, l77, is, n10, a0, mu, if_false]
            · rw [u] at un mu
              refine opP_2 (r := i2 (gI M 176 x)) ?_ ?_
              · unfold fX11_taken
                simp -dsimp (disch := omega) only [↓B1_bp, ↓B2_bp, BP_some, BQ_some, ↓reduceIte, L_0, L_1, L_2, L_3, L_4, L_5, L_6, L_7, L_8, L_9, L_10, L_11, L_12, L_13, L_54, L_14, L_99, L_20, L_30, L_31, L_60, L_19, i2_add, i2_sub, i2_mul, i2_neg, Int.reduceAdd, Int.reduceSub, Int.reduceMul, Int.reduceNeg, Int.reduceLT, Int.reduceLE, Int.reduceEq, i2_le, i2_lt, i2_eq, uA_self, uA_ne, tf_0, not_true_eq_false, not_false_eq_true, L_15, L_40, L_100, L_101, L_200, L_999, ↓NL_bp, BNP_none, BNP_some, and_self, if_true, if_false, and_true, true_and, and_false, false_and, t_now h, d_gk (t_d1 h), q1, kw, kk, t_sr h, q3, t_now h, t_ss h, l61, d_gk (t_d1 h), st, f0, un]
              · unfold fX12_taken
                simp -dsimp (disch := omega) only [↓B1_bp, ↓B2_bp, BP_some, BQ_some, ↓reduceIte, L_0, L_1, L_2, L_3, L_4, L_5, L_6, L_7, L_8, L_9, L_10, L_11, L_12, L_13, L_54, L_14, L_99, L_20, L_30, L_31, L_60, L_19, i2_add, i2_sub, i2_mul, i2_neg, Int.reduceAdd, Int.reduceSub, Int.reduceMul, Int.reduceNeg, Int.reduceLT, Int.reduceLE, Int.reduceEq, i2_le, i2_lt, i2_eq, uA_self, uA_ne, tf_0, not_true_eq_false, not_false_eq_true, J_0, J_1, J_2, J_3, J_5, J_7, J_8, J_9, J_10, J_13, J_15, J_30, J_60, J_99, J_100, J_999, J_n1, i2_j2, m_in, q2, k5, k13, gk_m hm, m_r16 hm, l75, m_r17 hm, l76, m_r18 hm, l77, is, n10, a0, mu, if_false]
          · have k5 : tf (0 ≤ y ∧ y ≤ 5) = 0 := tf_f e3
            have n10 : 10 ≤ y := by omega
            have n13 : y ≤ 13 := by omega
            rw [tf_f e3] at kw
            rw [tf_t e3] at kk k13
            have u : unI (stA A (gI M 176 x) 0) y = 0 := by
              have g0' := gs.1
              unfold unI
              rw [if_neg]
              omega
            rw [u] at un
            clear gs
            refine opP_2 (r := i2 (-13)) ?_ ?_
            · unfold fX11_taken
              simp -dsimp (disch := omega) only [↓B1_bp, ↓B2_bp, BP_some, BQ_some, ↓reduceIte, L_0, L_1, L_2, L_3, L_4, L_5, L_6, L_7, L_8, L_9, L_10, L_11, L_12, L_13, L_54, L_14, L_99, L_20, L_30, L_31, L_60, L_19, i2_add, i2_sub, i2_mul, i2_neg, Int.reduceAdd, Int.reduceSub, Int.reduceMul, Int.reduceNeg, Int.reduceLT, Int.reduceLE, Int.reduceEq, i2_le, i2_lt, i2_eq, uA_self, uA_ne, tf_0, not_true_eq_false, not_false_eq_true, L_15, L_40, L_100, L_101, L_200, L_999, ↓NL_bp, BNP_none, BNP_some, and_self, if_true, if_false, and_true, true_and, and_false, false_and, t_now h, d_gk (t_d1 h), q1, kw, kk, t_sr h, q3, t_now h, t_ss h, l61, d_gk (t_d1 h), st, f0, un]
            · unfold fX12_taken
              simp -dsimp (disch := omega) only [↓B1_bp, ↓B2_bp, BP_some, BQ_some, ↓reduceIte, L_0, L_1, L_2, L_3, L_4, L_5, L_6, L_7, L_8, L_9, L_10, L_11, L_12, L_13, L_54, L_14, L_99, L_20, L_30, L_31, L_60, L_19, i2_add, i2_sub, i2_mul, i2_neg, Int.reduceAdd, Int.reduceSub, Int.reduceMul, Int.reduceNeg, Int.reduceLT, Int.reduceLE, Int.reduceEq, i2_le, i2_lt, i2_eq, uA_self, uA_ne, tf_0, not_true_eq_false, not_false_eq_true, J_0, J_1, J_2, J_3, J_5, J_7, J_8, J_9, J_10, J_13, J_15, J_30, J_60, J_99, J_100, J_999, J_n1, i2_j2, m_in, q2, k5, k13, gk_m hm, m_r16 hm, l75, m_r17 hm, l76, m_r18 hm, l77, is, n10, n13, and_self, not_true_eq_false, if_false, if_true]
        · rw [show stAt A 1 (gI M 176 x) = none from if_neg e4] at st
          rw [tf_f (fun z => e4 (by omega))] at is
          by_cases e3 : 0 ≤ y ∧ y ≤ 5
          · have k5 : tf (0 ≤ y ∧ y ≤ 5) = 1 := tf_t e3
            rw [tf_t e3] at kw
            refine opP_2 (r := i2 (-11)) ?_ ?_
            · unfold fX11_taken
              simp -dsimp (disch := omega) only [↓B1_bp, ↓B2_bp, BP_some, BQ_some, ↓reduceIte, L_0, L_1, L_2, L_3, L_4, L_5, L_6, L_7, L_8, L_9, L_10, L_11, L_12, L_13, L_54, L_14, L_99, L_20, L_30, L_31, L_60, L_19, i2_add, i2_sub, i2_mul, i2_neg, Int.reduceAdd, Int.reduceSub, Int.reduceMul, Int.reduceNeg, Int.reduceLT, Int.reduceLE, Int.reduceEq, i2_le, i2_lt, i2_eq, uA_self, uA_ne, tf_0, not_true_eq_false, not_false_eq_true, L_15, L_40, L_100, L_101, L_200, L_999, ↓NL_bp, BNP_none, BNP_some, and_self, if_true, if_false, and_true, true_and, and_false, false_and, t_now h, d_gk (t_d1 h), q1, kw, kk, t_sr h, q3, t_now h, t_ss h, l61, d_gk (t_d1 h), st]
            · unfold fX12_taken
              simp -dsimp (disch := omega) only [↓B1_bp, ↓B2_bp, BP_some, BQ_some, ↓reduceIte, L_0, L_1, L_2, L_3, L_4, L_5, L_6, L_7, L_8, L_9, L_10, L_11, L_12, L_13, L_54, L_14, L_99, L_20, L_30, L_31, L_60, L_19, i2_add, i2_sub, i2_mul, i2_neg, Int.reduceAdd, Int.reduceSub, Int.reduceMul, Int.reduceNeg, Int.reduceLT, Int.reduceLE, Int.reduceEq, i2_le, i2_lt, i2_eq, uA_self, uA_ne, tf_0, not_true_eq_false, not_false_eq_true, J_0, J_1, J_2, J_3, J_5, J_7, J_8, J_9, J_10, J_13, J_15, J_30, J_60, J_99, J_100, J_999, J_n1, i2_j2, m_in, q2, k5, k13, gk_m hm, m_r16 hm, l75, m_r17 hm, l76, m_r18 hm, l77, is]
          · have k5 : tf (0 ≤ y ∧ y ≤ 5) = 0 := tf_f e3
            rw [tf_f e3] at kw
            rw [tf_t e3] at kk k13
            refine opP_2 (r := i2 (-11)) ?_ ?_
            · unfold fX11_taken
              simp -dsimp (disch := omega) only [↓B1_bp, ↓B2_bp, BP_some, BQ_some, ↓reduceIte, L_0, L_1, L_2, L_3, L_4, L_5, L_6, L_7, L_8, L_9, L_10, L_11, L_12, L_13, L_54, L_14, L_99, L_20, L_30, L_31, L_60, L_19, i2_add, i2_sub, i2_mul, i2_neg, Int.reduceAdd, Int.reduceSub, Int.reduceMul, Int.reduceNeg, Int.reduceLT, Int.reduceLE, Int.reduceEq, i2_le, i2_lt, i2_eq, uA_self, uA_ne, tf_0, not_true_eq_false, not_false_eq_true, L_15, L_40, L_100, L_101, L_200, L_999, ↓NL_bp, BNP_none, BNP_some, and_self, if_true, if_false, and_true, true_and, and_false, false_and, t_now h, d_gk (t_d1 h), q1, kw, kk, t_sr h, q3, t_now h, t_ss h, l61, d_gk (t_d1 h), st]
            · unfold fX12_taken
              simp -dsimp (disch := omega) only [↓B1_bp, ↓B2_bp, BP_some, BQ_some, ↓reduceIte, L_0, L_1, L_2, L_3, L_4, L_5, L_6, L_7, L_8, L_9, L_10, L_11, L_12, L_13, L_54, L_14, L_99, L_20, L_30, L_31, L_60, L_19, i2_add, i2_sub, i2_mul, i2_neg, Int.reduceAdd, Int.reduceSub, Int.reduceMul, Int.reduceNeg, Int.reduceLT, Int.reduceLE, Int.reduceEq, i2_le, i2_lt, i2_eq, uA_self, uA_ne, tf_0, not_true_eq_false, not_false_eq_true, J_0, J_1, J_2, J_3, J_5, J_7, J_8, J_9, J_10, J_13, J_15, J_30, J_60, J_99, J_100, J_999, J_n1, i2_j2, m_in, q2, k5, k13, gk_m hm, m_r16 hm, l75, m_r17 hm, l76, m_r18 hm, l77, is]
      · rw [hx] at w1 w2 w4
        rw [w3] at q3
        rw [w1] at l75
        obtain ⟨s1, s2, s3, s4⟩ := so_rd w4
        by_cases e6 : gI M 176 x = y - 10
        · rw [e6] at s2 l76
          by_cases e3 : 0 ≤ y ∧ y ≤ 5
          · have k5 : tf (0 ≤ y ∧ y ≤ 5) = 1 := tf_t e3
            rw [tf_t e3] at kw
            refine opP_2 (r := i2 (gI M 177 x)) ?_ ?_
            · unfold fX11_taken
              simp -dsimp (disch := omega) only [↓B1_bp, ↓B2_bp, BP_some, BQ_some, ↓reduceIte, L_0, L_1, L_2, L_3, L_4, L_5, L_6, L_7, L_8, L_9, L_10, L_11, L_12, L_13, L_54, L_14, L_99, L_20, L_30, L_31, L_60, L_19, i2_add, i2_sub, i2_mul, i2_neg, Int.reduceAdd, Int.reduceSub, Int.reduceMul, Int.reduceNeg, Int.reduceLT, Int.reduceLE, Int.reduceEq, i2_le, i2_lt, i2_eq, uA_self, uA_ne, tf_0, not_true_eq_false, not_false_eq_true, L_15, L_40, L_100, L_101, L_200, L_999, ↓NL_bp, BNP_none, BNP_some, and_self, if_true, if_false, and_true, true_and, and_false, false_and, t_now h, d_gk (t_d1 h), q1, kw, kk, t_sr h, q3, s2, s3, s4]
            · unfold fX12_taken
              simp -dsimp (disch := omega) only [↓B1_bp, ↓B2_bp, BP_some, BQ_some, ↓reduceIte, L_0, L_1, L_2, L_3, L_4, L_5, L_6, L_7, L_8, L_9, L_10, L_11, L_12, L_13, L_54, L_14, L_99, L_20, L_30, L_31, L_60, L_19, i2_add, i2_sub, i2_mul, i2_neg, Int.reduceAdd, Int.reduceSub, Int.reduceMul, Int.reduceNeg, Int.reduceLT, Int.reduceLE, Int.reduceEq, i2_le, i2_lt, i2_eq, uA_self, uA_ne, tf_0, not_true_eq_false, not_false_eq_true, J_0, J_1, J_2, J_3, J_5, J_7, J_8, J_9, J_10, J_13, J_15, J_30, J_60, J_99, J_100, J_999, J_n1, i2_j2, m_in, q2, k5, k13, gk_m hm, m_r16 hm, l75, m_r17 hm, l76, m_r18 hm, l77, if_true]
          · have k5 : tf (0 ≤ y ∧ y ≤ 5) = 0 := tf_f e3
            rw [tf_f e3] at kw
            rw [tf_t e3] at kk k13
            refine opP_2 (r := i2 (gI M 177 x)) ?_ ?_
            · unfold fX11_taken
              simp -dsimp (disch := omega) only [↓B1_bp, ↓B2_bp, BP_some, BQ_some, ↓reduceIte, L_0, L_1, L_2, L_3, L_4, L_5, L_6, L_7, L_8, L_9, L_10, L_11, L_12, L_13, L_54, L_14, L_99, L_20, L_30, L_31, L_60, L_19, i2_add, i2_sub, i2_mul, i2_neg, Int.reduceAdd, Int.reduceSub, Int.reduceMul, Int.reduceNeg, Int.reduceLT, Int.reduceLE, Int.reduceEq, i2_le, i2_lt, i2_eq, uA_self, uA_ne, tf_0, not_true_eq_false, not_false_eq_true, L_15, L_40, L_100, L_101, L_200, L_999, ↓NL_bp, BNP_none, BNP_some, and_self, if_true, if_false, and_true, true_and, and_false, false_and, t_now h, d_gk (t_d1 h), q1, kw, kk, t_sr h, q3, s2, s3, s4]
            · unfold fX12_taken
              simp -dsimp (disch := omega) only [↓B1_bp, ↓B2_bp, BP_some, BQ_some, ↓reduceIte, L_0, L_1, L_2, L_3, L_4, L_5, L_6, L_7, L_8, L_9, L_10, L_11, L_12, L_13, L_54, L_14, L_99, L_20, L_30, L_31, L_60, L_19, i2_add, i2_sub, i2_mul, i2_neg, Int.reduceAdd, Int.reduceSub, Int.reduceMul, Int.reduceNeg, Int.reduceLT, Int.reduceLE, Int.reduceEq, i2_le, i2_lt, i2_eq, uA_self, uA_ne, tf_0, not_true_eq_false, not_false_eq_true, J_0, J_1, J_2, J_3, J_5, J_7, J_8, J_9, J_10, J_13, J_15, J_30, J_60, J_99, J_100, J_999, J_n1, i2_j2, m_in, q2, k5, k13, gk_m hm, m_r16 hm, l75, m_r17 hm, l76, m_r18 hm, l77, if_true]
        · have e7 : ¬ y - 10 = gI M 176 x := fun z => e6 z.symm
          by_cases e3 : 0 ≤ y ∧ y ≤ 5
          · have k5 : tf (0 ≤ y ∧ y ≤ 5) = 1 := tf_t e3
            rw [tf_t e3] at kw
            refine opP_2 (r := i2 (-13)) ?_ ?_
            · unfold fX11_taken
              simp -dsimp (disch := omega) only [↓B1_bp, ↓B2_bp, BP_some, BQ_some, ↓reduceIte, L_0, L_1, L_2, L_3, L_4, L_5, L_6, L_7, L_8, L_9, L_10, L_11, L_12, L_13, L_54, L_14, L_99, L_20, L_30, L_31, L_60, L_19, i2_add, i2_sub, i2_mul, i2_neg, Int.reduceAdd, Int.reduceSub, Int.reduceMul, Int.reduceNeg, Int.reduceLT, Int.reduceLE, Int.reduceEq, i2_le, i2_lt, i2_eq, uA_self, uA_ne, tf_0, not_true_eq_false, not_false_eq_true, L_15, L_40, L_100, L_101, L_200, L_999, ↓NL_bp, BNP_none, BNP_some, and_self, if_true, if_false, and_true, true_and, and_false, false_and, t_now h, d_gk (t_d1 h), q1, kw, kk, t_sr h, q3, s2, s3, s4, e6]
            · unfold fX12_taken
              simp -dsimp (disch := omega) only [↓B1_bp, ↓B2_bp, BP_some, BQ_some, ↓reduceIte, L_0, L_1, L_2, L_3, L_4, L_5, L_6, L_7, L_8, L_9, L_10, L_11, L_12, L_13, L_54, L_14, L_99, L_20, L_30, L_31, L_60, L_19, i2_add, i2_sub, i2_mul, i2_neg, Int.reduceAdd, Int.reduceSub, Int.reduceMul, Int.reduceNeg, Int.reduceLT, Int.reduceLE, Int.reduceEq, i2_le, i2_lt, i2_eq, uA_self, uA_ne, tf_0, not_true_eq_false, not_false_eq_true, J_0, J_1, J_2, J_3, J_5, J_7, J_8, J_9, J_10, J_13, J_15, J_30, J_60, J_99, J_100, J_999, J_n1, i2_j2, m_in, q2, k5, k13, gk_m hm, m_r16 hm, l75, m_r17 hm, l76, m_r18 hm, l77, e7, if_false]
          · have k5 : tf (0 ≤ y ∧ y ≤ 5) = 0 := tf_f e3
            rw [tf_f e3] at kw
            rw [tf_t e3] at kk k13
            refine opP_2 (r := i2 (-13)) ?_ ?_
            · unfold fX11_taken
              simp -dsimp (disch := omega) only [↓B1_bp, ↓B2_bp, BP_some, BQ_some, ↓reduceIte, L_0, L_1, L_2, L_3, L_4, L_5, L_6, L_7, L_8, L_9, L_10, L_11, L_12, L_13, L_54, L_14, L_99, L_20, L_30, L_31, L_60, L_19, i2_add, i2_sub, i2_mul, i2_neg, Int.reduceAdd, Int.reduceSub, Int.reduceMul, Int.reduceNeg, Int.reduceLT, Int.reduceLE, Int.reduceEq, i2_le, i2_lt, i2_eq, uA_self, uA_ne, tf_0, not_true_eq_false, not_false_eq_true, L_15, L_40, L_100, L_101, L_200, L_999, ↓NL_bp, BNP_none, BNP_some, and_self, if_true, if_false, and_true, true_and, and_false, false_and, t_now h, d_gk (t_d1 h), q1, kw, kk, t_sr h, q3, s2, s3, s4, e6]
            · unfold fX12_taken
              simp -dsimp (disch := omega) only [↓B1_bp, ↓B2_bp, BP_some, BQ_some, ↓reduceIte, L_0, L_1, L_2, L_3, L_4, L_5, L_6, L_7, L_8, L_9, L_10, L_11, L_12, L_13, L_54, L_14, L_99, L_20, L_30, L_31, L_60, L_19, i2_add, i2_sub, i2_mul, i2_neg, Int.reduceAdd, Int.reduceSub, Int.reduceMul, Int.reduceNeg, Int.reduceLT, Int.reduceLE, Int.reduceEq, i2_le, i2_lt, i2_eq, uA_self, uA_ne, tf_0, not_true_eq_false, not_false_eq_true, J_0, J_1, J_2, J_3, J_5, J_7, J_8, J_9, J_10, J_13, J_15, J_30, J_60, J_99, J_100, J_999, J_n1, i2_j2, m_in, q2, k5, k13, gk_m hm, m_r16 hm, l75, m_r17 hm, l76, m_r18 hm, l77, e7, if_false]
      · rw [hx] at w1 w3
        rw [w2] at q3
        rw [w3] at st l61
        rw [tf_f (fun z => by omega)] at is
        rw [w1] at l75
        rw [show stAt A 1 (-1) = none from if_neg (fun z => absurd z.1 (by decide))] at st
        by_cases e3 : 0 ≤ y ∧ y ≤ 5
        · have k5 : tf (0 ≤ y ∧ y ≤ 5) = 1 := tf_t e3
          rw [tf_t e3] at kw
          refine opP_2 (r := i2 (-11)) ?_ ?_
          · unfold fX11_taken
            simp -dsimp (disch := omega) only [↓B1_bp, ↓B2_bp, BP_some, BQ_some, ↓reduceIte, L_0, L_1, L_2, L_3, L_4, L_5, L_6, L_7, L_8, L_9, L_10, L_11, L_12, L_13, L_54, L_14, L_99, L_20, L_30, L_31, L_60, L_19, i2_add, i2_sub, i2_mul, i2_neg, Int.reduceAdd, Int.reduceSub, Int.reduceMul, Int.reduceNeg, Int.reduceLT, Int.reduceLE, Int.reduceEq, i2_le, i2_lt, i2_eq, uA_self, uA_ne, tf_0, not_true_eq_false, not_false_eq_true, L_15, L_40, L_100, L_101, L_200, L_999, ↓NL_bp, BNP_none, BNP_some, and_self, if_true, if_false, and_true, true_and, and_false, false_and, t_now h, d_gk (t_d1 h), q1, kw, kk, t_sr h, q3, t_now h, t_ss h, l61, d_gk (t_d1 h), st]
          · unfold fX12_taken
            simp -dsimp (disch := omega) only [↓B1_bp, ↓B2_bp, BP_some, BQ_some, ↓reduceIte, L_0, L_1, L_2, L_3, L_4, L_5, L_6, L_7, L_8, L_9, L_10, L_11, L_12, L_13, L_54, L_14, L_99, L_20, L_30, L_31, L_60, L_19, i2_add, i2_sub, i2_mul, i2_neg, Int.reduceAdd, Int.reduceSub, Int.reduceMul, Int.reduceNeg, Int.reduceLT, Int.reduceLE, Int.reduceEq, i2_le, i2_lt, i2_eq, uA_self, uA_ne, tf_0, not_true_eq_false, not_false_eq_true, J_0, J_1, J_2, J_3, J_5, J_7, J_8, J_9, J_10, J_13, J_15, J_30, J_60, J_99, J_100, J_999, J_n1, i2_j2, m_in, q2, k5, k13, gk_m hm, m_r16 hm, l75, m_r17 hm, l76, m_r18 hm, l77, is]
        · have k5 : tf (0 ≤ y ∧ y ≤ 5) = 0 := tf_f e3
          rw [tf_f e3] at kw
          rw [tf_t e3] at kk k13
          refine opP_2 (r := i2 (-11)) ?_ ?_
          · unfold fX11_taken
            simp -dsimp (disch := omega) only [↓B1_bp, ↓B2_bp, BP_some, BQ_some, ↓reduceIte, L_0, L_1, L_2, L_3, L_4, L_5, L_6, L_7, L_8, L_9, L_10, L_11, L_12, L_13, L_54, L_14, L_99, L_20, L_30, L_31, L_60, L_19, i2_add, i2_sub, i2_mul, i2_neg, Int.reduceAdd, Int.reduceSub, Int.reduceMul, Int.reduceNeg, Int.reduceLT, Int.reduceLE, Int.reduceEq, i2_le, i2_lt, i2_eq, uA_self, uA_ne, tf_0, not_true_eq_false, not_false_eq_true, L_15, L_40, L_100, L_101, L_200, L_999, ↓NL_bp, BNP_none, BNP_some, and_self, if_true, if_false, and_true, true_and, and_false, false_and, t_now h, d_gk (t_d1 h), q1, kw, kk, t_sr h, q3, t_now h, t_ss h, l61, d_gk (t_d1 h), st]
          · unfold fX12_taken
            simp -dsimp (disch := omega) only [↓B1_bp, ↓B2_bp, BP_some, BQ_some, ↓reduceIte, L_0, L_1, L_2, L_3, L_4, L_5, L_6, L_7, L_8, L_9, L_10, L_11, L_12, L_13, L_54, L_14, L_99, L_20, L_30, L_31, L_60, L_19, i2_add, i2_sub, i2_mul, i2_neg, Int.reduceAdd, Int.reduceSub, Int.reduceMul, Int.reduceNeg, Int.reduceLT, Int.reduceLE, Int.reduceEq, i2_le, i2_lt, i2_eq, uA_self, uA_ne, tf_0, not_true_eq_false, not_false_eq_true, J_0, J_1, J_2, J_3, J_5, J_7, J_8, J_9, J_10, J_13, J_15, J_30, J_60, J_99, J_100, J_999, J_n1, i2_j2, m_in, q2, k5, k13, gk_m hm, m_r16 hm, l75, m_r17 hm, l76, m_r18 hm, l77, is]
    · have n5 : tf (0 ≤ y ∧ y ≤ 5) = 0 := tf_f (fun z => e2 (Or.inl z))
      have n13 : tf (10 ≤ y ∧ y ≤ 13) = 0 := tf_f (fun z => e2 (Or.inr z))
      rw [n5] at kw
      refine opP_2 (r := i2 (-1)) ?_ ?_
      · unfold fX11_taken
        simp -dsimp (disch := omega) only [↓B1_bp, ↓B2_bp, BP_some, BQ_some, ↓reduceIte, L_0, L_1, L_2, L_3, L_4, L_5, L_6, L_7, L_8, L_9, L_10, L_11, L_12, L_13, L_54, L_14, L_99, L_20, L_30, L_31, L_60, L_19, i2_add, i2_sub, i2_mul, i2_neg, Int.reduceAdd, Int.reduceSub, Int.reduceMul, Int.reduceNeg, Int.reduceLT, Int.reduceLE, Int.reduceEq, i2_le, i2_lt, i2_eq, uA_self, uA_ne, tf_0, not_true_eq_false, not_false_eq_true, L_15, L_40, L_100, L_101, L_200, L_999, ↓NL_bp, BNP_none, BNP_some, and_self, if_true, if_false, and_true, true_and, and_false, false_and, t_now h, d_gk (t_d1 h), q1, kw, c_isWithin, n13]
      · unfold fX12_taken
        simp -dsimp (disch := omega) only [↓B1_bp, ↓B2_bp, BP_some, BQ_some, ↓reduceIte, L_0, L_1, L_2, L_3, L_4, L_5, L_6, L_7, L_8, L_9, L_10, L_11, L_12, L_13, L_54, L_14, L_99, L_20, L_30, L_31, L_60, L_19, i2_add, i2_sub, i2_mul, i2_neg, Int.reduceAdd, Int.reduceSub, Int.reduceMul, Int.reduceNeg, Int.reduceLT, Int.reduceLE, Int.reduceEq, i2_le, i2_lt, i2_eq, uA_self, uA_ne, tf_0, not_true_eq_false, not_false_eq_true, q2, J_0, J_1, J_2, J_3, J_5, J_7, J_8, J_9, J_10, J_13, J_15, J_30, J_60, J_99, J_100, J_999, J_n1, i2_j2, m_in, n5, n13]
  · rw [tf_f e] at q1 q2
    refine opP_2 (r := i2 (-1)) ?_ ?_
    · unfold fX11_taken
      simp -dsimp (disch := omega) only [↓B1_bp, ↓B2_bp, BP_some, BQ_some, ↓reduceIte, L_0, L_1, L_2, L_3, L_4, L_5, L_6, L_7, L_8, L_9, L_10, L_11, L_12, L_13, L_54, L_14, L_99, L_20, L_30, L_31, L_60, L_19, i2_add, i2_sub, i2_mul, i2_neg, Int.reduceAdd, Int.reduceSub, Int.reduceMul, Int.reduceNeg, Int.reduceLT, Int.reduceLE, Int.reduceEq, i2_le, i2_lt, i2_eq, uA_self, uA_ne, tf_0, not_true_eq_false, not_false_eq_true, L_15, L_40, L_100, L_101, L_200, L_999, ↓NL_bp, BNP_none, BNP_some, and_self, if_true, if_false, and_true, true_and, and_false, false_and, t_now h, d_gk (t_d1 h), q1]
    · unfold fX12_taken
      simp -dsimp (disch := omega) only [↓B1_bp, ↓B2_bp, BP_some, BQ_some, ↓reduceIte, L_0, L_1, L_2, L_3, L_4, L_5, L_6, L_7, L_8, L_9, L_10, L_11, L_12, L_13, L_54, L_14, L_99, L_20, L_30, L_31, L_60, L_19, i2_add, i2_sub, i2_mul, i2_neg, Int.reduceAdd, Int.reduceSub, Int.reduceMul, Int.reduceNeg, Int.reduceLT, Int.reduceLE, Int.reduceEq, i2_le, i2_lt, i2_eq, uA_self, uA_ne, tf_0, not_true_eq_false, not_false_eq_true, q2]
end TAKEN
