section OPM
variable {M : Mm} {A : Int → Int}
theorem c_isKind (M : Mm) {x : Int} (x0 : -2147483648 ≤ x) (x1 : x < 2147483648) : fX11_isKind M (i2 x) = some (i2 (tf (0 ≤ x ∧ x ≤ 5))) := by
  unfold fX11_isKind
  simp -dsimp (disch := omega) only [↓B1_bp, ↓B2_bp, BP_some, BQ_some, ↓reduceIte, L_0, L_1, L_2, L_3, L_4, L_5, L_6, L_7, L_8, L_9, L_10, L_11, L_12, L_13, L_54, L_14, L_99, L_20, L_30, L_31, L_60, L_19, i2_add, i2_sub, i2_mul, i2_neg, Int.reduceAdd, Int.reduceSub, Int.reduceMul, Int.reduceNeg, Int.reduceLT, Int.reduceLE, Int.reduceEq, i2_le, i2_lt, i2_eq, uA_self, uA_ne, tf_0, not_true_eq_false, not_false_eq_true, c_isWithin, tf_bz]
theorem c_isA (M : Mm) {x : Int} (x0 : -2147483648 ≤ x) (x1 : x < 2147483648) : fX11_isA M (i2 x) = some (i2 (tf (0 ≤ x ∧ x ≤ 9))) := by
  unfold fX11_isA
  simp -dsimp (disch := omega) only [↓B1_bp, ↓B2_bp, BP_some, BQ_some, ↓reduceIte, L_0, L_1, L_2, L_3, L_4, L_5, L_6, L_7, L_8, L_9, L_10, L_11, L_12, L_13, L_54, L_14, L_99, L_20, L_30, L_31, L_60, L_19, i2_add, i2_sub, i2_mul, i2_neg, Int.reduceAdd, Int.reduceSub, Int.reduceMul, Int.reduceNeg, Int.reduceLT, Int.reduceLE, Int.reduceEq, i2_le, i2_lt, i2_eq, uA_self, uA_ne, tf_0, not_true_eq_false, not_false_eq_true, c_isWithin, tf_bz]
theorem m_isKind (M : Mm) {x y : Int} (x0 : -2147483648 ≤ x) (x1 : x < 2147483648) (y0 : -2147483648 ≤ y) (y1 : y < 2147483648) : fX12_isKind M (i2 x) (i2 y) = some (i2 (tf ((0 ≤ x ∧ x ≤ 5) ∧ (0 ≤ y ∧ y ≤ 9)))) := by
  have q1 := m_in M (a := x) (b := 0) (c := 5) (by omega) (by omega) (by decide) (by decide) (by decide) (by decide)
  have q2 := m_in M (a := y) (b := 0) (c := 9) (by omega) (by omega) (by decide) (by decide) (by decide) (by decide)
  unfold fX12_isKind
  by_cases a : 0 ≤ x ∧ x ≤ 5
  · rw [tf_t a] at q1
    by_cases b : 0 ≤ y ∧ y ≤ 9
    · rw [tf_t b] at q2
      rw [tf_t ⟨a, b⟩]
      simp -dsimp (disch := omega) only [↓B1_bp, BP_some, ↓reduceIte, J_0, J_5, J_9, i2_j2, L_0, L_1, i2_eq, Int.reduceEq, q1, q2]
    · rw [tf_f b] at q2
      rw [tf_f (fun w => b w.2)]
      simp -dsimp (disch := omega) only [↓B1_bp, BP_some, ↓reduceIte, J_0, J_5, J_9, i2_j2, L_0, L_1, i2_eq, Int.reduceEq, q1, q2]
  · rw [tf_f a] at q1
    rw [tf_f (fun w => a w.1)]
    simp -dsimp (disch := omega) only [↓B1_bp, BP_some, ↓reduceIte, J_0, J_5, i2_j2, L_0, i2_eq, Int.reduceEq, q1]
theorem op_mind (h : LayC M) (hm : LayM M) (c : CR M 1 A) (g : GA A) (ha : M.g 165 = rI A) {x y z : Int} (x0 : -2147483648 ≤ x) (x1 : x < 2147483648) (y0 : -2147483648 ≤ y) (y1 : y < 2147483648) (z0 : -2147483648 ≤ z) (z1 : z < 2147483648) : OpR M A (fun M => fX11_mind M 0 (i2 x) (i2 y) (i2 z)) (fun M => fX12_mind M 164 (i2 x) (i2 y) (i2 z)) := by
  have g0 := g.1
  have q2 := c_stockingAt (t_d1 h) c g x0 x1
  have q3 := c_isKind M y0 y1
  have q4 := c_isA M z0 z1
  by_cases e : 0 ≤ x ∧ x < A 0
  · have e1 : 0 ≤ x ∧ x ≤ A 0 - 1 := by omega
    have e2 : stAt A 1 x = some (1 + 11 + 3 * x.toNat) := if_pos e
    have hx : ((x.toNat : Nat) : Int) = x := by omega
    have gs := g.2.2.2.2.2.2.2 x e.1 e.2
    have hl := d_lay (t_d1 h) (k := x.toNat) (by omega)
    have sr := c.2.2.2.2 x.toNat (by omega)
    rw [hx] at sr
    rw [e2] at q2
    by_cases r : (0 ≤ y ∧ y ≤ 5) ∧ (0 ≤ z ∧ z ≤ 9)
    · rw [tf_t r.1] at q3
      rw [tf_t r.2] at q4
      have w1 : wrI M (1 + 11 + 3 * x.toNat) 10 0 (i2 y) = some (stM M (1 + 11 + 3 * x.toNat) (uA (gI M (1 + 11 + 3 * x.toNat)) 0 y) (gI M (1 + 11 + 3 * x.toNat + 1)) (gI M (1 + 11 + 3 * x.toNat + 2))) := by
        have w := st_wr0 (C := gI M (1 + 11 + 3 * x.toNat)) (R := gI M (1 + 11 + 3 * x.toNat + 1)) (W := gI M (1 + 11 + 3 * x.toNat + 2)) hl y
        rwa [st_self] at w
      have k8 : rdI M (1 + 11 + 3 * x.toNat) 10 0 = some (i2 (stA A x 0)) := by
        rw [g_rdI hl.1, ← sr.1.1]
        rfl
      have sr' : SR (uA (uA (gI M (1 + 11 + 3 * x.toNat)) 0 y) 1 z) (gI M (1 + 11 + 3 * x.toNat + 1)) (gI M (1 + 11 + 3 * x.toNat + 2)) (uA (uA (stA A x) 0 y) 1 z) := by
        obtain ⟨⟨b0, b1, b2, b3, b4, b5⟩, b⟩ := sr
        exact ⟨⟨rfl, rfl, b2, b3, b4, b5⟩, b⟩
      have gs' : GS (uA (uA (stA A x) 0 y) 1 z) := by
        obtain ⟨a0, a1, a2⟩ := gs
        exact ⟨r.1, r.2, a2⟩
      refine opR_st (r := i2 (stA A x 0)) hm c g ha e ?_ sr' gs' fun X hX => ?_
      · show fX11_mind M 0 (i2 x) (i2 y) (i2 z) = _
        unfold fX11_mind
        simp -dsimp (disch := omega) only [↓B1_bp, ↓B2_bp, BP_some, BQ_some, ↓reduceIte, L_0, L_1, L_2, L_3, L_4, L_5, L_6, L_7, L_8, L_9, L_10, L_11, L_12, L_13, L_54, L_14, L_99, L_20, L_30, L_31, L_60, L_19, i2_add, i2_sub, i2_mul, i2_neg, Int.reduceAdd, Int.reduceSub, Int.reduceMul, Int.reduceNeg, Int.reduceLT, Int.reduceLE, Int.reduceEq, i2_le, i2_lt, i2_eq, uA_self, uA_ne, tf_0, not_true_eq_false, not_false_eq_true, ↓NL_bp, BNP_none, BNP_some, t_now h, d_gk (t_d1 h), q2, q3, q4, k8, w1, st_wr1 hl]
      · show fX12_mind (X.row 165 A) 164 (i2 x) (i2 y) (i2 z) = _
        have a1 := m_isOne (A := A) hX g x0 x1
        have a2 := m_isKind (X.row 165 A) y0 y1 z0 z1
        rw [tf_t e1] at a1
        rw [tf_t r] at a2
        have a3 := m_setP (A := A) hX (k := x) (w := 0) (v := y) e.1 (by omega) (by decide) (by decide)
        have a4 := m_setsP (A := A) (S := uA (stA A x) 0 y) hX (k := x) (w := 1) (v := z) e.1 (by omega) (by decide) (by decide)
        unfold fX12_mind
        simp -dsimp (disch := omega) only [↓B1_bp, BP_some, ↓reduceIte, gk_row, gk_m hX, L_0, L_1, i2_eq, Int.reduceEq, a1, a2, m_st hX, a3, a4]
    · refine opR_keep (r := i2 (-1)) c g ha ?_ ?_
      · show fX11_mind M 0 (i2 x) (i2 y) (i2 z) = _
        unfold fX11_mind
        by_cases p : 0 ≤ y ∧ y ≤ 5
        · rw [tf_t p] at q3
          rw [tf_f (fun w => r ⟨p, w⟩)] at q4
          simp -dsimp (disch := omega) only [↓B1_bp, ↓B2_bp, BP_some, BQ_some, ↓reduceIte, L_0, L_1, L_2, L_3, L_4, L_5, L_6, L_7, L_8, L_9, L_10, L_11, L_12, L_13, L_54, L_14, L_99, L_20, L_30, L_31, L_60, L_19, i2_add, i2_sub, i2_mul, i2_neg, Int.reduceAdd, Int.reduceSub, Int.reduceMul, Int.reduceNeg, Int.reduceLT, Int.reduceLE, Int.reduceEq, i2_le, i2_lt, i2_eq, uA_self, uA_ne, tf_0, not_true_eq_false, not_false_eq_true, ↓NL_bp, BNP_none, BNP_some, t_now h, d_gk (t_d1 h), q2, q3, q4]
        · rw [tf_f p] at q3
          simp -dsimp (disch := omega) only [↓B1_bp, ↓B2_bp, BP_some, BQ_some, ↓reduceIte, L_0, L_1, L_2, L_3, L_4, L_5, L_6, L_7, L_8, L_9, L_10, L_11, L_12, L_13, L_54, L_14, L_99, L_20, L_30, L_31, L_60, L_19, i2_add, i2_sub, i2_mul, i2_neg, Int.reduceAdd, Int.reduceSub, Int.reduceMul, Int.reduceNeg, Int.reduceLT, Int.reduceLE, Int.reduceEq, i2_le, i2_lt, i2_eq, uA_self, uA_ne, tf_0, not_true_eq_false, not_false_eq_true, ↓NL_bp, BNP_none, BNP_some, t_now h, d_gk (t_d1 h), q2, q3]
      · show fX12_mind (M.row 165 A) 164 (i2 x) (i2 y) (i2 z) = _
        have a1 := m_isOne (A := A) hm g x0 x1
        have a2 := m_isKind (M.row 165 A) y0 y1 z0 z1
        rw [tf_t e1] at a1
        rw [tf_f r] at a2
        unfold fX12_mind
        simp -dsimp (disch := omega) only [↓B1_bp, BP_some, ↓reduceIte, gk_row, gk_m hm, L_0, L_1, i2_neg, i2_eq, Int.reduceEq, a1, a2]
  · have e1 : ¬ (0 ≤ x ∧ x ≤ A 0 - 1) := by omega
    have e2 : stAt A 1 x = none := if_neg e
    rw [e2] at q2
    refine opR_keep (r := i2 (-1)) c g ha ?_ ?_
    · show fX11_mind M 0 (i2 x) (i2 y) (i2 z) = _
      unfold fX11_mind
      simp -dsimp (disch := omega) only [↓B1_bp, ↓B2_bp, BP_some, BQ_some, ↓reduceIte, L_0, L_1, L_2, L_3, L_4, L_5, L_6, L_7, L_8, L_9, L_10, L_11, L_12, L_13, L_54, L_14, L_99, L_20, L_30, L_31, L_60, L_19, i2_add, i2_sub, i2_mul, i2_neg, Int.reduceAdd, Int.reduceSub, Int.reduceMul, Int.reduceNeg, Int.reduceLT, Int.reduceLE, Int.reduceEq, i2_le, i2_lt, i2_eq, uA_self, uA_ne, tf_0, not_true_eq_false, not_false_eq_true, ↓NL_bp, BNP_none, BNP_some, t_now h, d_gk (t_d1 h), q2]
    · show fX12_mind (M.row 165 A) 164 (i2 x) (i2 y) (i2 z) = _
      have a1 := m_isOne (A := A) hm g x0 x1
      rw [tf_f e1] at a1
      unfold fX12_mind
      simp -dsimp (disch := omega) only [↓B1_bp, BP_some, ↓reduceIte, gk_row, gk_m hm, L_0, L_1, i2_neg, i2_eq, Int.reduceEq, a1]
end OPM
