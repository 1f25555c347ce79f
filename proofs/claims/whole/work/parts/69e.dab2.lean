section OPD2
variable {M : Mm} {A : Int → Int}
theorem m_dabsP (h : LayM M) (g : GA A) {k x : Int} (k0 : 0 ≤ k) (k1 : k < A 0) (x0 : -2147483648 ≤ x) (x1 : x < 2147483648) : fX12_dabs (M.row 165 A) 164 (i2 k) (i2 x) = some (i2 (adB x (stA A k)), M.row 165 (putA A k (adS (A 6) x (stA A k)))) := by
  have g0 := g.1
  have a1 := m_isRung (M.row 165 A) x0 x1
  have a2 := m_isOpen (A := A) h g k0 k1 x0 x1
  have a3 := m_dabAt (A := A) h g k0 k1 x0 x1
  have gs := g.2.2.2.2.2.2.2 k k0 k1
  have g8 := gs.2.2.2.2.2.2.2.1
  have db := dabC_b (stA A k) x
  have hb := adB_b gs x
  have same : adB x (stA A k) < 0 → M.row 165 (putA A k (adS (A 6) x (stA A k))) = M.row 165 A := fun q => by
    unfold adS
    rw [if_pos q, put_st]
  unfold fX12_dabs
  by_cases r : 0 ≤ x ∧ x ≤ 99
  · rw [tf_t r] at a1
    by_cases p : 0 ≤ stA A k 6 ∧ stA A k 6 ≤ x ∧ x ≤ stA A k 7
    · have e : adB x (stA A k) = -4 := by unfold adB; rw [if_neg (by omega), if_pos (Or.inl p)]
      rw [same (by omega), e]
      rw [tf_t p] at a2
      simp -dsimp (disch := omega) only [↓B1_bp, BP_some, ↓reduceIte, gk_row, gk_m h, L_0, L_4, i2_neg, i2_eq, Int.reduceEq, a1, a2]
    · rw [tf_f p] at a2
      by_cases d : dabC (stA A k) x < 0
      · by_cases e8 : stA A k 8 = 2
        · have e : adB x (stA A k) = -2 := by unfold adB; rw [if_neg (by omega), if_neg (by omega), if_pos e8]
          rw [same (by omega), e]
          simp -dsimp (disch := omega) only [↓B1_bp, BP_some, ↓reduceIte, gk_row, gk_m h, L_0, L_2, L_8, i2_neg, i2_eq, i2_lt, Int.reduceEq, a1, a2, a3, d, if_true, m_st h, e8]
        · have e : adB x (stA A k) = stA A k 8 + 1 := by unfold adB; rw [if_neg (by omega), if_neg (by omega), if_neg e8]
          have e9 : adS (A 6) x (stA A k) = uA (uA (uA (stA A k) (9 + stA A k 8) x) (11 + stA A k 8) (A 6)) 8 (stA A k 8 + 1) := by unfold adS; rw [if_neg (by omega)]
          rw [e, e9]
          have s1 := m_setP (A := A) h (k := k) (w := 9 + stA A k 8) (v := x) k0 (by omega) (by omega) (by omega)
          have s2 := m_setsP (A := A) (S := uA (stA A k) (9 + stA A k 8) x) h (k := k) (w := 11 + stA A k 8) (v := A 6) k0 (by omega) (by omega) (by omega)
          have s3 := m_setsP (A := A) (S := uA (uA (stA A k) (9 + stA A k 8) x) (11 + stA A k 8) (A 6)) h (k := k) (w := 8) (v := stA A k 8 + 1) k0 (by omega) (by decide) (by decide)
          simp -dsimp (disch := omega) only [↓B1_bp, BP_some, ↓reduceIte, gk_row, rdN_row, rdm0 h, gk_m h, L_0, L_1, L_2, L_6, L_8, L_9, L_11, i2_add, i2_eq, i2_lt, Int.reduceEq, a1, a2, a3, d, if_true, m_st h, e8, if_false, s1, m_law h, s2, s3]
      · have e : adB x (stA A k) = -4 := by unfold adB; rw [if_neg (by omega), if_pos (Or.inr (by omega))]
        rw [same (by omega), e]
        simp -dsimp (disch := omega) only [↓B1_bp, BP_some, ↓reduceIte, gk_row, gk_m h, L_0, L_4, i2_neg, i2_eq, i2_lt, Int.reduceEq, a1, a2, a3, d, if_false]
  · have e : adB x (stA A k) = -1 := by unfold adB; rw [if_pos r]
    rw [same (by omega), e]
    rw [tf_f r] at a1
    simp -dsimp (disch := omega) only [↓B1_bp, BP_some, ↓reduceIte, L_0, L_1, i2_neg, i2_eq, Int.reduceEq, a1]
theorem op_dab (h : LayC M) (hm : LayM M) (c : CR M 1 A) (g : GA A) (ha : M.g 165 = rI A) {x y : Int} (x0 : -2147483648 ≤ x) (x1 : x < 2147483648) (y0 : -2147483648 ≤ y) (y1 : y < 2147483648) : OpR M A (fun M => fX11_dab M 0 (i2 x) (i2 y)) (fun M => fX12_dab M 164 (i2 x) (i2 y)) := by
  have g0 := g.1
  have q2 := c_stockingAt (t_d1 h) c g x0 x1
  by_cases e : 0 ≤ x ∧ x < A 0
  · have e1 : 0 ≤ x ∧ x ≤ A 0 - 1 := by omega
    have e2 : stAt A 1 x = some (1 + 11 + 3 * x.toNat) := if_pos e
    have hx : ((x.toNat : Nat) : Int) = x := by omega
    have gs := g.2.2.2.2.2.2.2 x e.1 e.2
    have hl := d_lay (t_d1 h) (k := x.toNat) (by omega)
    have sr := c.2.2.2.2 x.toNat (by omega)
    have gk1 := d_gk10 (t_d1 h) (k := x.toNat) (by omega)
    have hw : alI M (1 + 1) (i2 2) = some (i2 (A 6)) := d_law (t_d1 h) c 2 (by decide) (by decide)
    have l2 : 1 ≤ A 6 ∧ A 6 ≤ 5 := g.2.2.2.2.2.1.2.2.1
    rw [hx] at sr
    rw [e2] at q2
    obtain ⟨C', R', W', k1, k2⟩ := c_addDab (w := A 6) hl sr gs y0 y1
    rw [st_self] at k1
    refine opR_st (r := i2 (adB y (stA A x))) hm c g ha e ?_ k2 (gs.ad (by omega) (by omega)) fun X hX => ?_
    · show fX11_dab M 0 (i2 x) (i2 y) = _
      unfold fX11_dab
      simp -dsimp (disch := omega) only [↓B1_bp, ↓B2_bp, BP_some, BQ_some, ↓reduceIte, L_0, L_1, L_2, L_3, L_4, L_5, L_6, L_7, L_8, L_9, L_10, L_11, L_12, L_13, L_54, L_14, L_99, L_20, L_30, L_31, L_60, L_19, i2_add, i2_sub, i2_mul, i2_neg, Int.reduceAdd, Int.reduceSub, Int.reduceMul, Int.reduceNeg, Int.reduceLT, Int.reduceLE, Int.reduceEq, i2_le, i2_lt, i2_eq, uA_self, uA_ne, tf_0, not_true_eq_false, not_false_eq_true, ↓NL_bp, BNP_none, BNP_some, t_now h, d_gk (t_d1 h), q2, d_laws (t_d1 h), hw, gk1, k1]
    · show fX12_dab (X.row 165 A) 164 (i2 x) (i2 y) = _
      have a1 := m_isOne (A := A) hX g x0 x1
      have a2 := m_dabsP (A := A) hX g e.1 e.2 y0 y1
      rw [tf_t e1] at a1
      unfold fX12_dab
      simp -dsimp (disch := omega) only [↓B1_bp, ↓B2_bp, BP_some, BQ_some, ↓reduceIte, gk_row, gk_m hX, L_0, i2_eq, Int.reduceEq, a1, a2]
  · have e1 : ¬ (0 ≤ x ∧ x ≤ A 0 - 1) := by omega
    have e2 : stAt A 1 x = none := if_neg e
    rw [e2] at q2
    refine opR_keep (r := i2 (-1)) c g ha ?_ ?_
    · show fX11_dab M 0 (i2 x) (i2 y) = _
      unfold fX11_dab
      simp -dsimp (disch := omega) only [↓B1_bp, ↓B2_bp, BP_some, BQ_some, ↓reduceIte, L_0, L_1, L_2, L_3, L_4, L_5, L_6, L_7, L_8, L_9, L_10, L_11, L_12, L_13, L_54, L_14, L_99, L_20, L_30, L_31, L_60, L_19, i2_add, i2_sub, i2_mul, i2_neg, Int.reduceAdd, Int.reduceSub, Int.reduceMul, Int.reduceNeg, Int.reduceLT, Int.reduceLE, Int.reduceEq, i2_le, i2_lt, i2_eq, uA_self, uA_ne, tf_0, not_true_eq_false, not_false_eq_true, ↓NL_bp, BNP_none, BNP_some, t_now h, d_gk (t_d1 h), q2]
    · show fX12_dab (M.row 165 A) 164 (i2 x) (i2 y) = _
      have a1 := m_isOne (A := A) hm g x0 x1
      rw [tf_f e1] at a1
      unfold fX12_dab
      simp -dsimp (disch := omega) only [↓B1_bp, BP_some, ↓reduceIte, gk_row, gk_m hm, L_0, L_1, i2_neg, i2_eq, Int.reduceEq, a1]
end OPD2
