section COSTS2
variable {M : Mm} {A : Int → Int}
theorem gcd_facts {a b : Nat} (b0 : 1 ≤ b) (hb : b ≤ 30) : (1 ≤ Nat.gcd a b ∧ Nat.gcd a b ≤ 30) ∧ nzI (i2 (Nat.gcd a b)) = some () := by
  have gp : 1 ≤ Nat.gcd a b := Nat.gcd_pos_of_pos_right a (by omega)
  have gl : Nat.gcd a b ≤ b := Nat.gcd_le_right a (by omega)
  refine ⟨⟨gp, by omega⟩, ?_⟩
  unfold nzI
  rw [if_neg]
  rw [L_0, i2_eq (by omega) (by omega) (by decide) (by decide)]
  omega
theorem op_costs (h : LayC M) (hm : LayM M) (c : CR M 1 A) (g : GA A) (ha : M.g 165 = rI A) {x y z : Int} (x0 : -2147483648 ≤ x) (x1 : x < 2147483648) (y0 : -2147483648 ≤ y) (y1 : y < 2147483648) (z0 : -2147483648 ≤ z) (z1 : z < 2147483648) : OpL (fX11_costs M 0 (i2 x) (i2 y) (i2 z)) (fX12_costs M 164 (i2 x) (i2 y) (i2 z)) := by
  have g0 := g.1
  have q2 := c_stockingAt (t_d1 h) c g x0 x1
  have w00 : fX11_isWithin M (i2 0) (i2 0) (i2 1) = some (i2 1) := rfl
  have w01 : fX11_isWithin M (i2 1) (i2 0) (i2 1) = some (i2 1) := rfl
  have a1 := m_isOne (A := A) hm g x0 x1
  have a2 := m_isTwo (M.row 165 A) y0 y1
  have a3 := m_isTwo (M.row 165 A) z0 z1
  by_cases e : 0 ≤ x ∧ x < A 0
  · have e1 : 0 ≤ x ∧ x ≤ A 0 - 1 := by omega
    have hx : ((x.toNat : Nat) : Int) = x := by omega
    rw [show stAt A 1 x = some (1 + 11 + 3 * x.toNat) from if_pos e] at q2
    rw [tf_t e1] at a1
    have gk1 := d_gk10 (t_d1 h) (k := x.toNat) (by omega)
    have hl := d_isLasting (t_d1 h) c g (k := x.toNat) (by omega)
    have hw := m_isWornOut (A := A) hm g e.1 e.2
    have hc := d_mendingCosts (t_d1 h) c g (k := x.toNat) (by omega)
    have mc := m_mending (A := A) hm g e.1 e.2
    obtain ⟨⟨-, -, -, f3⟩, ⟨f4, -, -, -⟩, -⟩ := d_fld (t_d1 h) c g (k := x.toNat) (by omega)
    rw [hx] at hl hc f3 f4
    have s3 := m_st (A := A) hm e.1 (show x < 8 by omega) (w := 3) (by decide) (by decide)
    have s4 := m_st (A := A) hm e.1 (show x < 8 by omega) (w := 4) (by decide) (by decide)
    have ld : alI M (1 + 1) (i2 6) = some (i2 (A 10)) := d_law (t_d1 h) c 6 (by decide) (by decide)
    have l10 := m_al (A := A) hm (show 0 ≤ (10 : Int) by decide) (show (10 : Int) < 158 by decide)
    have gs := g.2.2.2.2.2.2.2 x e.1 e.2
    have g3 := gs.2.2.2.1
    have g4 := gs.2.2.2.2.1
    have mb := mc_b g e.1 e.2
    have nb : 1 ≤ A 10 ∧ A 10 ≤ 999 := g.2.2.2.2.2.1.2.2.2.2.2.2.1
    by_cases e2 : 0 ≤ y ∧ y ≤ 1
    · have te2 : tf (0 ≤ y ∧ y ≤ 1) = 1 := tf_t e2
      rw [te2] at a2
      by_cases e3 : 0 ≤ z ∧ z ≤ 1
      · have te3 : tf (0 ≤ z ∧ z ≤ 1) = 1 := tf_t e3
        rw [te3] at a3
        have zz : z = 0 ∨ z = 1 := by omega
        have yy : y = 0 ∨ y = 1 := by omega
        rcases yy with rfl | rfl
        · obtain ⟨a, ha'⟩ : ∃ a : Nat, (a : Int) = A 10 := ⟨(A 10).toNat, by omega⟩
          obtain ⟨b, hb'⟩ : ∃ b : Nat, (b : Int) = stA A x 3 := ⟨(stA A x 3).toNat, by omega⟩
          rw [← ha'] at ld l10 nb
          rw [← hb'] at f3 s3 g3
          have gd := c_gcd (M := M) (a := a) (b := b) (by omega) (by omega) (by omega)
          obtain ⟨gb, gn⟩ := gcd_facts (a := a) (b := b) (by omega) (by omega)
          have pt := m_part (M := M.row 165 A) (a := a) (b := b) (p := z) (by omega) (by omega) (by omega) zz
          have d1 := c_dvd (v := a) (g := Nat.gcd a b) (by omega) gb.1 gb.2
          have d2 := c_dvd (v := b) (g := Nat.gcd a b) (by omega) gb.1 gb.2
          have j1 := i2_j2 (a := (a : Int)) (by omega) (by omega)
          have j3 := i2_j2 (a := (b : Int)) (by omega) (by omega)
          refine ⟨j2 ((if z = 0 then (a : Int) else b).tdiv (Nat.gcd a b)), ?_, ?_⟩
          · unfold fX11_costs
            rcases zz with rfl | rfl
            · simp -dsimp only [↓B1_bp, BP_some, ↓NL_bp, BNP_none, BNP_some, t_now h, d_gk (t_d1 h), q2, L_0, L_1, L_6, w00, w01, show (i2 1 = i2 0) = False by decide +kernel, show (i2 0 = i2 1) = False by decide +kernel, if_true, if_false, d_laws (t_d1 h), ld, f3, gd, gn, d1]
            · simp -dsimp only [↓B1_bp, BP_some, ↓NL_bp, BNP_none, BNP_some, t_now h, d_gk (t_d1 h), q2, L_0, L_1, L_6, w00, w01, show (i2 1 = i2 0) = False by decide +kernel, show (i2 0 = i2 1) = False by decide +kernel, show ((1 : Int) = 0) = False by decide, if_true, if_false, d_laws (t_d1 h), ld, f3, gd, gn, d2]
          · rw [row_of ha]
            unfold fX12_costs
            simp -dsimp only [↓B1_bp, BP_some, gk_row, gk_m hm, rdN_row, rdm0 hm, a1, a2, a3, L_0, L_3, L_10, show (i2 1 = i2 0) = False by decide +kernel, if_false, if_true, l10, s3, j1, j3, pt]
        · by_cases p : stA A x 4 < stA A x 3
          · rw [tf_t p] at hl
            rw [tf_f (fun z => z p)] at hw
            obtain ⟨a, ha'⟩ : ∃ a : Nat, (a : Int) = lwA A 5 * opS (stA A x) := ⟨(lwA A 5 * opS (stA A x)).toNat, by omega⟩
            obtain ⟨b, hb'⟩ : ∃ b : Nat, (b : Int) = stA A x 3 - stA A x 4 := ⟨(stA A x 3 - stA A x 4).toNat, by omega⟩
            rw [← ha'] at hc mc mb
            have gd := c_gcd (M := M) (a := a) (b := b) (by omega) (by omega) (by omega)
            obtain ⟨gb, gn⟩ := gcd_facts (a := a) (b := b) (by omega) (by omega)
            have pt := m_part (M := M.row 165 A) (a := a) (b := b) (p := z) (by omega) (by omega) (by omega) zz
            have d1 := c_dvd (v := a) (g := Nat.gcd a b) (by omega) gb.1 gb.2
            have d2 := c_dvd (v := b) (g := Nat.gcd a b) (by omega) gb.1 gb.2
            have sb : i2 (stA A x 3) - i2 (stA A x 4) = i2 (b : Int) := by rw [i2_sub, hb']
            have j3 := i2_j2 (a := (b : Int)) (by omega) (by omega)
            refine ⟨j2 ((if z = 0 then (a : Int) else b).tdiv (Nat.gcd a b)), ?_, ?_⟩
            · unfold fX11_costs
              rcases zz with rfl | rfl
              · simp -dsimp only [↓B1_bp, BP_some, ↓NL_bp, BNP_none, BNP_some, t_now h, d_gk (t_d1 h), q2, gk1, L_0, L_1, L_6, w00, w01, show (i2 1 = i2 0) = False by decide +kernel, show (i2 0 = i2 1) = False by decide +kernel, if_true, if_false, hl, d_laws (t_d1 h), hc, f3, f4, sb, gd, gn, d1]
              · simp -dsimp only [↓B1_bp, BP_some, ↓NL_bp, BNP_none, BNP_some, t_now h, d_gk (t_d1 h), q2, gk1, L_0, L_1, L_6, w00, w01, show (i2 1 = i2 0) = False by decide +kernel, show (i2 0 = i2 1) = False by decide +kernel, show ((1 : Int) = 0) = False by decide, if_true, if_false, hl, d_laws (t_d1 h), hc, f3, f4, sb, gd, gn, d2]
            · rw [row_of ha]
              unfold fX12_costs
              simp -dsimp only [↓B1_bp, BP_some, gk_row, gk_m hm, rdN_row, rdm0 hm, a1, a2, a3, L_0, L_3, L_4, show (i2 1 = i2 0) = False by decide +kernel, if_false, if_true, hw, mc, s3, s4, sb, j3, pt]
          · rw [tf_f p] at hl
            rw [tf_t p] at hw
            refine ⟨-3, ?_, ?_⟩
            · unfold fX11_costs
              simp -dsimp (disch := omega) only [↓B1_bp, ↓B2_bp, BP_some, BQ_some, ↓reduceIte, L_0, L_1, L_2, L_3, L_4, L_5, L_6, L_7, L_8, L_9, L_10, L_11, L_12, L_13, L_54, L_14, L_99, L_20, L_30, L_31, L_60, L_19, i2_add, i2_sub, i2_mul, i2_neg, Int.reduceAdd, Int.reduceSub, Int.reduceMul, Int.reduceNeg, Int.reduceLT, Int.reduceLE, Int.reduceEq, i2_le, i2_lt, i2_eq, uA_self, uA_ne, tf_0, not_true_eq_false, not_false_eq_true, L_15, L_40, L_100, L_101, L_200, L_999, ↓NL_bp, BNP_none, BNP_some, and_self, if_true, if_false, and_true, true_and, and_false, false_and, t_now h, d_gk (t_d1 h), q2, gk1, c_isWithin, te3, tf_t (show (0 : Int) ≤ 1 ∧ (1 : Int) ≤ 1 by decide), hl]
            · rw [row_of ha]
              unfold fX12_costs
              simp -dsimp (disch := omega) only [↓B1_bp, ↓B2_bp, BP_some, BQ_some, ↓reduceIte, gk_row, rdN_row, alN_row, alN__row, gk_m hm, rdm0 hm, rdm1 hm, rdm2 hm, rdm3 hm, L_0, L_1, L_2, L_3, L_4, L_5, L_6, L_7, L_8, L_9, L_10, L_11, L_12, L_13, L_54, L_14, L_99, L_20, L_30, L_31, L_60, L_19, i2_add, i2_sub, i2_mul, i2_neg, Int.reduceAdd, Int.reduceSub, Int.reduceMul, Int.reduceNeg, Int.reduceLT, Int.reduceLE, Int.reduceEq, i2_le, i2_lt, i2_eq, J_0, J_1, J_2, J_3, J_5, J_7, J_8, J_9, J_10, J_13, J_15, J_30, J_60, J_99, J_100, J_999, J_n1, i2_j2, m_in, tf_0, not_true_eq_false, not_false_eq_true, m_al hm, L_15, L_40, L_100, L_101, L_190, L_200, L_999, uA_self, and_self, if_true, if_false, and_true, true_and, and_false, false_and, a1, a2, a3, hw]
      · have te3 : tf (0 ≤ z ∧ z ≤ 1) = 0 := tf_f e3
        rw [te3] at a3
        refine ⟨-1, ?_, ?_⟩
        · unfold fX11_costs
          simp -dsimp (disch := omega) only [↓B1_bp, ↓B2_bp, BP_some, BQ_some, ↓reduceIte, L_0, L_1, L_2, L_3, L_4, L_5, L_6, L_7, L_8, L_9, L_10, L_11, L_12, L_13, L_54, L_14, L_99, L_20, L_30, L_31, L_60, L_19, i2_add, i2_sub, i2_mul, i2_neg, Int.reduceAdd, Int.reduceSub, Int.reduceMul, Int.reduceNeg, Int.reduceLT, Int.reduceLE, Int.reduceEq, i2_le, i2_lt, i2_eq, uA_self, uA_ne, tf_0, not_true_eq_false, not_false_eq_true, L_15, L_40, L_100, L_101, L_200, L_999, ↓NL_bp, BNP_none, BNP_some, and_self, if_true, if_false, and_true, true_and, and_false, false_and, t_now h, d_gk (t_d1 h), q2, c_isWithin, te2, te3]
        · rw [row_of ha]
          unfold fX12_costs
          simp -dsimp (disch := omega) only [↓B1_bp, ↓B2_bp, BP_some, BQ_some, ↓reduceIte, gk_row, rdN_row, alN_row, alN__row, gk_m hm, rdm0 hm, rdm1 hm, rdm2 hm, rdm3 hm, L_0, L_1, L_2, L_3, L_4, L_5, L_6, L_7, L_8, L_9, L_10, L_11, L_12, L_13, L_54, L_14, L_99, L_20, L_30, L_31, L_60, L_19, i2_add, i2_sub, i2_mul, i2_neg, Int.reduceAdd, Int.reduceSub, Int.reduceMul, Int.reduceNeg, Int.reduceLT, Int.reduceLE, Int.reduceEq, i2_le, i2_lt, i2_eq, J_0, J_1, J_2, J_3, J_5, J_7, J_8, J_9, J_10, J_13, J_15, J_30, J_60, J_99, J_100, J_999, J_n1, i2_j2, m_in, tf_0, not_true_eq_false, not_false_eq_true, m_al hm, L_15, L_40, L_100, L_101, L_190, L_200, L_999, uA_self, and_self, if_true, if_false, and_true, true_and, and_false, false_and, a1, a2, a3]
    · have te2 : tf (0 ≤ y ∧ y ≤ 1) = 0 := tf_f e2
      rw [te2] at a2
      refine ⟨-1, ?_, ?_⟩
      · unfold fX11_costs
        simp -dsimp (disch := omega) only [↓B1_bp, ↓B2_bp, BP_some, BQ_some, ↓reduceIte, L_0, L_1, L_2, L_3, L_4, L_5, L_6, L_7, L_8, L_9, L_10, L_11, L_12, L_13, L_54, L_14, L_99, L_20, L_30, L_31, L_60, L_19, i2_add, i2_sub, i2_mul, i2_neg, Int.reduceAdd, Int.reduceSub, Int.reduceMul, Int.reduceNeg, Int.reduceLT, Int.reduceLE, Int.reduceEq, i2_le, i2_lt, i2_eq, uA_self, uA_ne, tf_0, not_true_eq_false, not_false_eq_true, L_15, L_40, L_100, L_101, L_200, L_999, ↓NL_bp, BNP_none, BNP_some, and_self, if_true, if_false, and_true, true_and, and_false, false_and, t_now h, d_gk (t_d1 h), q2, c_isWithin, te2]
      · rw [row_of ha]
        unfold fX12_costs
        simp -dsimp (disch := omega) only [↓B1_bp, ↓B2_bp, BP_some, BQ_some, ↓reduceIte, gk_row, rdN_row, alN_row, alN__row, gk_m hm, rdm0 hm, rdm1 hm, rdm2 hm, rdm3 hm, L_0, L_1, L_2, L_3, L_4, L_5, L_6, L_7, L_8, L_9, L_10, L_11, L_12, L_13, L_54, L_14, L_99, L_20, L_30, L_31, L_60, L_19, i2_add, i2_sub, i2_mul, i2_neg, Int.reduceAdd, Int.reduceSub, Int.reduceMul, Int.reduceNeg, Int.reduceLT, Int.reduceLE, Int.reduceEq, i2_le, i2_lt, i2_eq, J_0, J_1, J_2, J_3, J_5, J_7, J_8, J_9, J_10, J_13, J_15, J_30, J_60, J_99, J_100, J_999, J_n1, i2_j2, m_in, tf_0, not_true_eq_false, not_false_eq_true, m_al hm, L_15, L_40, L_100, L_101, L_190, L_200, L_999, uA_self, and_self, if_true, if_false, and_true, true_and, and_false, false_and, a1, a2]
  · have e1 : ¬ (0 ≤ x ∧ x ≤ A 0 - 1) := by omega
    rw [show stAt A 1 x = none from if_neg e] at q2
    rw [tf_f e1] at a1
    refine ⟨-1, ?_, ?_⟩
    · unfold fX11_costs
      simp -dsimp (disch := omega) only [↓B1_bp, ↓B2_bp, BP_some, BQ_some, ↓reduceIte, L_0, L_1, L_2, L_3, L_4, L_5, L_6, L_7, L_8, L_9, L_10, L_11, L_12, L_13, L_54, L_14, L_99, L_20, L_30, L_31, L_60, L_19, i2_add, i2_sub, i2_mul, i2_neg, Int.reduceAdd, Int.reduceSub, Int.reduceMul, Int.reduceNeg, Int.reduceLT, Int.reduceLE, Int.reduceEq, i2_le, i2_lt, i2_eq, uA_self, uA_ne, tf_0, not_true_eq_false, not_false_eq_true, L_15, L_40, L_100, L_101, L_200, L_999, ↓NL_bp, BNP_none, BNP_some, and_self, if_true, if_false, and_true, true_and, and_false, false_and, t_now h, d_gk (t_d1 h), q2]
    · rw [row_of ha]
      unfold fX12_costs
      simp -dsimp (disch := omega) only [↓B1_bp, ↓B2_bp, BP_some, BQ_some, ↓reduceIte, gk_row, rdN_row, alN_row, alN__row, gk_m hm, rdm0 hm, rdm1 hm, rdm2 hm, rdm3 hm, L_0, L_1, L_2, L_3, L_4, L_5, L_6, L_7, L_8, L_9, L_10, L_11, L_12, L_13, L_54, L_14, L_99, L_20, L_30, L_31, L_60, L_19, i2_add, i2_sub, i2_mul, i2_neg, Int.reduceAdd, Int.reduceSub, Int.reduceMul, Int.reduceNeg, Int.reduceLT, Int.reduceLE, Int.reduceEq, i2_le, i2_lt, i2_eq, J_0, J_1, J_2, J_3, J_5, J_7, J_8, J_9, J_10, J_13, J_15, J_30, J_60, J_99, J_100, J_999, J_n1, i2_j2, m_in, tf_0, not_true_eq_false, not_false_eq_true, m_al hm, L_15, L_40, L_100, L_101, L_190, L_200, L_999, uA_self, and_self, if_true, if_false, and_true, true_and, and_false, false_and, a1]
end COSTS2
