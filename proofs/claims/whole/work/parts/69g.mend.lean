section OPN
variable {M : Mm} {A : Int → Int}
theorem op_mend (h : LayC M) (hm : LayM M) (c : CR M 1 A) (g : GA A) (ha : M.g 165 = rI A) {x : Int} (x0 : -2147483648 ≤ x) (x1 : x < 2147483648) : OpR M A (fun M => fX11_mend M 0 (i2 x)) (fun M => fX12_mend M 164 (i2 x)) := by
  have g0 := g.1
  have q2 := c_stockingAt (t_d1 h) c g x0 x1
  have q3 := c_isOnAFoot (t_d1 h) c g x0 x1
  by_cases e : 0 ≤ x ∧ x < A 0
  · have e1 : 0 ≤ x ∧ x ≤ A 0 - 1 := by omega
    have e2 : stAt A 1 x = some (1 + 11 + 3 * x.toNat) := if_pos e
    have hx : ((x.toNat : Nat) : Int) = x := by omega
    have gs := g.2.2.2.2.2.2.2 x e.1 e.2
    have hl := d_lay (t_d1 h) (k := x.toNat) (by omega)
    have sr := c.2.2.2.2 x.toNat (by omega)
    have gk1 := d_gk10 (t_d1 h) (k := x.toNat) (by omega)
    have hh := d_hasLadder (t_d1 h) c g (k := x.toNat) (by omega)
    have hc := d_mendingCosts (t_d1 h) c g (k := x.toNat) (by omega)
    rw [hx] at sr hh hc
    rw [e2] at q2
    by_cases r : A 2 = x ∨ A 3 = x
    · rw [if_pos r] at q3
      refine opR_keep (r := i2 (-4)) c g ha ?_ ?_
      · show fX11_mend M 0 (i2 x) = _
        unfold fX11_mend
        simp -dsimp (disch := omega) only [↓B1_bp, ↓B2_bp, BP_some, BQ_some, ↓reduceIte, L_0, L_1, L_2, L_3, L_4, L_5, L_6, L_7, L_8, L_9, L_10, L_11, L_12, L_13, L_54, L_14, L_99, L_20, L_30, L_31, L_60, L_19, i2_add, i2_sub, i2_mul, i2_neg, Int.reduceAdd, Int.reduceSub, Int.reduceMul, Int.reduceNeg, Int.reduceLT, Int.reduceLE, Int.reduceEq, i2_le, i2_lt, i2_eq, uA_self, uA_ne, tf_0, not_true_eq_false, not_false_eq_true, ↓NL_bp, BNP_none, BNP_some, t_now h, d_gk (t_d1 h), q2, q3]
      · show fX12_mend (M.row 165 A) 164 (i2 x) = _
        have a1 := m_isOne (A := A) hm g x0 x1
        have a2 := m_footOf (A := A) hm g x0 x1
        rw [tf_t e1] at a1
        have a3 : (if A 2 = x then (0 : Int) else if A 3 = x then 1 else -1) = 0 ∨ (if A 2 = x then (0 : Int) else if A 3 = x then 1 else -1) = 1 := by
          repeat' split
          all_goals omega
        unfold fX12_mend
        rcases a3 with a3 | a3 <;> rw [a3] at a2 <;>
        · simp -dsimp (disch := omega) only [↓B1_bp, BP_some, ↓reduceIte, gk_row, gk_m hm, L_0, L_4, i2_neg, i2_eq, i2_lt, Int.reduceEq, Int.reduceLT, a1, a2]
    · rw [if_neg r] at q3
      by_cases p : 0 ≤ stA A x 6
      · rw [tf_t p] at hh
        have w1 := c_loseLadder (C := gI M (1 + 11 + 3 * x.toNat)) (R := gI M (1 + 11 + 3 * x.toNat + 1)) (W := gI M (1 + 11 + 3 * x.toNat + 2)) hl
        rw [st_self] at w1
        have sr' : SR (uA (uA (gI M (1 + 11 + 3 * x.toNat)) 6 (-9)) 7 (-9)) (gI M (1 + 11 + 3 * x.toNat + 1)) (gI M (1 + 11 + 3 * x.toNat + 2)) (uA (uA (stA A x) 6 (-1)) 7 (-1)) := by
          obtain ⟨b0, b1, b⟩ := sr
          exact ⟨b0, ⟨rfl, rfl⟩, b⟩
        have gs' : GS (uA (uA (stA A x) 6 (-1)) 7 (-1)) := by
          obtain ⟨a0, a1, a2, a3, a4, a5, a6, a7⟩ := gs
          exact ⟨a0, a1, a2, a3, a4, a5, Or.inl ⟨rfl, rfl⟩, a7⟩
        refine opR_st (r := i2 (lwA A 5 * opS (stA A x))) hm c g ha e ?_ sr' gs' fun X hX => ?_
        · show fX11_mend M 0 (i2 x) = _
          unfold fX11_mend
          simp -dsimp (disch := omega) only [↓B1_bp, ↓B2_bp, BP_some, BQ_some, ↓reduceIte, L_0, L_1, L_2, L_3, L_4, L_5, L_6, L_7, L_8, L_9, L_10, L_11, L_12, L_13, L_54, L_14, L_99, L_20, L_30, L_31, L_60, L_19, i2_add, i2_sub, i2_mul, i2_neg, Int.reduceAdd, Int.reduceSub, Int.reduceMul, Int.reduceNeg, Int.reduceLT, Int.reduceLE, Int.reduceEq, i2_le, i2_lt, i2_eq, uA_self, uA_ne, tf_0, not_true_eq_false, not_false_eq_true, ↓NL_bp, BNP_none, BNP_some, t_now h, d_gk (t_d1 h), q2, q3, gk1, hh, d_laws (t_d1 h), hc, w1]
        · show fX12_mend (X.row 165 A) 164 (i2 x) = _
          have a1 := m_isOne (A := A) hX g x0 x1
          have a2 := m_footOf (A := A) hX g x0 x1
          have a4 := m_hasL (A := A) hX g e.1 e.2
          have a5 := m_openOf (A := A) hX g e.1 e.2
          have a6 := m_laddP (A := A) hX (a := -1) (b := -1) e.1 (show x < 8 by omega)
          rw [tf_t e1] at a1
          rw [tf_t p] at a4
          rw [if_neg (by omega), if_neg (by omega)] at a2
          unfold fX12_mend
          simp -dsimp (disch := omega) only [↓B1_bp, BP_some, ↓reduceIte, gk_row, rdN_row, rdm0 hX, gk_m hX, L_0, L_1, L_9, i2_neg, i2_mul, i2_eq, i2_lt, Int.reduceEq, Int.reduceLT, a1, a2, a4, a5, a6, m_al hX]
          rfl
      · rw [tf_f p] at hh
        refine opR_keep (r := i2 (-3)) c g ha ?_ ?_
        · show fX11_mend M 0 (i2 x) = _
          unfold fX11_mend
          simp -dsimp (disch := omega) only [↓B1_bp, ↓B2_bp, BP_some, BQ_some, ↓reduceIte, L_0, L_1, L_2, L_3, L_4, L_5, L_6, L_7, L_8, L_9, L_10, L_11, L_12, L_13, L_54, L_14, L_99, L_20, L_30, L_31, L_60, L_19, i2_add, i2_sub, i2_mul, i2_neg, Int.reduceAdd, Int.reduceSub, Int.reduceMul, Int.reduceNeg, Int.reduceLT, Int.reduceLE, Int.reduceEq, i2_le, i2_lt, i2_eq, uA_self, uA_ne, tf_0, not_true_eq_false, not_false_eq_true, ↓NL_bp, BNP_none, BNP_some, t_now h, d_gk (t_d1 h), q2, q3, gk1, hh]
        · show fX12_mend (M.row 165 A) 164 (i2 x) = _
          have a1 := m_isOne (A := A) hm g x0 x1
          have a2 := m_footOf (A := A) hm g x0 x1
          have a4 := m_hasL (A := A) hm g e.1 e.2
          rw [tf_t e1] at a1
          rw [tf_f p] at a4
          rw [if_neg (by omega), if_neg (by omega)] at a2
          unfold fX12_mend
          simp -dsimp (disch := omega) only [↓B1_bp, BP_some, ↓reduceIte, gk_row, gk_m hm, L_0, L_3, i2_neg, i2_eq, i2_lt, Int.reduceEq, Int.reduceLT, a1, a2, a4]
  · have e1 : ¬ (0 ≤ x ∧ x ≤ A 0 - 1) := by omega
    have e2 : stAt A 1 x = none := if_neg e
    rw [e2] at q2
    refine opR_keep (r := i2 (-1)) c g ha ?_ ?_
    · show fX11_mend M 0 (i2 x) = _
      unfold fX11_mend
      simp -dsimp (disch := omega) only [↓B1_bp, ↓B2_bp, BP_some, BQ_some, ↓reduceIte, L_0, L_1, L_2, L_3, L_4, L_5, L_6, L_7, L_8, L_9, L_10, L_11, L_12, L_13, L_54, L_14, L_99, L_20, L_30, L_31, L_60, L_19, i2_add, i2_sub, i2_mul, i2_neg, Int.reduceAdd, Int.reduceSub, Int.reduceMul, Int.reduceNeg, Int.reduceLT, Int.reduceLE, Int.reduceEq, i2_le, i2_lt, i2_eq, uA_self, uA_ne, tf_0, not_true_eq_false, not_false_eq_true, ↓NL_bp, BNP_none, BNP_some, t_now h, d_gk (t_d1 h), q2]
    · show fX12_mend (M.row 165 A) 164 (i2 x) = _
      have a1 := m_isOne (A := A) hm g x0 x1
      rw [tf_f e1] at a1
      unfold fX12_mend
      simp -dsimp (disch := omega) only [↓B1_bp, BP_some, ↓reduceIte, gk_row, gk_m hm, L_0, L_1, i2_neg, i2_eq, Int.reduceEq, a1]
end OPN
