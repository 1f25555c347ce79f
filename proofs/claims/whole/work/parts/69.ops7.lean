section OPS7
variable {M : Mm} {A : Int → Int}
theorem op_turn (h : LayC M) (hm : LayM M) (c : CR M 1 A) (g : GA A) (ha : M.g 165 = rI A) {x y : Int} (x0 : -2147483648 ≤ x) (x1 : x < 2147483648) (y0 : -2147483648 ≤ y) (y1 : y < 2147483648) : ∃ r M1 A', fX11_turn M 0 (i2 x) (i2 y) = some (r, M1) ∧ Same M M1 1 36 ∧ fX12_turn M1 164 (i2 x) (i2 y) = some (r, M1.row 165 A') ∧ CR M1 1 A' ∧ GA A' := by
  have g0 := g.1
  have hM : M = M.row 165 A := row_of ha
  have q := m_isOne (A := A) hm g x0 x1
  have q2 := c_stockingAt (t_d1 h) c g x0 x1
  have q3 := c_isWithin M (a := y) (b := 0) (c := 3) y0 y1 (by decide) (by decide) (by decide) (by decide)
  by_cases e : 0 ≤ x ∧ x < A 0
  · have e1 : 0 ≤ x ∧ x ≤ A 0 - 1 := by omega
    have e2 : stAt A 1 x = some (1 + 11 + 3 * x.toNat) := if_pos e
    have hx : ((x.toNat : Nat) : Int) = x := by omega
    have gs := g.2.2.2.2.2.2.2 x e.1 e.2
    rw [e2] at q2
    rw [tf_t e1] at q
    by_cases r : 0 ≤ y ∧ y ≤ 3
    · rw [tf_t r] at q3
      have hl := d_lay (t_d1 h) (k := x.toNat) (by omega)
      have sr := c.2.2.2.2 x.toNat (by omega)
      rw [hx] at sr
      have gs' : GS (uA (stA A x) 5 y) := by
        obtain ⟨a0, a1, a2, a3, a4, a5, a6⟩ := gs
        exact ⟨a0, a1, a2, a3, a4, r, a6⟩
      have sr' : SR (uA (gI M (1 + 11 + 3 * x.toNat)) ((5 : Nat) : Int) y) (gI M (1 + 11 + 3 * x.toNat + 1)) (gI M (1 + 11 + 3 * x.toNat + 2)) (uA (stA A x) 5 y) := by
        obtain ⟨⟨r0, r1, r2, r3, r4, r5⟩, b⟩ := sr
        exact ⟨⟨r0, r1, r2, r3, r4, rfl⟩, b⟩
      obtain ⟨M1, w, c1, s1⟩ := c_putI (t_d1 h) c g (k := x.toNat) (by omega) sr' gs'
      rw [hx] at c1
      have k5 : rdI M (1 + 11 + 3 * x.toNat) 10 5 = some (i2 (stA A x 5)) := by
        rw [g_rdI hl.1, ← sr.1.2.2.2.2.2]
        rfl
      have hm1 : LayM M1 := hm.same s1
      have h1 : M1 = M1.row 165 A := row_of ((s1.2 165 (by decide)).trans ha)
      have q' := m_isOne (M := M1) (A := A) hm1 g x0 x1
      rw [tf_t e1] at q'
      refine ⟨i2 (stA A x 5), M1, putA A x (uA (stA A x) 5 y), ?_, s1.wide (by decide) (by decide), ?_, c1, g.put e.1 gs'⟩
      · unfold fX11_turn
        simp -dsimp (disch := omega) only [↓B1_bp, ↓B2_bp, BP_some, BQ_some, ↓reduceIte, L_0, L_1, L_2, L_3, L_4, L_5, L_6, L_7, L_8, L_9, L_10, L_11, L_12, L_13, L_54, L_14, L_99, L_20, L_30, L_31, L_60, L_19, i2_add, i2_sub, i2_mul, i2_neg, Int.reduceAdd, Int.reduceSub, Int.reduceMul, Int.reduceNeg, Int.reduceLT, Int.reduceLE, Int.reduceEq, i2_le, i2_lt, i2_eq, uA_self, uA_ne, tf_0, not_true_eq_false, not_false_eq_true, ↓NL_bp, BNP_none, BNP_some, t_now h, d_gk (t_d1 h), q2, q3, k5, w]
      · have e9 : uA A (54 + 13 * x + 5) y = putA A x (uA (stA A x) 5 y) := by
          have k := put_uA (A := A) (S := stA A x) (k := x) (w := 5) (v := y) (by decide) (by decide)
          rwa [put_st] at k
        have ms := m_sets (M := M1) (A := A) hm1 (k := x) (w := 5) (v := y) e.1 (by omega) (by decide) (by decide)
        rw [e9] at ms
        generalize hG : M1.row 165 (putA A x (uA (stA A x) 5 y)) = G at ms ⊢
        rw [h1]
        unfold fX12_turn
        have qq := m_in (M1.row 165 A) (a := y) (b := 0) (c := 3) (by omega) (by omega) (by decide) (by decide) (by decide) (by decide)
        rw [tf_t r] at qq
        simp -dsimp (disch := omega) only [↓B1_bp, BP_some, ↓reduceIte, gk_row, gk_m hm1, L_0, L_5, i2_eq, Int.reduceEq, q', J_0, J_3, i2_j2, qq, m_st hm1, ms]
    · rw [tf_f r] at q3
      have k : fX12_turn (M.row 165 A) 164 (i2 x) (i2 y) = some (i2 (-1), M.row 165 A) := by
        have qq := m_in (M.row 165 A) (a := y) (b := 0) (c := 3) (by omega) (by omega) (by decide) (by decide) (by decide) (by decide)
        rw [tf_f r] at qq
        unfold fX12_turn
        simp -dsimp (disch := omega) only [↓B1_bp, BP_some, ↓reduceIte, gk_row, gk_m hm, L_0, L_1, i2_neg, i2_eq, Int.reduceEq, q, J_0, J_3, i2_j2, qq]
      refine ⟨i2 (-1), M, A, ?_, Same.rf _ _ _, ?_, c, g⟩
      · unfold fX11_turn
        simp -dsimp (disch := omega) only [↓B1_bp, ↓B2_bp, BP_some, BQ_some, ↓reduceIte, L_0, L_1, L_2, L_3, L_4, L_5, L_6, L_7, L_8, L_9, L_10, L_11, L_12, L_13, L_54, L_14, L_99, L_20, L_30, L_31, L_60, L_19, i2_add, i2_sub, i2_mul, i2_neg, Int.reduceAdd, Int.reduceSub, Int.reduceMul, Int.reduceNeg, Int.reduceLT, Int.reduceLE, Int.reduceEq, i2_le, i2_lt, i2_eq, uA_self, uA_ne, tf_0, not_true_eq_false, not_false_eq_true, ↓NL_bp, BNP_none, BNP_some, t_now h, d_gk (t_d1 h), q2, q3]
      · rw [← hM] at k ⊢
        exact k
  · have e1 : ¬ (0 ≤ x ∧ x ≤ A 0 - 1) := by omega
    have e2 : stAt A 1 x = none := if_neg e
    rw [e2] at q2
    rw [tf_f e1] at q
    have k : fX12_turn (M.row 165 A) 164 (i2 x) (i2 y) = some (i2 (-1), M.row 165 A) := by
      unfold fX12_turn
      simp -dsimp (disch := omega) only [↓B1_bp, BP_some, ↓reduceIte, gk_row, gk_m hm, L_0, L_1, i2_neg, i2_eq, Int.reduceEq, q]
    refine ⟨i2 (-1), M, A, ?_, Same.rf _ _ _, ?_, c, g⟩
    · unfold fX11_turn
      simp -dsimp (disch := omega) only [↓B1_bp, ↓B2_bp, BP_some, BQ_some, ↓reduceIte, L_0, L_1, L_2, L_3, L_4, L_5, L_6, L_7, L_8, L_9, L_10, L_11, L_12, L_13, L_54, L_14, L_99, L_20, L_30, L_31, L_60, L_19, i2_add, i2_sub, i2_mul, i2_neg, Int.reduceAdd, Int.reduceSub, Int.reduceMul, Int.reduceNeg, Int.reduceLT, Int.reduceLE, Int.reduceEq, i2_le, i2_lt, i2_eq, uA_self, uA_ne, tf_0, not_true_eq_false, not_false_eq_true, ↓NL_bp, BNP_none, BNP_some, t_now h, d_gk (t_d1 h), q2]
    · rw [← hM] at k ⊢
      exact k
end OPS7
