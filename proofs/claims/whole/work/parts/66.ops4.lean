section OPS4
variable {M : Mm} {A : Int → Int}
theorem d_wet {B : Nat} (h : LayD M B) (c : CR M B A) (g : GA A) {k : Nat} (hk : (k : Int) < A 0) {x : Int} (hd : 0 ≤ dabC (stA A k) x) : rdN M (B + 11 + 3 * k) 10 10 = some (B + 11 + 3 * k + 2) ∧ alI M (B + 11 + 3 * k + 2) (i2 (dabC (stA A k) x)) = some (i2 (stA A k (11 + dabC (stA A k) x))) := by
  have hl := d_lay h (k := k) (by have := g.1; omega)
  obtain ⟨-, -, -, rA, rB⟩ := c.2.2.2.2 k hk
  refine ⟨by unfold rdN; rw [if_pos hl.1]; exact hl.2.2.1, ?_⟩
  have a0 : dabC (stA A k) x = 0 ∧ 1 ≤ stA A k 8 ∨ dabC (stA A k) x = 1 ∧ 2 ≤ stA A k 8 := by
    unfold dabC at hd ⊢
    repeat' split
    all_goals first | omega | (rename_i q1; exact Or.inl ⟨rfl, q1.1⟩) | (rename_i q1 q2; exact Or.inr ⟨rfl, q2.1⟩) | skip
    all_goals (rename_i q1 q2; rw [if_neg q1, if_neg q2] at hd; omega)
  rcases a0 with ⟨e, e2⟩ | ⟨e, e2⟩
  · rw [e, g_alI (N := 2) ⟨hl.2.2.2.2.2.1, hl.2.2.2.2.2.2⟩ (by decide) (by decide) (by decide), (rA e2).2]
    rfl
  · rw [e, g_alI (N := 2) ⟨hl.2.2.2.2.2.1, hl.2.2.2.2.2.2⟩ (by decide) (by decide) (by decide), (rB e2).2]
    rfl
theorem op_dabOf (h : LayC M) (hm : LayM M) (c : CR (M.row 165 A) 1 A) (g : GA A) {x y : Int} (x0 : -2147483648 ≤ x) (x1 : x < 2147483648) (y0 : -2147483648 ≤ y) (y1 : y < 2147483648) : ∃ r, fX11_dabOf (M.row 165 A) 0 (i2 x) (i2 y) = some r ∧ fX12_dabOf (M.row 165 A) 164 (i2 x) (i2 y) = some r := by
  have g0 := g.1
  have h' : LayC (M.row 165 A) := h
  have q := m_isOne (A := A) hm g x0 x1
  have q2 := c_stockingAt (t_d1 h') c g x0 x1
  have q3 := c_isRung (M.row 165 A) y0 y1
  have q4 := m_isRung (M.row 165 A) y0 y1
  by_cases e : 0 ≤ x ∧ x < A 0
  · have e1 : 0 ≤ x ∧ x ≤ A 0 - 1 := by omega
    have e2 : stAt A 1 x = some (1 + 11 + 3 * x.toNat) := if_pos e
    have hx : ((x.toNat : Nat) : Int) = x := by omega
    rw [e2] at q2
    rw [tf_t e1] at q
    have gk1 := d_gk10 (t_d1 h') (k := x.toNat) (by omega)
    by_cases r : 0 ≤ y ∧ y ≤ 99
    · rw [tf_t r] at q3 q4
      have k1 := m_dabAt (A := A) hm g e.1 e.2 y0 y1
      have k2 := d_dabAt (t_d1 h') c g (k := x.toNat) (by omega) y0 y1
      rw [hx] at k2
      have db := dabC_b (stA A x) y
      by_cases p : 0 ≤ dabC (stA A x) y
      · obtain ⟨w1, w2⟩ := d_wet (t_d1 h') c g (k := x.toNat) (x := y) (by omega) (by rw [hx]; exact p)
        rw [hx] at w2
        refine ⟨i2 (stA A x (11 + dabC (stA A x) y)), ?_, ?_⟩
        · unfold fX11_dabOf
          simp -dsimp (disch := omega) only [↓B1_bp, ↓B2_bp, BP_some, BQ_some, ↓reduceIte, L_0, L_1, L_2, L_3, L_4, L_5, L_6, L_7, L_8, L_9, L_10, L_11, L_12, L_13, L_54, L_14, L_99, L_20, L_30, L_31, L_60, L_19, i2_add, i2_sub, i2_mul, i2_neg, Int.reduceAdd, Int.reduceSub, Int.reduceMul, Int.reduceNeg, Int.reduceLT, Int.reduceLE, Int.reduceEq, i2_le, i2_lt, i2_eq, uA_self, uA_ne, tf_0, not_true_eq_false, not_false_eq_true, ↓NL_bp, BNP_none, BNP_some, t_now h', d_gk (t_d1 h'), q2, q3, gk1, k2, p, if_true, w1, w2]
        · unfold fX12_dabOf
          simp -dsimp (disch := omega) only [↓B1_bp, ↓B2_bp, BP_some, BQ_some, ↓reduceIte, gk_row, rdN_row, alN_row, alN__row, gk_m hm, rdm0 hm, rdm1 hm, rdm2 hm, rdm3 hm, L_0, L_1, L_2, L_3, L_4, L_5, L_6, L_7, L_8, L_9, L_10, L_11, L_12, L_13, L_54, L_14, L_99, L_20, L_30, L_31, L_60, L_19, i2_add, i2_sub, i2_mul, i2_neg, Int.reduceAdd, Int.reduceSub, Int.reduceMul, Int.reduceNeg, Int.reduceLT, Int.reduceLE, Int.reduceEq, i2_le, i2_eq, q, q4, k1, p, if_true, if_false, m_st hm]
      · refine ⟨i2 (-3), ?_, ?_⟩
        · unfold fX11_dabOf
          simp -dsimp (disch := omega) only [↓B1_bp, ↓B2_bp, BP_some, BQ_some, ↓reduceIte, L_0, L_1, L_2, L_3, L_4, L_5, L_6, L_7, L_8, L_9, L_10, L_11, L_12, L_13, L_54, L_14, L_99, L_20, L_30, L_31, L_60, L_19, i2_add, i2_sub, i2_mul, i2_neg, Int.reduceAdd, Int.reduceSub, Int.reduceMul, Int.reduceNeg, Int.reduceLT, Int.reduceLE, Int.reduceEq, i2_le, i2_lt, i2_eq, uA_self, uA_ne, tf_0, not_true_eq_false, not_false_eq_true, ↓NL_bp, BNP_none, BNP_some, t_now h', d_gk (t_d1 h'), q2, q3, gk1, k2, p, if_false]
        · unfold fX12_dabOf
          simp -dsimp (disch := omega) only [↓B1_bp, ↓B2_bp, BP_some, BQ_some, ↓reduceIte, gk_row, rdN_row, alN_row, alN__row, gk_m hm, rdm0 hm, rdm1 hm, rdm2 hm, rdm3 hm, L_0, L_1, L_2, L_3, L_4, L_5, L_6, L_7, L_8, L_9, L_10, L_11, L_12, L_13, L_54, L_14, L_99, L_20, L_30, L_31, L_60, L_19, i2_add, i2_sub, i2_mul, i2_neg, Int.reduceAdd, Int.reduceSub, Int.reduceMul, Int.reduceNeg, Int.reduceLT, Int.reduceLE, Int.reduceEq, i2_le, i2_eq, q, q4, k1, p, if_false]
    · rw [tf_f r] at q3 q4
      refine ⟨i2 (-1), ?_, ?_⟩
      · unfold fX11_dabOf
        simp -dsimp (disch := omega) only [↓B1_bp, ↓B2_bp, BP_some, BQ_some, ↓reduceIte, L_0, L_1, L_2, L_3, L_4, L_5, L_6, L_7, L_8, L_9, L_10, L_11, L_12, L_13, L_54, L_14, L_99, L_20, L_30, L_31, L_60, L_19, i2_add, i2_sub, i2_mul, i2_neg, Int.reduceAdd, Int.reduceSub, Int.reduceMul, Int.reduceNeg, Int.reduceLT, Int.reduceLE, Int.reduceEq, i2_le, i2_lt, i2_eq, uA_self, uA_ne, tf_0, not_true_eq_false, not_false_eq_true, ↓NL_bp, BNP_none, BNP_some, t_now h', d_gk (t_d1 h'), q2, q3]
      · unfold fX12_dabOf
        simp -dsimp (disch := omega) only [↓B1_bp, ↓B2_bp, BP_some, BQ_some, ↓reduceIte, gk_row, rdN_row, alN_row, alN__row, gk_m hm, rdm0 hm, rdm1 hm, rdm2 hm, rdm3 hm, L_0, L_1, L_2, L_3, L_4, L_5, L_6, L_7, L_8, L_9, L_10, L_11, L_12, L_13, L_54, L_14, L_99, L_20, L_30, L_31, L_60, L_19, i2_add, i2_sub, i2_mul, i2_neg, Int.reduceAdd, Int.reduceSub, Int.reduceMul, Int.reduceNeg, Int.reduceLT, Int.reduceLE, Int.reduceEq, i2_eq, q, q4, if_false, if_true]
  · have e1 : ¬ (0 ≤ x ∧ x ≤ A 0 - 1) := by omega
    have e2 : stAt A 1 x = none := if_neg e
    rw [e2] at q2
    rw [tf_f e1] at q
    refine ⟨i2 (-1), ?_, ?_⟩
    · unfold fX11_dabOf
      simp -dsimp (disch := omega) only [↓B1_bp, ↓B2_bp, BP_some, BQ_some, ↓reduceIte, L_0, L_1, L_2, L_3, L_4, L_5, L_6, L_7, L_8, L_9, L_10, L_11, L_12, L_13, L_54, L_14, L_99, L_20, L_30, L_31, L_60, L_19, i2_add, i2_sub, i2_mul, i2_neg, Int.reduceAdd, Int.reduceSub, Int.reduceMul, Int.reduceNeg, Int.reduceLT, Int.reduceLE, Int.reduceEq, i2_le, i2_lt, i2_eq, uA_self, uA_ne, tf_0, not_true_eq_false, not_false_eq_true, ↓NL_bp, BNP_none, BNP_some, t_now h', d_gk (t_d1 h'), q2]
    · unfold fX12_dabOf
      simp -dsimp (disch := omega) only [↓B1_bp, ↓B2_bp, BP_some, BQ_some, ↓reduceIte, gk_row, rdN_row, alN_row, alN__row, gk_m hm, rdm0 hm, rdm1 hm, rdm2 hm, rdm3 hm, L_0, L_1, L_2, L_3, L_4, L_5, L_6, L_7, L_8, L_9, L_10, L_11, L_12, L_13, L_54, L_14, L_99, L_20, L_30, L_31, L_60, L_19, i2_add, i2_sub, i2_mul, i2_neg, Int.reduceAdd, Int.reduceSub, Int.reduceMul, Int.reduceNeg, Int.reduceLT, Int.reduceLE, Int.reduceEq, q]
end OPS4
