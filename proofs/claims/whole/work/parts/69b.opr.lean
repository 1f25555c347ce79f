section OPR
variable {M : Mm} {A : Int → Int}
/-- one operation on both sides: one answer, the drawer now and the reference's row go on together -/
def OpR (M : Mm) (A : Int → Int) (f f' : Mm → Option (Int32 × Mm)) : Prop := ∃ r M1 A', f M = some (r, M1) ∧ Same M M1 1 36 ∧ f' M1 = some (r, M1.row 165 A') ∧ CR M1 1 A' ∧ GA A'
theorem opR_keep {f f' : Mm → Option (Int32 × Mm)} {r : Int32} (c : CR M 1 A) (g : GA A) (ha : M.g 165 = rI A) (h1 : f M = some (r, M)) (h2 : f' (M.row 165 A) = some (r, M.row 165 A)) : OpR M A f f' := by
  have hM : M = M.row 165 A := row_of ha
  refine ⟨r, M, A, h1, Same.rf _ _ _, ?_, c, g⟩
  rw [← hM] at h2 ⊢
  exact h2
theorem opR_st {f f' : Mm → Option (Int32 × Mm)} {r : Int32} {C R W S : Int → Int} {x : Int} (hm : LayM M) (c : CR M 1 A) (g : GA A) (ha : M.g 165 = rI A) (e : 0 ≤ x ∧ x < A 0) (h1 : f M = some (r, stM M (1 + 11 + 3 * x.toNat) C R W)) (h2 : SR C R W S) (h3 : GS S) (h4 : ∀ X, LayM X → f' (X.row 165 A) = some (r, X.row 165 (putA A x S))) : OpR M A f f' := by
  have g0 := g.1
  have hx : ((x.toNat : Nat) : Int) = x := by omega
  have s1 := Same.st M (1 + 11 + 3 * x.toNat) C R W
  have c1 := c.put g (k := x.toNat) (by omega) h2 h3
  rw [hx] at c1
  have h5 := h4 _ (hm.same s1)
  have hX : stM M (1 + 11 + 3 * x.toNat) C R W = (stM M (1 + 11 + 3 * x.toNat) C R W).row 165 A := row_of ((s1.2 165 (by omega)).trans ha)
  refine ⟨r, _, putA A x S, h1, s1.wide (by omega) (by omega), ?_, c1, g.put e.1 h3⟩
  rw [← hX] at h5
  exact h5
theorem m_laddP (h : LayM M) {k a b : Int} (k0 : 0 ≤ k) (k8 : k < 8) : fX12_ladder (M.row 165 A) 164 (i2 k) (i2 a) (i2 b) = some (M.row 165 (putA A k (uA (uA (stA A k) 6 a) 7 b))) := by
  have q := m_ladder (A := A) (S := stA A k) (a := a) (b := b) h k0 k8
  rwa [put_st] at q
theorem op_snag (h : LayC M) (hm : LayM M) (c : CR M 1 A) (g : GA A) (ha : M.g 165 = rI A) {x y : Int} (x0 : -2147483648 ≤ x) (x1 : x < 2147483648) (y0 : -2147483648 ≤ y) (y1 : y < 2147483648) : OpR M A (fun M => fX11_snag M 0 (i2 x) (i2 y)) (fun M => fX12_snag M 164 (i2 x) (i2 y)) := by
  have g0 := g.1
  have q2 := c_stockingAt (t_d1 h) c g x0 x1
  have q3 := c_isRung M y0 y1
  by_cases e : 0 ≤ x ∧ x < A 0
  · have e1 : 0 ≤ x ∧ x ≤ A 0 - 1 := by omega
    have e2 : stAt A 1 x = some (1 + 11 + 3 * x.toNat) := if_pos e
    have hx : ((x.toNat : Nat) : Int) = x := by omega
    have gs := g.2.2.2.2.2.2.2 x e.1 e.2
    have hl := d_lay (t_d1 h) (k := x.toNat) (by omega)
    have sr := c.2.2.2.2 x.toNat (by omega)
    have gk1 := d_gk10 (t_d1 h) (k := x.toNat) (by omega)
    rw [hx] at sr
    rw [e2] at q2
    by_cases r : 0 ≤ y ∧ y ≤ 99
    · rw [tf_t r] at q3
      obtain ⟨C', k1, k2⟩ := c_beginLadder hl sr gs r.1 r.2
      rw [st_self] at k1
      have db := dabC_b (stA A x) y
      by_cases p : ¬ 0 ≤ stA A x 6 ∧ dabC (stA A x) y < 0
      · rw [tf_t p] at k1
        rw [if_pos p] at k2
        refine opR_st (r := i2 1) hm c g ha e ?_ k2 (gs.snag r.1 r.2) fun X hX => ?_
        · show fX11_snag M 0 (i2 x) (i2 y) = _
          unfold fX11_snag
          simp -dsimp (disch := omega) only [↓B1_bp, ↓B2_bp, BP_some, BQ_some, ↓reduceIte, L_0, L_1, L_2, L_3, L_4, L_5, L_6, L_7, L_8, L_9, L_10, L_11, L_12, L_13, L_54, L_14, L_99, L_20, L_30, L_31, L_60, L_19, i2_add, i2_sub, i2_mul, i2_neg, Int.reduceAdd, Int.reduceSub, Int.reduceMul, Int.reduceNeg, Int.reduceLT, Int.reduceLE, Int.reduceEq, i2_le, i2_lt, i2_eq, uA_self, uA_ne, tf_0, not_true_eq_false, not_false_eq_true, ↓NL_bp, BNP_none, BNP_some, t_now h, d_gk (t_d1 h), q2, q3, gk1, k1]
        · show fX12_snag (X.row 165 A) 164 (i2 x) (i2 y) = _
          have a1 := m_isOne (A := A) hX g x0 x1
          have a2 := m_isRung (X.row 165 A) y0 y1
          have a3 := m_hasL (A := A) hX g e.1 e.2
          have a4 := m_dabAt (A := A) hX g e.1 e.2 y0 y1
          have a5 := m_laddP (A := A) hX (a := y) (b := y) e.1 (by omega)
          have p2 : ¬ 0 ≤ dabC (stA A x) y := by omega
          rw [tf_t e1] at a1
          rw [tf_t r] at a2
          rw [tf_f p.1] at a3
          unfold fX12_snag fX12_maySnag
          simp -dsimp (disch := omega) only [↓B1_bp, BP_some, ↓reduceIte, gk_row, gk_m hX, L_0, L_1, i2_eq, i2_le, Int.reduceEq, a1, a2, a3, a4, a5, p2, if_false]
          rfl
      · rw [tf_f p] at k1
        rw [if_neg p] at k2
        refine opR_st (r := i2 (-4)) hm c g ha e ?_ k2 gs fun X hX => ?_
        · show fX11_snag M 0 (i2 x) (i2 y) = _
          unfold fX11_snag
          simp -dsimp (disch := omega) only [↓B1_bp, ↓B2_bp, BP_some, BQ_some, ↓reduceIte, L_0, L_1, L_2, L_3, L_4, L_5, L_6, L_7, L_8, L_9, L_10, L_11, L_12, L_13, L_54, L_14, L_99, L_20, L_30, L_31, L_60, L_19, i2_add, i2_sub, i2_mul, i2_neg, Int.reduceAdd, Int.reduceSub, Int.reduceMul, Int.reduceNeg, Int.reduceLT, Int.reduceLE, Int.reduceEq, i2_le, i2_lt, i2_eq, uA_self, uA_ne, tf_0, not_true_eq_false, not_false_eq_true, ↓NL_bp, BNP_none, BNP_some, t_now h, d_gk (t_d1 h), q2, q3, gk1, k1]
        · show fX12_snag (X.row 165 A) 164 (i2 x) (i2 y) = _
          have a1 := m_isOne (A := A) hX g x0 x1
          have a2 := m_isRung (X.row 165 A) y0 y1
          have a3 := m_hasL (A := A) hX g e.1 e.2
          have a4 := m_dabAt (A := A) hX g e.1 e.2 y0 y1
          rw [tf_t e1] at a1
          rw [tf_t r] at a2
          rw [put_st]
          unfold fX12_snag fX12_maySnag
          by_cases p1 : 0 ≤ stA A x 6
          · rw [tf_t p1] at a3
            simp -dsimp (disch := omega) only [↓B1_bp, BP_some, ↓reduceIte, gk_row, gk_m hX, L_0, L_1, L_4, i2_neg, i2_eq, i2_le, Int.reduceEq, a1, a2, a3]
          · have p2 : 0 ≤ dabC (stA A x) y := by omega
            rw [tf_f p1] at a3
            simp -dsimp (disch := omega) only [↓B1_bp, BP_some, ↓reduceIte, gk_row, gk_m hX, L_0, L_1, L_4, i2_neg, i2_eq, i2_le, Int.reduceEq, a1, a2, a3, a4, p2, if_true]
    · rw [tf_f r] at q3
      refine opR_keep (r := i2 (-1)) c g ha ?_ ?_
      · show fX11_snag M 0 (i2 x) (i2 y) = _
        unfold fX11_snag
        simp -dsimp (disch := omega) only [↓B1_bp, ↓B2_bp, BP_some, BQ_some, ↓reduceIte, L_0, L_1, L_2, L_3, L_4, L_5, L_6, L_7, L_8, L_9, L_10, L_11, L_12, L_13, L_54, L_14, L_99, L_20, L_30, L_31, L_60, L_19, i2_add, i2_sub, i2_mul, i2_neg, Int.reduceAdd, Int.reduceSub, Int.reduceMul, Int.reduceNeg, Int.reduceLT, Int.reduceLE, Int.reduceEq, i2_le, i2_lt, i2_eq, uA_self, uA_ne, tf_0, not_true_eq_false, not_false_eq_true, ↓NL_bp, BNP_none, BNP_some, t_now h, d_gk (t_d1 h), q2, q3]
      · show fX12_snag (M.row 165 A) 164 (i2 x) (i2 y) = _
        have a1 := m_isOne (A := A) hm g x0 x1
        have a2 := m_isRung (M.row 165 A) y0 y1
        rw [tf_t e1] at a1
        rw [tf_f r] at a2
        unfold fX12_snag
        simp -dsimp (disch := omega) only [↓B1_bp, BP_some, ↓reduceIte, gk_row, gk_m hm, L_0, L_1, i2_neg, i2_eq, Int.reduceEq, a1, a2]
  · have e1 : ¬ (0 ≤ x ∧ x ≤ A 0 - 1) := by omega
    have e2 : stAt A 1 x = none := if_neg e
    rw [e2] at q2
    refine opR_keep (r := i2 (-1)) c g ha ?_ ?_
    · show fX11_snag M 0 (i2 x) (i2 y) = _
      unfold fX11_snag
      simp -dsimp (disch := omega) only [↓B1_bp, ↓B2_bp, BP_some, BQ_some, ↓reduceIte, L_0, L_1, L_2, L_3, L_4, L_5, L_6, L_7, L_8, L_9, L_10, L_11, L_12, L_13, L_54, L_14, L_99, L_20, L_30, L_31, L_60, L_19, i2_add, i2_sub, i2_mul, i2_neg, Int.reduceAdd, Int.reduceSub, Int.reduceMul, Int.reduceNeg, Int.reduceLT, Int.reduceLE, Int.reduceEq, i2_le, i2_lt, i2_eq, uA_self, uA_ne, tf_0, not_true_eq_false, not_false_eq_true, ↓NL_bp, BNP_none, BNP_some, t_now h, d_gk (t_d1 h), q2]
    · show fX12_snag (M.row 165 A) 164 (i2 x) (i2 y) = _
      have a1 := m_isOne (A := A) hm g x0 x1
      rw [tf_f e1] at a1
      unfold fX12_snag
      simp -dsimp (disch := omega) only [↓B1_bp, BP_some, ↓reduceIte, gk_row, gk_m hm, L_0, L_1, i2_neg, i2_eq, Int.reduceEq, a1]
end OPR
