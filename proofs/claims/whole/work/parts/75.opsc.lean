section OPSC
variable {M : Mm} {A : Int → Int}
theorem d_ft {B : Nat} (h : LayD M B) (c : CR M B A) {x : Int} (x0 : 0 ≤ x) (x1 : x ≤ 1) : alI M (B + 3) (i2 x) = some (i2 (A (2 + x))) := by
  have q : x = 0 ∨ x = 1 := by omega
  rcases q with rfl | rfl
  · exact d_f0 h c
  · exact d_f1 h c
theorem if_cl {X : Mm} {v : Int} : (if 0 ≤ v then some (i2 v, X) else some (i2 (-9), X)) = some (i2 (cl v), X) := by
  unfold cl
  by_cases e : 0 ≤ v
  · rw [if_pos e, if_neg (by omega)]
  · rw [if_neg e, if_pos (by omega)]
theorem b_feet (g : GA A) {x : Int} (x0 : 0 ≤ x) (x1 : x ≤ 1) : -1 ≤ A (2 + x) ∧ A (2 + x) < A 0 := by
  have g2 := g.2.2.1
  have g3 := g.2.2.2.1
  have q : x = 0 ∨ x = 1 := by omega
  rcases q with rfl | rfl
  · exact g2
  · exact g3
theorem op_wear (h : LayC M) (hm : LayM M) (c : CR M 1 A) (g : GA A) (ha : M.g 165 = rI A) {x y : Int} (x0 : -2147483648 ≤ x) (x1 : x < 2147483648) (y0 : -2147483648 ≤ y) (y1 : y < 2147483648) : OpR M A (fun M => fX11_wear M 0 (i2 x) (i2 y)) (fun M => fX12_wear M 164 (i2 x) (i2 y)) := by
  have g0 := g.1
  have q1 := c_isFoot M x0 x1
  have a1 := m_isTwo (M.row 165 A) x0 x1
  by_cases e : 0 ≤ x ∧ x ≤ 1
  · have te := tf_t e
    rw [te] at q1 a1
    have bf := b_feet g e.1 e.2
    have bf2 := b_feet g (x := 1 - x) (by omega) (by omega)
    rw [show 2 + (1 - x) = 3 - x by omega] at bf2
    have ft := d_ft (t_d1 h) c e.1 e.2
    have w2 : asI M (1 + 3) (i2 x) (i2 y) = some (M.row (1 + 3) (uA (gI M (1 + 3)) x y)) := by
      have e3 := asI_row (A := gI M (1 + 3)) (p := 1 + 3) (M := M) (N := 2) (x := x) (v := y) (t_d1 h).2.2.2.1 e.1 (by omega) (by omega)
      rwa [row_gI] at e3
    by_cases n : y = -1
    · subst n
      refine opR_mk (r := i2 (cl (A (2 + x)))) hm ha ?_ ((Same.row M (1 + 3) (uA (gI M (1 + 3)) x (-1))).wide (by decide) (by decide)) (c.foot e.1 (by omega) (by decide) (by decide)) (g.foot e.1 (by omega) (by decide) (by omega) (Or.inl rfl)) fun X hX => ?_
      · unfold fX11_wear
        simp -dsimp (disch := omega) only [↓B1_bp, ↓B2_bp, BP_some, BQ_some, ↓reduceIte, L_0, L_1, L_2, L_3, L_4, L_5, L_6, L_7, L_8, L_9, L_10, L_11, L_12, L_13, L_54, L_14, L_99, L_20, L_30, L_31, L_60, L_19, i2_add, i2_sub, i2_mul, i2_neg, Int.reduceAdd, Int.reduceSub, Int.reduceMul, Int.reduceNeg, Int.reduceLT, Int.reduceLE, Int.reduceEq, i2_le, i2_lt, i2_eq, uA_self, uA_ne, tf_0, not_true_eq_false, not_false_eq_true, L_15, L_40, L_100, L_101, L_200, L_999, ↓NL_bp, BNP_none, BNP_some, and_self, if_true, if_false, and_true, true_and, and_false, false_and, t_now h, d_gk (t_d1 h), q1, d_feet (t_d1 h), ft, w2, if_cl]
      · have a1 := m_isTwo (X.row 165 A) x0 x1
        rw [te] at a1
        unfold fX12_wear
        simp -dsimp (disch := omega) only [↓B1_bp, ↓B2_bp, BP_some, BQ_some, ↓reduceIte, gk_row, rdN_row, alN_row, alN__row, gk_m hX, rdm0 hX, rdm1 hX, rdm2 hX, rdm3 hX, L_0, L_1, L_2, L_3, L_4, L_5, L_6, L_7, L_8, L_9, L_10, L_11, L_12, L_13, L_54, L_14, L_99, L_20, L_30, L_31, L_60, L_19, i2_add, i2_sub, i2_mul, i2_neg, Int.reduceAdd, Int.reduceSub, Int.reduceMul, Int.reduceNeg, Int.reduceLT, Int.reduceLE, Int.reduceEq, i2_le, i2_lt, i2_eq, J_0, J_1, J_2, J_3, J_5, J_7, J_8, J_9, J_10, J_13, J_15, J_30, J_60, J_99, J_100, J_999, J_n1, i2_j2, m_in, tf_0, not_true_eq_false, not_false_eq_true, m_al hX, L_15, L_40, L_100, L_101, L_190, L_200, L_999, uA_self, and_self, if_true, if_false, and_true, true_and, and_false, false_and, a1, asI_row (ar_s hX), m_told]
    · have q2 := c_stockingAt (t_d1 h) c g y0 y1
      have a2 := m_isOne (A := A) hm g y0 y1
      by_cases e1 : 0 ≤ y ∧ y < A 0
      · have e2 : 0 ≤ y ∧ y ≤ A 0 - 1 := by omega
        rw [show stAt A 1 y = some (1 + 11 + 3 * y.toNat) from if_pos e1] at q2
        rw [tf_t e2] at a2
        have hf := c_footOf (t_d1 h) c g y0 y1
        have ny : ¬ y < 0 := by omega
        by_cases s : A (3 - x) = y
        · have hf2 : (if A 2 = y then (0 : Int) else if A 3 = y then 1 else -9) = 1 - x := by
            have g4 := g.2.2.2.2.1
            have q : x = 0 ∨ x = 1 := by omega
            rcases q with rfl | rfl
            · have s2 : A 3 = y := s
              rw [if_neg (by omega), if_pos s2]
              rfl
            · have s2 : A 2 = y := s
              rw [if_pos s2]
              rfl
          rw [hf2] at hf
          refine opR_keep (r := i2 (-4)) c g ha ?_ ?_
          · unfold fX11_wear
            simp -dsimp (disch := omega) only [↓B1_bp, ↓B2_bp, BP_some, BQ_some, ↓reduceIte, L_0, L_1, L_2, L_3, L_4, L_5, L_6, L_7, L_8, L_9, L_10, L_11, L_12, L_13, L_54, L_14, L_99, L_20, L_30, L_31, L_60, L_19, i2_add, i2_sub, i2_mul, i2_neg, Int.reduceAdd, Int.reduceSub, Int.reduceMul, Int.reduceNeg, Int.reduceLT, Int.reduceLE, Int.reduceEq, i2_le, i2_lt, i2_eq, uA_self, uA_ne, tf_0, not_true_eq_false, not_false_eq_true, L_15, L_40, L_100, L_101, L_200, L_999, ↓NL_bp, BNP_none, BNP_some, and_self, if_true, if_false, and_true, true_and, and_false, false_and, t_now h, d_gk (t_d1 h), q1, n, q2, hf]
          · unfold fX12_wear
            simp -dsimp (disch := omega) only [↓B1_bp, ↓B2_bp, BP_some, BQ_some, ↓reduceIte, gk_row, rdN_row, alN_row, alN__row, gk_m hm, rdm0 hm, rdm1 hm, rdm2 hm, rdm3 hm, L_0, L_1, L_2, L_3, L_4, L_5, L_6, L_7, L_8, L_9, L_10, L_11, L_12, L_13, L_54, L_14, L_99, L_20, L_30, L_31, L_60, L_19, i2_add, i2_sub, i2_mul, i2_neg, Int.reduceAdd, Int.reduceSub, Int.reduceMul, Int.reduceNeg, Int.reduceLT, Int.reduceLE, Int.reduceEq, i2_le, i2_lt, i2_eq, J_0, J_1, J_2, J_3, J_5, J_7, J_8, J_9, J_10, J_13, J_15, J_30, J_60, J_99, J_100, J_999, J_n1, i2_j2, m_in, tf_0, not_true_eq_false, not_false_eq_true, m_al hm, L_15, L_40, L_100, L_101, L_190, L_200, L_999, uA_self, and_self, if_true, if_false, and_true, true_and, and_false, false_and, a1, n, a2, ny, s]
        · have hf2 : ¬ (if A 2 = y then (0 : Int) else if A 3 = y then 1 else -9) = 1 - x ∧ -9 ≤ (if A 2 = y then (0 : Int) else if A 3 = y then 1 else -9) ∧ (if A 2 = y then (0 : Int) else if A 3 = y then 1 else -9) ≤ 1 := by
            have g4 := g.2.2.2.2.1
            have q : x = 0 ∨ x = 1 := by omega
            rcases q with rfl | rfl
            · have s2 : ¬ A 3 = y := s
              repeat' split
              all_goals omega
            · have s2 : ¬ A 2 = y := s
              repeat' split
              all_goals omega
          obtain ⟨f1, f2, f3⟩ := hf2
          generalize (if A 2 = y then (0 : Int) else if A 3 = y then 1 else -9) = v at hf f1 f2 f3
          refine opR_mk (r := i2 (cl (A (2 + x)))) hm ha ?_ ((Same.row M (1 + 3) (uA (gI M (1 + 3)) x y)).wide (by decide) (by decide)) (c.foot e.1 (by omega) (by omega) (by omega)) (g.foot e.1 (by omega) (by omega) (by omega) (Or.inr s)) fun X hX => ?_
          · unfold fX11_wear
            simp -dsimp (disch := omega) only [↓B1_bp, ↓B2_bp, BP_some, BQ_some, ↓reduceIte, L_0, L_1, L_2, L_3, L_4, L_5, L_6, L_7, L_8, L_9, L_10, L_11, L_12, L_13, L_54, L_14, L_99, L_20, L_30, L_31, L_60, L_19, i2_add, i2_sub, i2_mul, i2_neg, Int.reduceAdd, Int.reduceSub, Int.reduceMul, Int.reduceNeg, Int.reduceLT, Int.reduceLE, Int.reduceEq, i2_le, i2_lt, i2_eq, uA_self, uA_ne, tf_0, not_true_eq_false, not_false_eq_true, L_15, L_40, L_100, L_101, L_200, L_999, ↓NL_bp, BNP_none, BNP_some, and_self, if_true, if_false, and_true, true_and, and_false, false_and, t_now h, d_gk (t_d1 h), q1, n, q2, hf, f1, d_feet (t_d1 h), ft, w2, if_cl]
          · have a1 := m_isTwo (X.row 165 A) x0 x1
            have a2 := m_isOne (A := A) hX g y0 y1
            rw [te] at a1
            rw [tf_t e2] at a2
            unfold fX12_wear
            simp -dsimp (disch := omega) only [↓B1_bp, ↓B2_bp, BP_some, BQ_some, ↓reduceIte, gk_row, rdN_row, alN_row, alN__row, gk_m hX, rdm0 hX, rdm1 hX, rdm2 hX, rdm3 hX, L_0, L_1, L_2, L_3, L_4, L_5, L_6, L_7, L_8, L_9, L_10, L_11, L_12, L_13, L_54, L_14, L_99, L_20, L_30, L_31, L_60, L_19, i2_add, i2_sub, i2_mul, i2_neg, Int.reduceAdd, Int.reduceSub, Int.reduceMul, Int.reduceNeg, Int.reduceLT, Int.reduceLE, Int.reduceEq, i2_le, i2_lt, i2_eq, J_0, J_1, J_2, J_3, J_5, J_7, J_8, J_9, J_10, J_13, J_15, J_30, J_60, J_99, J_100, J_999, J_n1, i2_j2, m_in, tf_0, not_true_eq_false, not_false_eq_true, m_al hX, L_15, L_40, L_100, L_101, L_190, L_200, L_999, uA_self, and_self, if_true, if_false, and_true, true_and, and_false, false_and, a1, n, a2, ny, s, asI_row (ar_s hX), m_told]
      · have e2 : ¬ (0 ≤ y ∧ y ≤ A 0 - 1) := by omega
        rw [show stAt A 1 y = none from if_neg e1] at q2
        rw [tf_f e2] at a2
        refine opR_keep (r := i2 (-1)) c g ha ?_ ?_
        · unfold fX11_wear
          simp -dsimp (disch := omega) only [↓B1_bp, ↓B2_bp, BP_some, BQ_some, ↓reduceIte, L_0, L_1, L_2, L_3, L_4, L_5, L_6, L_7, L_8, L_9, L_10, L_11, L_12, L_13, L_54, L_14, L_99, L_20, L_30, L_31, L_60, L_19, i2_add, i2_sub, i2_mul, i2_neg, Int.reduceAdd, Int.reduceSub, Int.reduceMul, Int.reduceNeg, Int.reduceLT, Int.reduceLE, Int.reduceEq, i2_le, i2_lt, i2_eq, uA_self, uA_ne, tf_0, not_true_eq_false, not_false_eq_true, L_15, L_40, L_100, L_101, L_200, L_999, ↓NL_bp, BNP_none, BNP_some, and_self, if_true, if_false, and_true, true_and, and_false, false_and, t_now h, d_gk (t_d1 h), q1, n, q2]
        · unfold fX12_wear
          simp -dsimp (disch := omega) only [↓B1_bp, ↓B2_bp, BP_some, BQ_some, ↓reduceIte, gk_row, rdN_row, alN_row, alN__row, gk_m hm, rdm0 hm, rdm1 hm, rdm2 hm, rdm3 hm, L_0, L_1, L_2, L_3, L_4, L_5, L_6, L_7, L_8, L_9, L_10, L_11, L_12, L_13, L_54, L_14, L_99, L_20, L_30, L_31, L_60, L_19, i2_add, i2_sub, i2_mul, i2_neg, Int.reduceAdd, Int.reduceSub, Int.reduceMul, Int.reduceNeg, Int.reduceLT, Int.reduceLE, Int.reduceEq, i2_le, i2_lt, i2_eq, J_0, J_1, J_2, J_3, J_5, J_7, J_8, J_9, J_10, J_13, J_15, J_30, J_60, J_99, J_100, J_999, J_n1, i2_j2, m_in, tf_0, not_true_eq_false, not_false_eq_true, m_al hm, L_15, L_40, L_100, L_101, L_190, L_200, L_999, uA_self, and_self, if_true, if_false, and_true, true_and, and_false, false_and, a1, n, a2]
  · rw [tf_f e] at q1 a1
    refine opR_keep (r := i2 (-1)) c g ha ?_ ?_
    · unfold fX11_wear
      simp -dsimp (disch := omega) only [↓B1_bp, ↓B2_bp, BP_some, BQ_some, ↓reduceIte, L_0, L_1, L_2, L_3, L_4, L_5, L_6, L_7, L_8, L_9, L_10, L_11, L_12, L_13, L_54, L_14, L_99, L_20, L_30, L_31, L_60, L_19, i2_add, i2_sub, i2_mul, i2_neg, Int.reduceAdd, Int.reduceSub, Int.reduceMul, Int.reduceNeg, Int.reduceLT, Int.reduceLE, Int.reduceEq, i2_le, i2_lt, i2_eq, uA_self, uA_ne, tf_0, not_true_eq_false, not_false_eq_true, L_15, L_40, L_100, L_101, L_200, L_999, ↓NL_bp, BNP_none, BNP_some, and_self, if_true, if_false, and_true, true_and, and_false, false_and, t_now h, d_gk (t_d1 h), q1]
    · unfold fX12_wear
      simp -dsimp (disch := omega) only [↓B1_bp, ↓B2_bp, BP_some, BQ_some, ↓reduceIte, gk_row, rdN_row, alN_row, alN__row, gk_m hm, rdm0 hm, rdm1 hm, rdm2 hm, rdm3 hm, L_0, L_1, L_2, L_3, L_4, L_5, L_6, L_7, L_8, L_9, L_10, L_11, L_12, L_13, L_54, L_14, L_99, L_20, L_30, L_31, L_60, L_19, i2_add, i2_sub, i2_mul, i2_neg, Int.reduceAdd, Int.reduceSub, Int.reduceMul, Int.reduceNeg, Int.reduceLT, Int.reduceLE, Int.reduceEq, i2_le, i2_lt, i2_eq, J_0, J_1, J_2, J_3, J_5, J_7, J_8, J_9, J_10, J_13, J_15, J_30, J_60, J_99, J_100, J_999, J_n1, i2_j2, m_in, tf_0, not_true_eq_false, not_false_eq_true, m_al hm, L_15, L_40, L_100, L_101, L_190, L_200, L_999, uA_self, and_self, if_true, if_false, and_true, true_and, and_false, false_and, a1]
theorem stA_ne {x y : Int} (h : stAt A 1 x = none) : ¬ (0 ≤ x ∧ x < A 0) := by
  unfold stAt at h
  split at h
  · cases h
  · assumption
/-- what one of the feet wears moves, on its own -/
theorem c_footLeg {B : Nat} (h : LayD M B) (c : CR M B A) (g : GA A) {mv : Int} (m0 : 0 ≤ mv) (m3 : mv ≤ 3) (x : Int) : ∃ M1, (∀ {α : Type} (f : Mm → Option α), NL (stAt A B x) (f M) (fun a => B1 (rdN M B 3 0) fun q => B1 (gk M a 10) fun _ => B1 (fX7_passLeg M a (i2 mv) (i2 1) q) f) = f M1) ∧ CR M1 B (onA A (mvS (lwA A) mv) x) ∧ Same M M1 (B + 11) (B + 35) := by
  have g0 := g.1
  unfold stAt onA
  by_cases e : 0 ≤ x ∧ x < A 0
  · have hx : ((x.toNat : Nat) : Int) = x := by omega
    have hl := d_lay h (k := x.toNat) (by omega)
    have hr := c.2.2.2.2 x.toNat (by omega)
    have gs := g.2.2.2.2.2.2.2 x e.1 e.2
    rw [hx] at hr
    obtain ⟨C', R', W', e1, r⟩ := c_passLeg (S := stA A x) (C := gI M (B + 11 + 3 * x.toNat)) (R := gI M (B + 11 + 3 * x.toNat + 1)) (W := gI M (B + 11 + 3 * x.toNat + 2)) hl hr gs g.2.2.2.2.2.1 (q := B + 1) (by omega) (by omega) (by omega) (d_law h c) m0 m3 (n := 1) (by decide) (by decide)
    rw [st_self] at e1
    have r2 : SR C' R' W' (mvS (lwA A) mv (stA A x)) := by
      have q : legS (lwA A) mv 1 (stA A x) = mvS (lwA A) mv (stA A x) := by
        unfold legS
        rw [show (if mv = 2 then 1 else (1 : Int).toNat) = 1 by split <;> rfl]
        rfl
      rwa [q] at r
    have c1 := c.put g (k := x.toNat) (by omega) (by rw [hx] at *; exact r2) (gs.mv g.2.2.2.2.2.1)
    rw [hx] at c1
    refine ⟨_, fun f => ?_, by rw [if_pos e]; exact c1, (Same.st M _ C' R' W').wide (by omega) (by omega)⟩
    have gkk : gk M (B + 11 + 3 * x.toNat) 10 = some () := if_pos hl.1
    simp -dsimp (disch := omega) only [↓NL_bp, BNP_none, BNP_some, if_pos e, ↓B1_bp, BP_some, d_laws h, gkk, e1]
  · refine ⟨M, fun f => ?_, by rw [if_neg e]; exact c, Same.rf _ _ _⟩
    rw [if_neg e]
    rfl
theorem onA_cg2 {f f' : (Int → Int) → Int → Int} {x : Int} (h : ∀ S, f S = f' S) : onA A f x = onA A f' x := by rw [show f = f' from funext h]
theorem op_move (h : LayC M) (hm : LayM M) (c : CR M 1 A) (g : GA A) (ha : M.g 165 = rI A) {x : Int} (x0 : -2147483648 ≤ x) (x1 : x < 2147483648) : OpR M A (fun M => fX11_move M 0 (i2 x)) (fun M => fX12_move M 164 (i2 x)) := by
  have g2 := g.2.2.1
  have g3 := g.2.2.2.1
  by_cases e : 0 ≤ x ∧ x ≤ 3
  · have te : tf (0 ≤ x ∧ x ≤ 3) = 1 := tf_t e
    obtain ⟨M1, k1, c1, s1⟩ := c_footLeg (t_d1 h) c g e.1 e.2 (A 2)
    have ga1 : GA (onA A (mvS (lwA A) x) (A 2)) := g.on fun S q => q.mv g.2.2.2.2.2.1
    have h1 := h.same s1
    obtain ⟨M2, k2, c2, s2⟩ := c_footLeg (t_d1 h1) c1 ga1 e.1 e.2 (A 3)
    have h2 := h1.same s2
    have ec : onA (onA A (mvS (lwA A) x) (A 2)) (mvS (lwA (onA A (mvS (lwA A) x) (A 2))) x) (A 3) = pwA A (mvS (lwA A) x) := by
      rw [show mvS (lwA (onA A (mvS (lwA A) x) (A 2))) x = mvS (lwA A) x from mvS_cg (fun j _ hj => lwA_on (by omega)) x]
      rfl
    rw [ec] at c2
    have ga2 : GA (pwA A (mvS (lwA A) x)) := g.pw fun S q => q.mv g.2.2.2.2.2.1
    have w0 := c_wornOn0 (t_d1 h) c g
    have w1 := c_wornOn1 (t_d1 h1) c1 ga1
    rw [show onA A (mvS (lwA A) x) (A 2) 3 = A 3 from onA_lo (by decide)] at w1
    have w1' : fX0_wornOn M1 1 (i2 1) = some (stAt A 1 (A 3)) := by
      rw [w1]
      unfold stAt
      rw [show onA A (mvS (lwA A) x) (A 2) 0 = A 0 from onA_lo (by decide)]
    have k2' : ∀ {α : Type} (f : Mm → Option α), NL (stAt A 1 (A 3)) (f M1) (fun a => B1 (rdN M1 1 3 0) fun q => B1 (gk M1 a 10) fun _ => B1 (fX7_passLeg M1 a (i2 x) (i2 1) q) f) = f M2 := fun f => by
      have q := k2 f
      rwa [show stAt (onA A (mvS (lwA A) x) (A 2)) 1 (A 3) = stAt A 1 (A 3) by unfold stAt; rw [show onA A (mvS (lwA A) x) (A 2) 0 = A 0 from onA_lo (by decide)]] at q
    have op := c_openTogether (t_d1 h2) c2 ga2
    refine opR_mk (r := i2 (opOn (pwA A (mvS (lwA A) x)))) hm ha ?_ ((s1.tr s2).wide (by decide) (by decide)) c2 ga2 fun X hX => ?_
    · obtain ⟨N, hN⟩ := FL3
      have u : ∀ (K : Nat) (v : Int32) (M : Mm), ¬ 2 ≤ v → rdN M 0 14 0 = some 1 → fX11_move_L13 0 (i2 x) (K + 1) v M = B1 (gk M 1 3) fun _ => B1 (fX0_wornOn M 1 v) fun y => NL y (fX11_move_L13 0 (i2 x) K (v + 1) M) (fun a => B1 (rdN M 1 3 0) fun q => B1 (gk M a 10) fun _ => B1 (fX7_passLeg M a (i2 x) (i2 1) q) fun M' => fX11_move_L13 0 (i2 x) K (v + 1) M') := fun K v M hv hr => by
        show (if 2 ≤ v then _ else _) = _
        rw [if_neg hv, hr, B1_some]
        rfl
      have u2 : ∀ (K : Nat) (M : Mm), fX11_move_L13 0 (i2 x) (K + 1) (i2 2) M = B1 (rdN M 0 14 0) fun a => B1 (gk M a 3) fun _ => B1 (fX0_openTogether M a) fun y => some (y, M) := fun K M => if_pos (by decide +kernel)
      show fX11_move M 0 (i2 x) = _
      unfold fX11_move
      simp -dsimp (disch := omega) only [↓B1_bp, ↓B2_bp, BP_some, BQ_some, ↓reduceIte, L_0, L_1, L_2, L_3, L_4, L_5, L_6, L_7, L_8, L_9, L_10, L_11, L_12, L_13, L_54, L_14, L_99, L_20, L_30, L_31, L_60, L_19, i2_add, i2_sub, i2_mul, i2_neg, Int.reduceAdd, Int.reduceSub, Int.reduceMul, Int.reduceNeg, Int.reduceLT, Int.reduceLE, Int.reduceEq, i2_le, i2_lt, i2_eq, uA_self, uA_ne, tf_0, not_true_eq_false, not_false_eq_true, c_isWithin, te]
      rw [show FL = N + 1 + 1 + 1 from hN, u _ _ _ (by decide +kernel) (t_now h), d_gk (t_d1 h), B1_some, w0, B1_some, k1 (fun M' => fX11_move_L13 0 (i2 x) (N + 1 + 1) (i2 0 + 1) M'), show i2 0 + 1 = i2 1 from by decide +kernel, u _ _ _ (by decide +kernel) (t_now h1), d_gk (t_d1 h1), B1_some, w1', B1_some, k2' (fun M' => fX11_move_L13 0 (i2 x) (N + 1) (i2 1 + 1) M'), show i2 1 + 1 = i2 2 from by decide +kernel, u2, t_now h2, B1_some, d_gk (t_d1 h2), B1_some, op, B1_some]
    · have k3 := m_allMove (A := A) hX g e.1 e.2
      have k4 := m_openOn (A := pwA A (mvS (lwA A) x)) hX ga2
      unfold fX12_move
      simp -dsimp (disch := omega) only [↓B1_bp, ↓B2_bp, BP_some, BQ_some, ↓reduceIte, gk_row, rdN_row, alN_row, alN__row, gk_m hX, rdm0 hX, rdm1 hX, rdm2 hX, rdm3 hX, L_0, L_1, L_2, L_3, L_4, L_5, L_6, L_7, L_8, L_9, L_10, L_11, L_12, L_13, L_54, L_14, L_99, L_20, L_30, L_31, L_60, L_19, i2_add, i2_sub, i2_mul, i2_neg, Int.reduceAdd, Int.reduceSub, Int.reduceMul, Int.reduceNeg, Int.reduceLT, Int.reduceLE, Int.reduceEq, i2_le, i2_lt, i2_eq, J_0, J_1, J_2, J_3, J_5, J_7, J_8, J_9, J_10, J_13, J_15, J_30, J_60, J_99, J_100, J_999, J_n1, i2_j2, m_in, tf_0, not_true_eq_false, not_false_eq_true, m_al hX, L_15, L_40, L_100, L_101, L_190, L_200, L_999, uA_self, and_self, if_true, if_false, and_true, true_and, and_false, false_and, te, k3, k4]
  · have te : tf (0 ≤ x ∧ x ≤ 3) = 0 := tf_f e
    refine opR_keep (r := i2 (-1)) c g ha ?_ ?_
    · unfold fX11_move
      simp -dsimp (disch := omega) only [↓B1_bp, ↓B2_bp, BP_some, BQ_some, ↓reduceIte, L_0, L_1, L_2, L_3, L_4, L_5, L_6, L_7, L_8, L_9, L_10, L_11, L_12, L_13, L_54, L_14, L_99, L_20, L_30, L_31, L_60, L_19, i2_add, i2_sub, i2_mul, i2_neg, Int.reduceAdd, Int.reduceSub, Int.reduceMul, Int.reduceNeg, Int.reduceLT, Int.reduceLE, Int.reduceEq, i2_le, i2_lt, i2_eq, uA_self, uA_ne, tf_0, not_true_eq_false, not_false_eq_true, L_15, L_40, L_100, L_101, L_200, L_999, ↓NL_bp, BNP_none, BNP_some, and_self, if_true, if_false, and_true, true_and, and_false, false_and, t_now h, d_gk (t_d1 h), c_isWithin, te]
    · unfold fX12_move
      simp -dsimp (disch := omega) only [↓B1_bp, ↓B2_bp, BP_some, BQ_some, ↓reduceIte, gk_row, rdN_row, alN_row, alN__row, gk_m hm, rdm0 hm, rdm1 hm, rdm2 hm, rdm3 hm, L_0, L_1, L_2, L_3, L_4, L_5, L_6, L_7, L_8, L_9, L_10, L_11, L_12, L_13, L_54, L_14, L_99, L_20, L_30, L_31, L_60, L_19, i2_add, i2_sub, i2_mul, i2_neg, Int.reduceAdd, Int.reduceSub, Int.reduceMul, Int.reduceNeg, Int.reduceLT, Int.reduceLE, Int.reduceEq, i2_le, i2_lt, i2_eq, J_0, J_1, J_2, J_3, J_5, J_7, J_8, J_9, J_10, J_13, J_15, J_30, J_60, J_99, J_100, J_999, J_n1, i2_j2, m_in, tf_0, not_true_eq_false, not_false_eq_true, m_al hm, L_15, L_40, L_100, L_101, L_190, L_200, L_999, uA_self, and_self, if_true, if_false, and_true, true_and, and_false, false_and, te]
theorem minW_cg {wt nt wt' nt' : Int → Int} : ∀ (i : Int) (d : Nat), (∀ j, i ≤ j → j < i + d → wt' j = wt j ∧ nt' j = nt j) → minW wt' nt' i d = minW wt nt i d
  | _, 0, _ => rfl
  | i, d + 1, h => by
    have q := h i (by omega) (by omega)
    show minL wt' nt' i + minW wt' nt' (i + 1) d = minL wt nt i + minW wt nt (i + 1) d
    rw [minW_cg (i + 1) d fun j a b => h j (by omega) (by omega)]
    unfold minL
    rw [q.1, q.2]
theorem op_go (h : LayC M) (hm : LayM M) (c : CR M 1 A) (g : GA A) (ha : M.g 165 = rI A) {x : Int} (x0 : -2147483648 ≤ x) (x1 : x < 2147483648) : OpR M A (fun M => fX11_go M 0 (i2 x)) (fun M => fX12_go M 164 (i2 x)) := by
  have q1 := c_wayAt (t_d1 h) x0 x1
  by_cases e : 0 ≤ x ∧ x ≤ 1
  · have hx : ((x.toNat : Nat) : Int) = x := by omega
    rw [if_pos e] at q1
    have hc := (g.2.2.2.2.2.2.1 x e.1 (by omega)).1
    have wr := d_wr (t_d1 h) c g (w := x.toNat) (by omega)
    rw [hx] at wr
    obtain ⟨M1, k1, c1, s1⟩ := c_dPass (t_d1 h) c g wr (by omega) (fr := 0) (to := A (12 + x)) (by omega) (by decide) (by decide)
    have wr1 := wr.same s1 (by omega)
    have km := c_minutes wr1
    rw [show (min (A (12 + x)) (A (12 + x)) - 0).toNat = (A (12 + x) - 0).toNat by omega] at c1
    refine opR_mk (r := i2 (minW (wtA A x) (ntA A x) 0 (A (12 + x)).toNat)) hm ha ?_ (s1.wide (by decide) (by decide)) c1 (g.pw fun S q => q.way g.2.2.2.2.2.1 _ _) fun X hX => ?_
    · unfold fX11_go
      simp -dsimp (disch := omega) only [↓B1_bp, ↓B2_bp, BP_some, BQ_some, ↓reduceIte, L_0, L_1, L_2, L_3, L_4, L_5, L_6, L_7, L_8, L_9, L_10, L_11, L_12, L_13, L_54, L_14, L_99, L_20, L_30, L_31, L_60, L_19, i2_add, i2_sub, i2_mul, i2_neg, Int.reduceAdd, Int.reduceSub, Int.reduceMul, Int.reduceNeg, Int.reduceLT, Int.reduceLE, Int.reduceEq, i2_le, i2_lt, i2_eq, uA_self, uA_ne, tf_0, not_true_eq_false, not_false_eq_true, L_15, L_40, L_100, L_101, L_200, L_999, ↓NL_bp, BNP_none, BNP_some, and_self, if_true, if_false, and_true, true_and, and_false, false_and, t_now h, d_gk (t_d1 h), q1, wr.2.1, k1, wr1.1, km]
      rfl
    · have a1 := m_isTwo (X.row 165 A) x0 x1
      rw [tf_t e] at a1
      have k2 := m_walks (A := A) hX g e.1 (show x < 2 by omega) (fr := 0) (to := A (12 + x)) (by decide) hc.1 (Int.le_refl _)
      have k3 := m_minutes (A := pwA A (wayS (lwA A) (wtA A x) (ntA A x) 0 (A (12 + x) - 0).toNat)) hX (g.pw fun S q => q.way g.2.2.2.2.2.1 _ _) e.1 (show x < 2 by omega)
      rw [show pwA A (wayS (lwA A) (wtA A x) (ntA A x) 0 (A (12 + x) - 0).toNat) (12 + x) = A (12 + x) from pw_lo (by omega)] at k3
      rw [show minW (wtA (pwA A (wayS (lwA A) (wtA A x) (ntA A x) 0 (A (12 + x) - 0).toNat)) x) (ntA (pwA A (wayS (lwA A) (wtA A x) (ntA A x) 0 (A (12 + x) - 0).toNat)) x) 0 (A (12 + x)).toNat = minW (wtA A x) (ntA A x) 0 (A (12 + x)).toNat from minW_cg _ _ fun j j0 j1 => ⟨pw_lo (by omega), pw_lo (by omega)⟩] at k3
      unfold fX12_go
      simp -dsimp (disch := omega) only [↓B1_bp, ↓B2_bp, BP_some, BQ_some, ↓reduceIte, gk_row, rdN_row, alN_row, alN__row, gk_m hX, rdm0 hX, rdm1 hX, rdm2 hX, rdm3 hX, L_0, L_1, L_2, L_3, L_4, L_5, L_6, L_7, L_8, L_9, L_10, L_11, L_12, L_13, L_54, L_14, L_99, L_20, L_30, L_31, L_60, L_19, i2_add, i2_sub, i2_mul, i2_neg, Int.reduceAdd, Int.reduceSub, Int.reduceMul, Int.reduceNeg, Int.reduceLT, Int.reduceLE, Int.reduceEq, i2_le, i2_lt, i2_eq, J_0, J_1, J_2, J_3, J_5, J_7, J_8, J_9, J_10, J_13, J_15, J_30, J_60, J_99, J_100, J_999, J_n1, i2_j2, m_in, tf_0, not_true_eq_false, not_false_eq_true, m_al hX, L_15, L_40, L_100, L_101, L_190, L_200, L_999, uA_self, and_self, if_true, if_false, and_true, true_and, and_false, false_and, a1, k2, k3]
      rfl
  · rw [if_neg e] at q1
    have a1 := m_isTwo (M.row 165 A) x0 x1
    rw [tf_f e] at a1
    refine opR_keep (r := i2 (-1)) c g ha ?_ ?_
    · unfold fX11_go
      simp -dsimp (disch := omega) only [↓B1_bp, ↓B2_bp, BP_some, BQ_some, ↓reduceIte, L_0, L_1, L_2, L_3, L_4, L_5, L_6, L_7, L_8, L_9, L_10, L_11, L_12, L_13, L_54, L_14, L_99, L_20, L_30, L_31, L_60, L_19, i2_add, i2_sub, i2_mul, i2_neg, Int.reduceAdd, Int.reduceSub, Int.reduceMul, Int.reduceNeg, Int.reduceLT, Int.reduceLE, Int.reduceEq, i2_le, i2_lt, i2_eq, uA_self, uA_ne, tf_0, not_true_eq_false, not_false_eq_true, L_15, L_40, L_100, L_101, L_200, L_999, ↓NL_bp, BNP_none, BNP_some, and_self, if_true, if_false, and_true, true_and, and_false, false_and, t_now h, d_gk (t_d1 h), q1]
    · unfold fX12_go
      simp -dsimp (disch := omega) only [↓B1_bp, ↓B2_bp, BP_some, BQ_some, ↓reduceIte, gk_row, rdN_row, alN_row, alN__row, gk_m hm, rdm0 hm, rdm1 hm, rdm2 hm, rdm3 hm, L_0, L_1, L_2, L_3, L_4, L_5, L_6, L_7, L_8, L_9, L_10, L_11, L_12, L_13, L_54, L_14, L_99, L_20, L_30, L_31, L_60, L_19, i2_add, i2_sub, i2_mul, i2_neg, Int.reduceAdd, Int.reduceSub, Int.reduceMul, Int.reduceNeg, Int.reduceLT, Int.reduceLE, Int.reduceEq, i2_le, i2_lt, i2_eq, J_0, J_1, J_2, J_3, J_5, J_7, J_8, J_9, J_10, J_13, J_15, J_30, J_60, J_99, J_100, J_999, J_n1, i2_j2, m_in, tf_0, not_true_eq_false, not_false_eq_true, m_al hm, L_15, L_40, L_100, L_101, L_190, L_200, L_999, uA_self, and_self, if_true, if_false, and_true, true_and, and_false, false_and, a1]
end OPSC
