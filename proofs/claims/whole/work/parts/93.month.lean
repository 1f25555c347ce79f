section MONTH
variable {M : Mm} {A : Int → Int}
def moF : Nat → (Int → Int) → Int → Int
  | 0, _, s => s
  | d + 1, D, s => moF d (dyA D) (s + dyR D)
theorem c_month_L {n : Int} (n9 : n ≤ 30) : ∀ (d N : Nat) (X : Mm) (D : Int → Int) (s v : Int), LayC X → CR X 71 D → GA D → d < N → 0 ≤ v → v + d = n → ∃ X', fX11_month_L27 0 (i2 n) N (i2 s) (i2 v) X = some (i2 (moF d D s), X') ∧ SmP TrP X X' := by
  intro d
  induction d with
  | zero =>
    intro N X D s v h c g hN v0 hv
    obtain ⟨N, rfl⟩ : ∃ k, N = k + 1 := ⟨N - 1, by omega⟩
    have q : n ≤ v := by omega
    refine ⟨X, ?_, SmP.rf _ _⟩
    simp -dsimp (disch := omega) only [fX11_month_L27, ↓B1_bp, ↓B2_bp, BP_some, BQ_some, ↓reduceIte, L_0, L_1, L_2, L_3, L_4, L_5, L_6, L_7, L_8, L_9, L_10, L_11, L_12, L_13, L_54, L_14, L_99, L_20, L_30, L_31, L_60, L_19, i2_add, i2_sub, i2_mul, i2_neg, Int.reduceAdd, Int.reduceSub, Int.reduceMul, Int.reduceNeg, Int.reduceLT, Int.reduceLE, Int.reduceEq, i2_le, i2_lt, i2_eq, uA_self, uA_ne, tf_0, not_true_eq_false, not_false_eq_true, q, if_true]
    rfl
  | succ d ih =>
    intro N X D s v h c g hN v0 hv
    obtain ⟨N, rfl⟩ : ∃ k, N = k + 1 := ⟨N - 1, by omega⟩
    have q : ¬ n ≤ v := by omega
    obtain ⟨X1, p1, c1, s1⟩ := c_liveADay (t_d71 h) c g
    have s2 : SmP TrP X X1 := TrP.of s1 (by decide) (by decide)
    obtain ⟨X2, j1, j2⟩ := ih N X1 (dyA D) (s + dyR D) (v + 1) (h.same s1) c1 (dyA_ga g) (by omega) (by omega) (by omega)
    refine ⟨X2, ?_, s2.tr j2⟩
    show _ = some (i2 (moF d (dyA D) (s + dyR D)), X2)
    rw [← j1]
    clear ih j1 j2 c g
    rcases dyR_01 (A := D) with z | z
    · rw [z] at p1 ⊢
      simp -dsimp (disch := omega) only [fX11_month_L27, ↓B1_bp, ↓B2_bp, BP_some, BQ_some, ↓reduceIte, L_0, L_1, L_2, L_3, L_4, L_5, L_6, L_7, L_8, L_9, L_10, L_11, L_12, L_13, L_54, L_14, L_99, L_20, L_30, L_31, L_60, L_19, i2_add, i2_sub, i2_mul, i2_neg, Int.reduceAdd, Int.reduceSub, Int.reduceMul, Int.reduceNeg, Int.reduceLT, Int.reduceLE, Int.reduceEq, i2_le, i2_lt, i2_eq, uA_self, uA_ne, tf_0, not_true_eq_false, not_false_eq_true, q, if_false, t_tried h, d_gk (t_d71 h), p1]
    · rw [z] at p1 ⊢
      simp -dsimp (disch := omega) only [fX11_month_L27, ↓B1_bp, ↓B2_bp, BP_some, BQ_some, ↓reduceIte, L_0, L_1, L_2, L_3, L_4, L_5, L_6, L_7, L_8, L_9, L_10, L_11, L_12, L_13, L_54, L_14, L_99, L_20, L_30, L_31, L_60, L_19, i2_add, i2_sub, i2_mul, i2_neg, Int.reduceAdd, Int.reduceSub, Int.reduceMul, Int.reduceNeg, Int.reduceLT, Int.reduceLE, Int.reduceEq, i2_le, i2_lt, i2_eq, uA_self, uA_ne, tf_0, not_true_eq_false, not_false_eq_true, q, if_false, t_tried h, d_gk (t_d71 h), p1]
theorem m_month_L (h : LayM M) {Z : Int → Int} {n : Int} (n9 : n ≤ 30) : ∀ (d N : Nat) (D : Int → Int) (s v : Int), GA D → d < N → 0 ≤ v → v + d = n → ∃ D', fX12_month_L22 164 (i2 n) N (i2 s) (i2 v) ((M.row 167 Z).row 165 D) = some (i2 (moF d D s), (M.row 167 Z).row 165 (mx Z D' 158)) := by
  have hm : LayM (M.row 167 Z) := h
  intro d
  induction d with
  | zero =>
    intro N D s v g hN v0 hv
    obtain ⟨N, rfl⟩ : ∃ k, N = k + 1 := ⟨N - 1, by omega⟩
    have q : n ≤ v := by omega
    have lb := m_laysBack (X := Z) (A := D) h
    refine ⟨D, ?_⟩
    simp -dsimp (disch := omega) only [fX12_month_L22, ↓B1_bp, ↓B2_bp, BP_some, BQ_some, ↓reduceIte, L_0, L_1, L_2, L_3, L_4, L_5, L_6, L_7, L_8, L_9, L_10, L_11, L_12, L_13, L_54, L_14, L_99, L_20, L_30, L_31, L_60, L_19, i2_add, i2_sub, i2_mul, i2_neg, Int.reduceAdd, Int.reduceSub, Int.reduceMul, Int.reduceNeg, Int.reduceLT, Int.reduceLE, Int.reduceEq, i2_le, i2_lt, i2_eq, uA_self, uA_ne, tf_0, not_true_eq_false, not_false_eq_true, q, if_true, gk_row, gk_m hm, lb]
    rfl
  | succ d ih =>
    intro N D s v g hN v0 hv
    obtain ⟨N, rfl⟩ : ∃ k, N = k + 1 := ⟨N - 1, by omega⟩
    have q : ¬ n ≤ v := by omega
    have p1 := m_aDay (A := D) hm g
    obtain ⟨D', j1⟩ := ih N (dyA D) (s + dyR D) (v + 1) (dyA_ga g) (by omega) (by omega) (by omega)
    refine ⟨D', ?_⟩
    show _ = some (i2 (moF d (dyA D) (s + dyR D)), _)
    rw [← j1]
    clear ih j1 g
    rcases dyR_01 (A := D) with z | z
    · rw [z] at p1 ⊢
      simp -dsimp (disch := omega) only [fX12_month_L22, ↓B1_bp, ↓B2_bp, BP_some, BQ_some, ↓reduceIte, L_0, L_1, L_2, L_3, L_4, L_5, L_6, L_7, L_8, L_9, L_10, L_11, L_12, L_13, L_54, L_14, L_99, L_20, L_30, L_31, L_60, L_19, i2_add, i2_sub, i2_mul, i2_neg, Int.reduceAdd, Int.reduceSub, Int.reduceMul, Int.reduceNeg, Int.reduceLT, Int.reduceLE, Int.reduceEq, i2_le, i2_lt, i2_eq, uA_self, uA_ne, tf_0, not_true_eq_false, not_false_eq_true, q, if_false, gk_row, gk_m hm, p1]
    · rw [z] at p1 ⊢
      simp -dsimp (disch := omega) only [fX12_month_L22, ↓B1_bp, ↓B2_bp, BP_some, BQ_some, ↓reduceIte, L_0, L_1, L_2, L_3, L_4, L_5, L_6, L_7, L_8, L_9, L_10, L_11, L_12, L_13, L_54, L_14, L_99, L_20, L_30, L_31, L_60, L_19, i2_add, i2_sub, i2_mul, i2_neg, Int.reduceAdd, Int.reduceSub, Int.reduceMul, Int.reduceNeg, Int.reduceLT, Int.reduceLE, Int.reduceEq, i2_le, i2_lt, i2_eq, uA_self, uA_ne, tf_0, not_true_eq_false, not_false_eq_true, q, if_false, gk_row, gk_m hm, p1]
theorem op_month (h : LayC M) (hm : LayM M) (c : CR M 1 A) (g : GA A) (ha : M.g 165 = rI A) {x : Int} (x0 : -2147483648 ≤ x) (x1 : x < 2147483648) (hi : Inv M) : Op M (fun M => fX11_month M 0 (i2 x)) (fun M => fX12_month M 164 (i2 x)) := by
  by_cases e : 1 ≤ x ∧ x ≤ 30
  · have te : tf (1 ≤ x ∧ x ≤ 30) = 1 := tf_t e
    obtain ⟨X, k1, k2, k3⟩ := c_tryBecome h c g
    have cX := TrP.cr k3 g c
    have hX := h.sm k3
    obtain ⟨X2, p1, p2⟩ := c_month_L (n := x) e.2 x.toNat FL X A 0 0 hX k2 g (by show _ < 4096; omega) (by decide) (by omega)
    refine op_T (X := X2) (r := i2 (moF x.toNat A 0)) hi hm ha g ?_ (TrP.scr (k3.tr p2)) (tr165 (k3.tr p2)) (TrP.cr p2 g cX) fun Y hY => ?_
    · unfold fX11_month
      simp -dsimp (disch := omega) only [↓B1_bp, ↓B2_bp, BP_some, BQ_some, ↓reduceIte, L_0, L_1, L_2, L_3, L_4, L_5, L_6, L_7, L_8, L_9, L_10, L_11, L_12, L_13, L_54, L_14, L_99, L_20, L_30, L_31, L_60, L_19, i2_add, i2_sub, i2_mul, i2_neg, Int.reduceAdd, Int.reduceSub, Int.reduceMul, Int.reduceNeg, Int.reduceLT, Int.reduceLE, Int.reduceEq, i2_le, i2_lt, i2_eq, uA_self, uA_ne, tf_0, not_true_eq_false, not_false_eq_true, L_15, L_40, L_100, L_101, L_200, L_999, ↓NL_bp, BNP_none, BNP_some, and_self, if_true, if_false, and_true, true_and, and_false, false_and, t_now h, d_gk (t_d1 h), c_isWithin, te, t_tried h, d_gk (t_d71 h), k1, p1]
    · have l1 := m_lends (A := A) hY
      obtain ⟨D', u1⟩ := m_month_L (Z := mx A (gI Y 167) 158) hY (n := x) e.2 x.toNat FL A 0 0 g (by show _ < 4096; omega) (by decide) (by omega)
      refine ⟨mx A (gI Y 167) 158, mx (mx A (gI Y 167) 158) D' 158, ?_, e_back⟩
      have hX := hY
      unfold fX12_month
      simp -dsimp (disch := omega) only [↓B1_bp, ↓B2_bp, BP_some, BQ_some, ↓reduceIte, gk_row, rdN_row, alN_row, alN__row, gk_m hX, rdm0 hX, rdm1 hX, rdm2 hX, rdm3 hX, L_0, L_1, L_2, L_3, L_4, L_5, L_6, L_7, L_8, L_9, L_10, L_11, L_12, L_13, L_54, L_14, L_99, L_20, L_30, L_31, L_60, L_19, i2_add, i2_sub, i2_mul, i2_neg, Int.reduceAdd, Int.reduceSub, Int.reduceMul, Int.reduceNeg, Int.reduceLT, Int.reduceLE, Int.reduceEq, i2_le, i2_lt, i2_eq, J_0, J_1, J_2, J_3, J_5, J_7, J_8, J_9, J_10, J_13, J_15, J_30, J_60, J_99, J_100, J_999, J_n1, i2_j2, m_in, tf_0, not_true_eq_false, not_false_eq_true, m_al hX, L_15, L_40, L_100, L_101, L_190, L_200, L_999, uA_self, and_self, if_true, if_false, and_true, true_and, and_false, false_and, te, l1, u1]
  · have te : tf (1 ≤ x ∧ x ≤ 30) = 0 := tf_f e
    refine OpR.op hi (opR_keep (r := i2 (-1)) c g ha ?_ ?_)
    · unfold fX11_month
      simp -dsimp (disch := omega) only [↓B1_bp, ↓B2_bp, BP_some, BQ_some, ↓reduceIte, L_0, L_1, L_2, L_3, L_4, L_5, L_6, L_7, L_8, L_9, L_10, L_11, L_12, L_13, L_54, L_14, L_99, L_20, L_30, L_31, L_60, L_19, i2_add, i2_sub, i2_mul, i2_neg, Int.reduceAdd, Int.reduceSub, Int.reduceMul, Int.reduceNeg, Int.reduceLT, Int.reduceLE, Int.reduceEq, i2_le, i2_lt, i2_eq, uA_self, uA_ne, tf_0, not_true_eq_false, not_false_eq_true, L_15, L_40, L_100, L_101, L_200, L_999, ↓NL_bp, BNP_none, BNP_some, and_self, if_true, if_false, and_true, true_and, and_false, false_and, t_now h, d_gk (t_d1 h), c_isWithin, te]
    · unfold fX12_month
      simp -dsimp (disch := omega) only [↓B1_bp, ↓B2_bp, BP_some, BQ_some, ↓reduceIte, gk_row, rdN_row, alN_row, alN__row, gk_m hm, rdm0 hm, rdm1 hm, rdm2 hm, rdm3 hm, L_0, L_1, L_2, L_3, L_4, L_5, L_6, L_7, L_8, L_9, L_10, L_11, L_12, L_13, L_54, L_14, L_99, L_20, L_30, L_31, L_60, L_19, i2_add, i2_sub, i2_mul, i2_neg, Int.reduceAdd, Int.reduceSub, Int.reduceMul, Int.reduceNeg, Int.reduceLT, Int.reduceLE, Int.reduceEq, i2_le, i2_lt, i2_eq, J_0, J_1, J_2, J_3, J_5, J_7, J_8, J_9, J_10, J_13, J_15, J_30, J_60, J_99, J_100, J_999, J_n1, i2_j2, m_in, tf_0, not_true_eq_false, not_false_eq_true, m_al hm, L_15, L_40, L_100, L_101, L_190, L_200, L_999, uA_self, and_self, if_true, if_false, and_true, true_and, and_false, false_and, te]
end MONTH
