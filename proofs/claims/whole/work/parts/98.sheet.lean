section SHEET
variable {M : Mm} {A : Int → Int}
theorem i2_ofNat (n : Nat) : Int32.ofNat n = i2 (n : Int) := by
  first | exact Int32.ofInt_natCast.symm | exact (Int32.ofInt_natCast n).symm | rfl | simp [i2]
theorem toI32 (x : Int64) : x.toInt32 = i2 x.toInt := (Int32.ofInt_int64ToInt x).symm
theorem t_sh (h : LayC M) : rdN M 0 14 8 = some 160 := by unfold rdN; rw [if_pos h.1.1]; exact h.1.2.2.2.2.2.2.2.1
theorem t_ss (h : LayC M) : rdN M 0 14 9 = some 161 := by unfold rdN; rw [if_pos h.1.1]; exact h.1.2.2.2.2.2.2.2.2.1
theorem t_sr (h : LayC M) : rdN M 0 14 10 = some 162 := by unfold rdN; rw [if_pos h.1.1]; exact h.1.2.2.2.2.2.2.2.2.2.1
theorem m_r13 (h : LayM M) : rdN M 164 15 13 = some 172 := by unfold rdN; rw [if_pos h.1.1]; exact h.1.2.2.2.2.2.2.2.2.1
theorem m_r14 (h : LayM M) : rdN M 164 15 14 = some 173 := by unfold rdN; rw [if_pos h.1.1]; exact h.1.2.2.2.2.2.2.2.2.2.1
theorem m_r15 (h : LayM M) : rdN M 164 15 15 = some 174 := by unfold rdN; rw [if_pos h.1.1]; exact h.1.2.2.2.2.2.2.2.2.2.2.1
theorem m_r16 (h : LayM M) : rdN M 164 15 16 = some 175 := by unfold rdN; rw [if_pos h.1.1]; exact h.1.2.2.2.2.2.2.2.2.2.2.2.1
theorem m_r17 (h : LayM M) : rdN M 164 15 17 = some 176 := by unfold rdN; rw [if_pos h.1.1]; exact h.1.2.2.2.2.2.2.2.2.2.2.2.2.1
theorem m_r18 (h : LayM M) : rdN M 164 15 18 = some 177 := by unfold rdN; rw [if_pos h.1.1]; exact h.1.2.2.2.2.2.2.2.2.2.2.2.2.2.1
theorem m_r19 (h : LayM M) : rdN M 164 15 19 = some 178 := by unfold rdN; rw [if_pos h.1.1]; exact h.1.2.2.2.2.2.2.2.2.2.2.2.2.2.2
theorem ar_so (h : LayM M) : Ar M 172 4 := h.2.2.2.2.2.1
theorem ar_si (h : LayM M) : Ar M 173 4 := h.2.2.2.2.2.2.1
theorem ar_it (h : LayM M) : M.k 174 = 22 ∧ M.len 174 = 160 := h.2.2.2.2.2.2.2.1
theorem ar_75 (h : LayM M) : Ar M 175 4 := h.2.2.2.2.2.2.2.2.1 175 (by decide) (by decide)
theorem ar_76 (h : LayM M) : Ar M 176 4 := h.2.2.2.2.2.2.2.2.1 176 (by decide) (by decide)
theorem ar_77 (h : LayM M) : Ar M 177 4 := h.2.2.2.2.2.2.2.2.1 177 (by decide) (by decide)
theorem ar_78 (h : LayM M) : Ar M 178 30 := h.2.2.2.2.2.2.2.2.2
theorem ar_61 (h : LayC M) : Ar M 161 4 := h.2.2.2.2.2.2.2.2.2.2.2.2.1
theorem q160 (h : LayC M) {x : Int} (x0 : 0 ≤ x) (x3 : x ≤ 3) : alQ M 160 25 (i2 x) = some (M.r 160 x.toNat) := by
  obtain ⟨-, -, -, -, -, -, -, -, -, -, -, ⟨a, b⟩, -⟩ := h
  unfold alQ
  rw [if_pos, i2_nat (by omega) (by omega)]
  refine ⟨a, ?_⟩
  rw [b, i2_inB (by omega) (by omega)]
  simp [x0]
  omega
theorem q162 (h : LayC M) {x : Int} (x0 : 0 ≤ x) (x3 : x ≤ 3) : alQ M 162 25 (i2 x) = some (M.r 162 x.toNat) := by
  obtain ⟨-, -, -, -, -, -, -, -, -, -, -, -, -, ⟨a, b⟩, -⟩ := h
  unfold alQ
  rw [if_pos, i2_nat (by omega) (by omega)]
  refine ⟨a, ?_⟩
  rw [b, i2_inB (by omega) (by omega)]
  simp [x0]
  omega
theorem w25 {p : Nat} (h : M.k p = 25 ∧ M.len p = 4) {x : Int} (x0 : 0 ≤ x) (x3 : x ≤ 3) {v : Option Nat} (hv : ∀ o, v = some o → M.k o = 9) : asR M p 25 (i2 x) 9 v = some (M.sr p x.toNat v) := by
  obtain ⟨a, b⟩ := h
  unfold asR
  rw [if_pos, i2_nat (by omega) (by omega)]
  refine ⟨a, ?_, hv⟩
  rw [b, i2_inB (by omega) (by omega)]
  simp [x0]
  omega
theorem l_al {p : Nat} {x : Int} (h : M.k p = 22) (x0 : 0 ≤ x) (x9 : x < M.len p) (xb : x < 2147483648) : alL M p (i2 x) = some (M.l p x.toNat) := by
  unfold alL
  rw [if_pos, i2_nat (by omega) xb]
  refine ⟨h, ?_⟩
  rw [i2_inB (by omega) xb]
  simp [x0, x9]
theorem l_as {p : Nat} {x : Int} {v : Int64} (h : M.k p = 22) (x0 : 0 ≤ x) (x9 : x < M.len p) (xb : x < 2147483648) : asL M p (i2 x) v = some (M.sl p x.toNat v) := by
  unfold asL
  rw [if_pos, i2_nat (by omega) xb]
  refine ⟨h, ?_⟩
  rw [i2_inB (by omega) xb]
  simp [x0, x9]
theorem c_isSheet (M : Mm) {x : Int} (x0 : -2147483648 ≤ x) (x1 : x < 2147483648) : fX11_isSheet M (i2 x) = some (i2 (tf (0 ≤ x ∧ x ≤ 3))) := by
  unfold fX11_isSheet
  simp -dsimp (disch := omega) only [↓B1_bp, ↓B2_bp, BP_some, BQ_some, ↓reduceIte, L_0, L_1, L_2, L_3, L_4, L_5, L_6, L_7, L_8, L_9, L_10, L_11, L_12, L_13, L_54, L_14, L_99, L_20, L_30, L_31, L_60, L_19, i2_add, i2_sub, i2_mul, i2_neg, Int.reduceAdd, Int.reduceSub, Int.reduceMul, Int.reduceNeg, Int.reduceLT, Int.reduceLE, Int.reduceEq, i2_le, i2_lt, i2_eq, uA_self, uA_ne, tf_0, not_true_eq_false, not_false_eq_true, c_isWithin, tf_bz]
theorem c_isShelf (M : Mm) {x : Int} (x0 : -2147483648 ≤ x) (x1 : x < 2147483648) : fX11_isShelf M (i2 x) = some (i2 (tf (0 ≤ x ∧ x ≤ 3))) := by
  unfold fX11_isShelf
  simp -dsimp (disch := omega) only [↓B1_bp, ↓B2_bp, BP_some, BQ_some, ↓reduceIte, L_0, L_1, L_2, L_3, L_4, L_5, L_6, L_7, L_8, L_9, L_10, L_11, L_12, L_13, L_54, L_14, L_99, L_20, L_30, L_31, L_60, L_19, i2_add, i2_sub, i2_mul, i2_neg, Int.reduceAdd, Int.reduceSub, Int.reduceMul, Int.reduceNeg, Int.reduceLT, Int.reduceLE, Int.reduceEq, i2_le, i2_lt, i2_eq, uA_self, uA_ne, tf_0, not_true_eq_false, not_false_eq_true, c_isWithin, tf_bz]
theorem m_isFour (M : Mm) {x : Int} (x0 : -2147483648 ≤ x) (x1 : x < 2147483648) : fX12_isFour M (i2 x) = some (i2 (tf (0 ≤ x ∧ x ≤ 3))) := by
  unfold fX12_isFour
  simp -dsimp (disch := omega) only [↓B1_bp, BP_some, J_0, J_1, J_2, J_3, J_5, J_7, J_8, J_9, J_10, J_13, J_15, J_30, J_60, J_99, J_100, J_999, J_n1, i2_j2, m_in, tf_bz]
theorem m_lacks (h : LayM M) {x y : Int} (x0 : 0 ≤ x) (x3 : x ≤ 3) (y0 : -2147483648 ≤ y) (y1 : y < 2147483648) : fX12_lacks M 164 (i2 x) (i2 y) = some (i2 (if 0 ≤ gI M 172 x then (if y < 0 then 0 else if y = gI M 172 x then 0 else -13) else -11)) := by
  have a := g_alI (ar_so h) (x := x) x0 (by omega) (by omega)
  have b := gI_b M 172 x
  unfold fX12_lacks
  by_cases e : 0 ≤ gI M 172 x
  · rw [if_pos e]
    by_cases e2 : y < 0
    · rw [if_pos e2]
      simp -dsimp (disch := omega) only [↓B1_bp, ↓B2_bp, BP_some, BQ_some, ↓reduceIte, L_0, L_1, L_2, L_3, L_4, L_5, L_6, L_7, L_8, L_9, L_10, L_11, L_12, L_13, L_54, L_14, L_99, L_20, L_30, L_31, L_60, L_19, i2_add, i2_sub, i2_mul, i2_neg, Int.reduceAdd, Int.reduceSub, Int.reduceMul, Int.reduceNeg, Int.reduceLT, Int.reduceLE, Int.reduceEq, i2_le, i2_lt, i2_eq, uA_self, uA_ne, tf_0, not_true_eq_false, not_false_eq_true, m_r13 h, a, e, e2, if_true]
    · rw [if_neg e2]
      by_cases e3 : y = gI M 172 x
      · rw [if_pos e3]
        rw [← e3] at a e
        simp -dsimp (disch := omega) only [↓B1_bp, ↓B2_bp, BP_some, BQ_some, ↓reduceIte, L_0, L_1, L_2, L_3, L_4, L_5, L_6, L_7, L_8, L_9, L_10, L_11, L_12, L_13, L_54, L_14, L_99, L_20, L_30, L_31, L_60, L_19, i2_add, i2_sub, i2_mul, i2_neg, Int.reduceAdd, Int.reduceSub, Int.reduceMul, Int.reduceNeg, Int.reduceLT, Int.reduceLE, Int.reduceEq, i2_le, i2_lt, i2_eq, uA_self, uA_ne, tf_0, not_true_eq_false, not_false_eq_true, m_r13 h, a, e, e2, if_true, if_false]
      · rw [if_neg e3]
        simp -dsimp (disch := omega) only [↓B1_bp, ↓B2_bp, BP_some, BQ_some, ↓reduceIte, L_0, L_1, L_2, L_3, L_4, L_5, L_6, L_7, L_8, L_9, L_10, L_11, L_12, L_13, L_54, L_14, L_99, L_20, L_30, L_31, L_60, L_19, i2_add, i2_sub, i2_mul, i2_neg, Int.reduceAdd, Int.reduceSub, Int.reduceMul, Int.reduceNeg, Int.reduceLT, Int.reduceLE, Int.reduceEq, i2_le, i2_lt, i2_eq, uA_self, uA_ne, tf_0, not_true_eq_false, not_false_eq_true, m_r13 h, a, e, e2, e3, if_true, if_false]
  · rw [if_neg e]
    simp -dsimp (disch := omega) only [↓B1_bp, ↓B2_bp, BP_some, BQ_some, ↓reduceIte, L_0, L_1, L_2, L_3, L_4, L_5, L_6, L_7, L_8, L_9, L_10, L_11, L_12, L_13, L_54, L_14, L_99, L_20, L_30, L_31, L_60, L_19, i2_add, i2_sub, i2_mul, i2_neg, Int.reduceAdd, Int.reduceSub, Int.reduceMul, Int.reduceNeg, Int.reduceLT, Int.reduceLE, Int.reduceEq, i2_le, i2_lt, i2_eq, uA_self, uA_ne, tf_0, not_true_eq_false, not_false_eq_true, m_r13 h, a, e, if_false]
/-- what a sheet answers -/
theorem so_rd {o : Nat} {s n : Int} (h : SO M o s n) : gk M o 9 = some () ∧ rdI M o 9 0 = some (i2 s) ∧ rdN M o 9 1 = some (o + 1) ∧ alN_ M (o + 1) = some (i2 n) := by
  obtain ⟨⟨a1, a2⟩, a3, a4, a5, a6, a7, a8⟩ := h
  refine ⟨if_pos a3, ?_, ?_, ?_⟩
  · rw [g_rdI a3, ← a4]
    rfl
  · unfold rdN
    rw [if_pos a3]
    exact a5
  · unfold alN_
    rw [if_pos (by omega), i2_ofNat, a7]
theorem so_b {o : Nat} {s n : Int} (h : SO M o s n) : 0 ≤ n ∧ n ≤ 40 := by
  obtain ⟨-, -, -, -, -, a7, a8⟩ := h
  omega
theorem so_has {o : Nat} {s n : Int} (h : SO M o s n) {i : Int} (i0 : -2147483648 ≤ i) (i1 : i < 2147483648) : fX6_hasItem M o (i2 i) = some (i2 (tf (0 ≤ i ∧ i ≤ n - 1))) := by
  obtain ⟨r1, r2, r3, r4⟩ := so_rd h
  have b := so_b h
  unfold fX6_hasItem
  simp -dsimp (disch := omega) only [↓B1_bp, ↓B2_bp, BP_some, BQ_some, ↓reduceIte, L_0, L_1, L_2, L_3, L_4, L_5, L_6, L_7, L_8, L_9, L_10, L_11, L_12, L_13, L_54, L_14, L_99, L_20, L_30, L_31, L_60, L_19, i2_add, i2_sub, i2_mul, i2_neg, Int.reduceAdd, Int.reduceSub, Int.reduceMul, Int.reduceNeg, Int.reduceLT, Int.reduceLE, Int.reduceEq, i2_le, i2_lt, i2_eq, uA_self, uA_ne, tf_0, not_true_eq_false, not_false_eq_true, r3, r4, c_isWithin, tf_bz]
theorem op_item (h : LayC M) (hm : LayM M) (c : CR M 1 A) (g : GA A) (ha : M.g 165 = rI A) {x y z : Int} (x0 : -2147483648 ≤ x) (x1 : x < 2147483648) (y0 : -2147483648 ≤ y) (y1 : y < 2147483648) (z0 : -2147483648 ≤ z) (z1 : z < 2147483648) (hi : Inv M) : OpP (fX11_item M 0 (i2 x) (i2 y) (i2 z)) (fX12_item_ M 164 (i2 x) (i2 y) (i2 z)) := by
  have si := hi.2.2.2.2.1
  have q1 := c_isSheet M x0 x1
  have q2 := m_isFour M x0 x1
  have q3 := m_isFour M y0 y1
  by_cases e : 0 ≤ x ∧ x ≤ 3
  · have hx : ((x.toNat : Nat) : Int) = x := by omega
    rw [tf_t e] at q1 q2
    by_cases e2 : 0 ≤ y ∧ y ≤ 3
    · have te2 : tf (0 ≤ y ∧ y ≤ 3) = 1 := tf_t e2
      rw [te2] at q3
      have q4 := q160 h e.1 e.2
      have q5 := m_lacks hm e.1 e.2 y0 y1
      rcases si x.toNat (by omega) with ⟨r1, r2⟩ | ⟨o, r1, r2, r3, r4, r5⟩
      · rw [hx] at r2
        rw [r1] at q4
        rw [if_neg (by omega)] at q5
        refine opP_2 (r := i2 (-11)) ?_ ?_
        · unfold fX11_item
          simp -dsimp (disch := omega) only [↓B1_bp, ↓B2_bp, BP_some, BQ_some, ↓reduceIte, L_0, L_1, L_2, L_3, L_4, L_5, L_6, L_7, L_8, L_9, L_10, L_11, L_12, L_13, L_54, L_14, L_99, L_20, L_30, L_31, L_60, L_19, i2_add, i2_sub, i2_mul, i2_neg, Int.reduceAdd, Int.reduceSub, Int.reduceMul, Int.reduceNeg, Int.reduceLT, Int.reduceLE, Int.reduceEq, i2_le, i2_lt, i2_eq, uA_self, uA_ne, tf_0, not_true_eq_false, not_false_eq_true, L_15, L_40, L_100, L_101, L_200, L_999, ↓NL_bp, BNP_none, BNP_some, and_self, if_true, if_false, and_true, true_and, and_false, false_and, t_now h, d_gk (t_d1 h), q1, c_isWithin, te2, t_sh h, q4]
        · unfold fX12_item_
          simp -dsimp (disch := omega) only [↓B1_bp, ↓B2_bp, BP_some, BQ_some, ↓reduceIte, L_0, L_1, L_2, L_3, L_4, L_5, L_6, L_7, L_8, L_9, L_10, L_11, L_12, L_13, L_54, L_14, L_99, L_20, L_30, L_31, L_60, L_19, i2_add, i2_sub, i2_mul, i2_neg, Int.reduceAdd, Int.reduceSub, Int.reduceMul, Int.reduceNeg, Int.reduceLT, Int.reduceLE, Int.reduceEq, i2_le, i2_lt, i2_eq, uA_self, uA_ne, tf_0, not_true_eq_false, not_false_eq_true, q2, q3, gk_m hm, q5]
      · rw [hx] at r2 r3 r4
        rw [r1] at q4
        rw [if_pos r3.1, if_neg (by omega)] at q5
        obtain ⟨s1, s2, s3, s4⟩ := so_rd r2
        have sb := so_b r2
        by_cases e3 : y = gI M 172 x
        · rw [if_pos e3] at q5
          rw [← e3] at s2
          have sh := so_has r2 z0 z1
          have a73 := g_alI (ar_si hm) (x := x) e.1 (by omega) (by omega)
          by_cases e4 : 0 ≤ z ∧ z ≤ gI M 173 x - 1
          · have te4 : tf (0 ≤ z ∧ z ≤ gI M 173 x - 1) = 1 := tf_t e4
            rw [te4] at sh
            have hz : ((z.toNat : Nat) : Int) = z := by omega
            have v := (r4 z.toNat (by omega)).1
            have ln : (M.len (o + 1) : Int) = gI M 173 x := r2.2.2.2.2.2.1
            have a1 := l_al (M := M) (p := o + 1) (x := z) r2.2.2.2.2.1 e4.1 (by omega) (by omega)
            have a2 := l_al (M := M) (p := 174) (x := 40 * x + z) (ar_it hm).1 (by omega) (by rw [(ar_it hm).2]; omega) (by omega)
            rw [show (40 * x + z).toNat = 40 * x.toNat + z.toNat by omega, ← v] at a2
            refine opP_2 (r := (M.l (o + 1) z.toNat).toInt32) ?_ ?_
            · unfold fX11_item
              simp -dsimp (disch := omega) only [↓B1_bp, ↓B2_bp, BP_some, BQ_some, ↓reduceIte, L_0, L_1, L_2, L_3, L_4, L_5, L_6, L_7, L_8, L_9, L_10, L_11, L_12, L_13, L_54, L_14, L_99, L_20, L_30, L_31, L_60, L_19, i2_add, i2_sub, i2_mul, i2_neg, Int.reduceAdd, Int.reduceSub, Int.reduceMul, Int.reduceNeg, Int.reduceLT, Int.reduceLE, Int.reduceEq, i2_le, i2_lt, i2_eq, uA_self, uA_ne, tf_0, not_true_eq_false, not_false_eq_true, L_15, L_40, L_100, L_101, L_200, L_999, ↓NL_bp, BNP_none, BNP_some, and_self, if_true, if_false, and_true, true_and, and_false, false_and, t_now h, d_gk (t_d1 h), q1, c_isWithin, te2, t_sh h, q4, s2, s1, sh, s3, a1]
            · unfold fX12_item_
              simp -dsimp (disch := omega) only [↓B1_bp, ↓B2_bp, BP_some, BQ_some, ↓reduceIte, L_0, L_1, L_2, L_3, L_4, L_5, L_6, L_7, L_8, L_9, L_10, L_11, L_12, L_13, L_54, L_14, L_99, L_20, L_30, L_31, L_60, L_19, i2_add, i2_sub, i2_mul, i2_neg, Int.reduceAdd, Int.reduceSub, Int.reduceMul, Int.reduceNeg, Int.reduceLT, Int.reduceLE, Int.reduceEq, i2_le, i2_lt, i2_eq, uA_self, uA_ne, tf_0, not_true_eq_false, not_false_eq_true, q2, q3, gk_m hm, q5, m_r14 hm, a73, J_0, J_1, J_2, J_3, J_5, J_7, J_8, J_9, J_10, J_13, J_15, J_30, J_60, J_99, J_100, J_999, J_n1, i2_j2, m_in, te4, m_r15 hm, L_40, a2]
          · have te4 : tf (0 ≤ z ∧ z ≤ gI M 173 x - 1) = 0 := tf_f e4
            rw [te4] at sh
            refine opP_2 (r := i2 (-12)) ?_ ?_
            · unfold fX11_item
              simp -dsimp (disch := omega) only [↓B1_bp, ↓B2_bp, BP_some, BQ_some, ↓reduceIte, L_0, L_1, L_2, L_3, L_4, L_5, L_6, L_7, L_8, L_9, L_10, L_11, L_12, L_13, L_54, L_14, L_99, L_20, L_30, L_31, L_60, L_19, i2_add, i2_sub, i2_mul, i2_neg, Int.reduceAdd, Int.reduceSub, Int.reduceMul, Int.reduceNeg, Int.reduceLT, Int.reduceLE, Int.reduceEq, i2_le, i2_lt, i2_eq, uA_self, uA_ne, tf_0, not_true_eq_false, not_false_eq_true, L_15, L_40, L_100, L_101, L_200, L_999, ↓NL_bp, BNP_none, BNP_some, and_self, if_true, if_false, and_true, true_and, and_false, false_and, t_now h, d_gk (t_d1 h), q1, c_isWithin, te2, t_sh h, q4, s2, s1, sh]
            · unfold fX12_item_
              simp -dsimp (disch := omega) only [↓B1_bp, ↓B2_bp, BP_some, BQ_some, ↓reduceIte, L_0, L_1, L_2, L_3, L_4, L_5, L_6, L_7, L_8, L_9, L_10, L_11, L_12, L_13, L_54, L_14, L_99, L_20, L_30, L_31, L_60, L_19, i2_add, i2_sub, i2_mul, i2_neg, Int.reduceAdd, Int.reduceSub, Int.reduceMul, Int.reduceNeg, Int.reduceLT, Int.reduceLE, Int.reduceEq, i2_le, i2_lt, i2_eq, uA_self, uA_ne, tf_0, not_true_eq_false, not_false_eq_true, q2, q3, gk_m hm, q5, m_r14 hm, a73, J_0, J_1, J_2, J_3, J_5, J_7, J_8, J_9, J_10, J_13, J_15, J_30, J_60, J_99, J_100, J_999, J_n1, i2_j2, m_in, te4]
        · rw [if_neg e3] at q5
          have e3' : ¬ gI M 172 x = y := fun w => e3 w.symm
          refine opP_2 (r := i2 (-13)) ?_ ?_
          · unfold fX11_item
            simp -dsimp (disch := omega) only [↓B1_bp, ↓B2_bp, BP_some, BQ_some, ↓reduceIte, L_0, L_1, L_2, L_3, L_4, L_5, L_6, L_7, L_8, L_9, L_10, L_11, L_12, L_13, L_54, L_14, L_99, L_20, L_30, L_31, L_60, L_19, i2_add, i2_sub, i2_mul, i2_neg, Int.reduceAdd, Int.reduceSub, Int.reduceMul, Int.reduceNeg, Int.reduceLT, Int.reduceLE, Int.reduceEq, i2_le, i2_lt, i2_eq, uA_self, uA_ne, tf_0, not_true_eq_false, not_false_eq_true, L_15, L_40, L_100, L_101, L_200, L_999, ↓NL_bp, BNP_none, BNP_some, and_self, if_true, if_false, and_true, true_and, and_false, false_and, t_now h, d_gk (t_d1 h), q1, c_isWithin, te2, t_sh h, q4, s2, e3']
          · unfold fX12_item_
            simp -dsimp (disch := omega) only [↓B1_bp, ↓B2_bp, BP_some, BQ_some, ↓reduceIte, L_0, L_1, L_2, L_3, L_4, L_5, L_6, L_7, L_8, L_9, L_10, L_11, L_12, L_13, L_54, L_14, L_99, L_20, L_30, L_31, L_60, L_19, i2_add, i2_sub, i2_mul, i2_neg, Int.reduceAdd, Int.reduceSub, Int.reduceMul, Int.reduceNeg, Int.reduceLT, Int.reduceLE, Int.reduceEq, i2_le, i2_lt, i2_eq, uA_self, uA_ne, tf_0, not_true_eq_false, not_false_eq_true, q2, q3, gk_m hm, q5]
    · have te2 : tf (0 ≤ y ∧ y ≤ 3) = 0 := tf_f e2
      rw [te2] at q3
      refine opP_2 (r := i2 (-1)) ?_ ?_
      · unfold fX11_item
        simp -dsimp (disch := omega) only [↓B1_bp, ↓B2_bp, BP_some, BQ_some, ↓reduceIte, L_0, L_1, L_2, L_3, L_4, L_5, L_6, L_7, L_8, L_9, L_10, L_11, L_12, L_13, L_54, L_14, L_99, L_20, L_30, L_31, L_60, L_19, i2_add, i2_sub, i2_mul, i2_neg, Int.reduceAdd, Int.reduceSub, Int.reduceMul, Int.reduceNeg, Int.reduceLT, Int.reduceLE, Int.reduceEq, i2_le, i2_lt, i2_eq, uA_self, uA_ne, tf_0, not_true_eq_false, not_false_eq_true, L_15, L_40, L_100, L_101, L_200, L_999, ↓NL_bp, BNP_none, BNP_some, and_self, if_true, if_false, and_true, true_and, and_false, false_and, t_now h, d_gk (t_d1 h), q1, c_isWithin, te2]
      · unfold fX12_item_
        simp -dsimp (disch := omega) only [↓B1_bp, ↓B2_bp, BP_some, BQ_some, ↓reduceIte, L_0, L_1, L_2, L_3, L_4, L_5, L_6, L_7, L_8, L_9, L_10, L_11, L_12, L_13, L_54, L_14, L_99, L_20, L_30, L_31, L_60, L_19, i2_add, i2_sub, i2_mul, i2_neg, Int.reduceAdd, Int.reduceSub, Int.reduceMul, Int.reduceNeg, Int.reduceLT, Int.reduceLE, Int.reduceEq, i2_le, i2_lt, i2_eq, uA_self, uA_ne, tf_0, not_true_eq_false, not_false_eq_true, q2, q3]
  · rw [tf_f e] at q1 q2
    refine opP_2 (r := i2 (-1)) ?_ ?_
    · unfold fX11_item
      simp -dsimp (disch := omega) only [↓B1_bp, ↓B2_bp, BP_some, BQ_some, ↓reduceIte, L_0, L_1, L_2, L_3, L_4, L_5, L_6, L_7, L_8, L_9, L_10, L_11, L_12, L_13, L_54, L_14, L_99, L_20, L_30, L_31, L_60, L_19, i2_add, i2_sub, i2_mul, i2_neg, Int.reduceAdd, Int.reduceSub, Int.reduceMul, Int.reduceNeg, Int.reduceLT, Int.reduceLE, Int.reduceEq, i2_le, i2_lt, i2_eq, uA_self, uA_ne, tf_0, not_true_eq_false, not_false_eq_true, L_15, L_40, L_100, L_101, L_200, L_999, ↓NL_bp, BNP_none, BNP_some, and_self, if_true, if_false, and_true, true_and, and_false, false_and, t_now h, d_gk (t_d1 h), q1]
    · unfold fX12_item_
      simp -dsimp (disch := omega) only [↓B1_bp, ↓B2_bp, BP_some, BQ_some, ↓reduceIte, L_0, L_1, L_2, L_3, L_4, L_5, L_6, L_7, L_8, L_9, L_10, L_11, L_12, L_13, L_54, L_14, L_99, L_20, L_30, L_31, L_60, L_19, i2_add, i2_sub, i2_mul, i2_neg, Int.reduceAdd, Int.reduceSub, Int.reduceMul, Int.reduceNeg, Int.reduceLT, Int.reduceLE, Int.reduceEq, i2_le, i2_lt, i2_eq, uA_self, uA_ne, tf_0, not_true_eq_false, not_false_eq_true, q2]
end SHEET
