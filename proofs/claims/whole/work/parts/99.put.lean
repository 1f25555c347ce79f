section PUT
variable {M : Mm} {A : Int → Int}
def nrw (s : Int) (y : Int32) : Int64 := if s = 0 then (y.toInt8.toInt32).toInt64 else if s = 1 then (y.toInt16.toInt32).toInt64 else y.toInt64
theorem nrw_b (y : Int32) : -128 ≤ (nrw 0 y).toInt ∧ (nrw 0 y).toInt ≤ 127 := by
  show -128 ≤ ((y.toInt8.toInt32).toInt64).toInt ∧ ((y.toInt8.toInt32).toInt64).toInt ≤ 127
  rw [Int32.toInt_toInt64, Int8.toInt_toInt32]
  exact ⟨Int8.le_toInt _, by have := Int8.toInt_lt y.toInt8; omega⟩
theorem c_narrowed {o : Nat} {s n : Int} (h : SO M o s n) (s0 : 0 ≤ s) (s3 : s ≤ 3) (y : Int32) : fX6_narrowed M o y = some (nrw s y) := by
  obtain ⟨r1, r2, r3, r4⟩ := so_rd h
  unfold fX6_narrowed nrw
  by_cases e0 : s = 0
  · rw [if_pos e0]
    simp -dsimp (disch := omega) only [↓B1_bp, ↓B2_bp, BP_some, BQ_some, ↓reduceIte, L_0, L_1, L_2, L_3, L_4, L_5, L_6, L_7, L_8, L_9, L_10, L_11, L_12, L_13, L_54, L_14, L_99, L_20, L_30, L_31, L_60, L_19, i2_add, i2_sub, i2_mul, i2_neg, Int.reduceAdd, Int.reduceSub, Int.reduceMul, Int.reduceNeg, Int.reduceLT, Int.reduceLE, Int.reduceEq, i2_le, i2_lt, i2_eq, uA_self, uA_ne, tf_0, not_true_eq_false, not_false_eq_true, r2, e0]
  · rw [if_neg e0]
    by_cases e1 : s = 1
    · rw [if_pos e1]
      simp -dsimp (disch := omega) only [↓B1_bp, ↓B2_bp, BP_some, BQ_some, ↓reduceIte, L_0, L_1, L_2, L_3, L_4, L_5, L_6, L_7, L_8, L_9, L_10, L_11, L_12, L_13, L_54, L_14, L_99, L_20, L_30, L_31, L_60, L_19, i2_add, i2_sub, i2_mul, i2_neg, Int.reduceAdd, Int.reduceSub, Int.reduceMul, Int.reduceNeg, Int.reduceLT, Int.reduceLE, Int.reduceEq, i2_le, i2_lt, i2_eq, uA_self, uA_ne, tf_0, not_true_eq_false, not_false_eq_true, r2, e1]
    · rw [if_neg e1]
      simp -dsimp (disch := omega) only [↓B1_bp, ↓B2_bp, BP_some, BQ_some, ↓reduceIte, L_0, L_1, L_2, L_3, L_4, L_5, L_6, L_7, L_8, L_9, L_10, L_11, L_12, L_13, L_54, L_14, L_99, L_20, L_30, L_31, L_60, L_19, i2_add, i2_sub, i2_mul, i2_neg, Int.reduceAdd, Int.reduceSub, Int.reduceMul, Int.reduceNeg, Int.reduceLT, Int.reduceLE, Int.reduceEq, i2_le, i2_lt, i2_eq, uA_self, uA_ne, tf_0, not_true_eq_false, not_false_eq_true, r2, e0, e1, if_false]
theorem sl_l (M : Mm) (a j : Nat) (v : Int64) (b i : Nat) : (M.sl a j v).l b i = if b = a ∧ i = j then v else M.l b i := rfl
/-- both sides hold one more item -/
theorem SI.put {x z : Nat} {o : Nat} {v : Int64} (si : SI M) (hx : x < 4) (r : M.r 160 x = some o) (so : SO M o (gI M 172 x) (gI M 173 x)) (hz : (z : Int) < gI M 173 x) (vb : gI M 172 x = 0 → -128 ≤ v.toInt ∧ v.toInt ≤ 127) : SI ((M.sl (o + 1) z v).sl 174 (40 * x + z) v) := by
  have sb := so_b so
  have o9 := so.1.1
  intro q hq
  rcases si q hq with w | ⟨o', w1, w2, w3, w4, w5⟩
  · exact Or.inl w
  · refine Or.inr ⟨o', w1, w2, w3, fun i hi => ?_, w5⟩
    have sb' := so_b w2
    have o9' := w2.1.1
    have old := w4 i hi
    change (i : Int) < gI M 173 q at hi
    rw [sl_l, sl_l, if_neg (by omega), sl_l, sl_l]
    by_cases e : q = x
    · subst e
      have eo : o' = o := by
        rw [r] at w1
        exact (Option.some.inj w1).symm
      subst eo
      by_cases ei : i = z
      · rw [if_pos ⟨rfl, ei⟩, if_pos ⟨rfl, by omega⟩]
        exact ⟨rfl, vb⟩
      · rw [if_neg (by omega), if_neg (by omega), if_neg (by omega)]
        exact old
    · have no : o' ≠ o := fun w => w5 x hx (fun h => e h.symm) (w ▸ r)
      rw [if_neg (by omega), if_neg (by omega), if_neg (by omega)]
      exact old
theorem op_put (h : LayC M) (hm : LayM M) (c : CR M 1 A) (g : GA A) (ha : M.g 165 = rI A) {x y z : Int} (x0 : -2147483648 ≤ x) (x1 : x < 2147483648) (y0 : -2147483648 ≤ y) (y1 : y < 2147483648) (z0 : -2147483648 ≤ z) (z1 : z < 2147483648) (hi : Inv M) : Op M (fun M => fX11_put M 0 (i2 x) (i2 y) (i2 z)) (fun M => fX12_put M 164 (i2 x) (i2 y) (i2 z)) := by
  have si := hi.2.2.2.2.1
  have q1 := c_isSheet M x0 x1
  have q2 := m_isFour M x0 x1
  by_cases e : 0 ≤ x ∧ x ≤ 3
  · have hx : ((x.toNat : Nat) : Int) = x := by omega
    rw [tf_t e] at q1 q2
    have q4 := q160 h e.1 e.2
    have q5 := m_lacks hm e.1 e.2 (y := -1) (by decide) (by decide)
    rcases si x.toNat (by omega) with ⟨r1, r2⟩ | ⟨o, r1, r2, r3, r4, r5⟩
    · rw [hx] at r2
      rw [r1] at q4
      rw [if_neg (by omega)] at q5
      refine ⟨i2 (-11), M, M, ?_, ?_, hi⟩
      · show fX11_put M 0 (i2 x) (i2 y) (i2 z) = _
        unfold fX11_put
        simp -dsimp (disch := omega) only [↓B1_bp, ↓B2_bp, BP_some, BQ_some, ↓reduceIte, L_0, L_1, L_2, L_3, L_4, L_5, L_6, L_7, L_8, L_9, L_10, L_11, L_12, L_13, L_54, L_14, L_99, L_20, L_30, L_31, L_60, L_19, i2_add, i2_sub, i2_mul, i2_neg, Int.reduceAdd, Int.reduceSub, Int.reduceMul, Int.reduceNeg, Int.reduceLT, Int.reduceLE, Int.reduceEq, i2_le, i2_lt, i2_eq, uA_self, uA_ne, tf_0, not_true_eq_false, not_false_eq_true, L_15, L_40, L_100, L_101, L_200, L_999, ↓NL_bp, BNP_none, BNP_some, and_self, if_true, if_false, and_true, true_and, and_false, false_and, t_now h, d_gk (t_d1 h), q1, t_sh h, q4]
      · show fX12_put M 164 (i2 x) (i2 y) (i2 z) = _
        unfold fX12_put
        simp -dsimp (disch := omega) only [↓B1_bp, ↓B2_bp, BP_some, BQ_some, ↓reduceIte, L_0, L_1, L_2, L_3, L_4, L_5, L_6, L_7, L_8, L_9, L_10, L_11, L_12, L_13, L_54, L_14, L_99, L_20, L_30, L_31, L_60, L_19, i2_add, i2_sub, i2_mul, i2_neg, Int.reduceAdd, Int.reduceSub, Int.reduceMul, Int.reduceNeg, Int.reduceLT, Int.reduceLE, Int.reduceEq, i2_le, i2_lt, i2_eq, uA_self, uA_ne, tf_0, not_true_eq_false, not_false_eq_true, q2, gk_m hm, q5]
    · have si2 := fun v (hz : (y.toNat : Int) < gI M 173 x.toNat) vb => SI.put (v := v) (z := y.toNat) si (show x.toNat < 4 by omega) r1 r2 hz vb
      rw [hx] at r2 r3 r4 si2
      rw [r1] at q4
      rw [if_pos r3.1, if_pos (by decide)] at q5
      obtain ⟨s1, s2, s3, s4⟩ := so_rd r2
      have sb := so_b r2
      have sh := so_has r2 y0 y1
      have a73 := g_alI (ar_si hm) (x := x) e.1 (by omega) (by omega)
      have a72 := g_alI (ar_so hm) (x := x) e.1 (by omega) (by omega)
      by_cases e4 : 0 ≤ y ∧ y ≤ gI M 173 x - 1
      · have te4 : tf (0 ≤ y ∧ y ≤ gI M 173 x - 1) = 1 := tf_t e4
        rw [te4] at sh
        have nr := c_narrowed r2 r3.1 r3.2 (i2 z)
        have ln : (M.len (o + 1) : Int) = gI M 173 x := r2.2.2.2.2.2.1
        have a1 := l_as (M := M) (p := o + 1) (x := y) (v := nrw (gI M 172 x) (i2 z)) r2.2.2.2.2.1 e4.1 (by omega) (by omega)
        have a2 := l_as (M := M.sl (o + 1) y.toNat (nrw (gI M 172 x) (i2 z))) (p := 174) (x := 40 * x + y) (v := nrw (gI M 172 x) (i2 z)) (ar_it hm).1 (by omega) (by show _ < ((M.len 174 : Nat) : Int); rw [(ar_it hm).2]; omega) (by omega)
        rw [show (40 * x + y).toNat = 40 * x.toNat + y.toNat by omega] at a2
        have hm1 : LayM (M.sl (o + 1) y.toNat (nrw (gI M 172 x) (i2 z))) := hm
        have q2' : fX12_isFour (M.sl (o + 1) y.toNat (nrw (gI M 172 x) (i2 z))) (i2 x) = some (i2 1) := q2
        have q5' : fX12_lacks (M.sl (o + 1) y.toNat (nrw (gI M 172 x) (i2 z))) 164 (i2 x) (i2 (-1)) = some (i2 0) := q5
        have a73' : alI (M.sl (o + 1) y.toNat (nrw (gI M 172 x) (i2 z))) 173 (i2 x) = some (i2 (gI M 173 x)) := a73
        have a72' : alI (M.sl (o + 1) y.toNat (nrw (gI M 172 x) (i2 z))) 172 (i2 x) = some (i2 (gI M 172 x)) := a72
        have nx : Nx Sx Rq (fun _ => True) M ((M.sl (o + 1) y.toNat (nrw (gI M 172 x) (i2 z))).sl 174 (40 * x.toNat + y.toNat) (nrw (gI M 172 x) (i2 z))) := (Nx.sl M _ trivial).tr (Nx.sl _ _ trivial)
        refine ⟨i2 1, M.sl (o + 1) y.toNat (nrw (gI M 172 x) (i2 z)), (M.sl (o + 1) y.toNat (nrw (gI M 172 x) (i2 z))).sl 174 (40 * x.toNat + y.toNat) (nrw (gI M 172 x) (i2 z)), ?_, ?_, Inv.nx hi nx rfl rfl rfl (si2 _ (by omega) (fun w => by rw [w]; exact nrw_b _)) hi.2.2.2.2.2.1 hi.2.2.2.2.2.2⟩
        · show fX11_put M 0 (i2 x) (i2 y) (i2 z) = _
          unfold fX11_put
          simp -dsimp (disch := omega) only [↓B1_bp, ↓B2_bp, BP_some, BQ_some, ↓reduceIte, L_0, L_1, L_2, L_3, L_4, L_5, L_6, L_7, L_8, L_9, L_10, L_11, L_12, L_13, L_54, L_14, L_99, L_20, L_30, L_31, L_60, L_19, i2_add, i2_sub, i2_mul, i2_neg, Int.reduceAdd, Int.reduceSub, Int.reduceMul, Int.reduceNeg, Int.reduceLT, Int.reduceLE, Int.reduceEq, i2_le, i2_lt, i2_eq, uA_self, uA_ne, tf_0, not_true_eq_false, not_false_eq_true, L_15, L_40, L_100, L_101, L_200, L_999, ↓NL_bp, BNP_none, BNP_some, and_self, if_true, if_false, and_true, true_and, and_false, false_and, t_now h, d_gk (t_d1 h), q1, t_sh h, q4, s1, sh, s3, nr, a1]
        · show fX12_put (M.sl (o + 1) y.toNat (nrw (gI M 172 x) (i2 z))) 164 (i2 x) (i2 y) (i2 z) = _
          have b72 := gI_b M 172 x
          generalize hs : gI M 172 x = s at *
          unfold fX12_put
          by_cases c0 : s = 0
          · have nz : nrw s (i2 z) = ((i2 z).toInt8.toInt32).toInt64 := by rw [c0]; rfl
            rw [nz] at a2 a72' a73' q5' q2' hm1 ⊢
            simp -dsimp (disch := omega) only [↓B1_bp, ↓B2_bp, BP_some, BQ_some, ↓reduceIte, L_0, L_1, L_2, L_3, L_4, L_5, L_6, L_7, L_8, L_9, L_10, L_11, L_12, L_13, L_54, L_14, L_99, L_20, L_30, L_31, L_60, L_19, i2_add, i2_sub, i2_mul, i2_neg, Int.reduceAdd, Int.reduceSub, Int.reduceMul, Int.reduceNeg, Int.reduceLT, Int.reduceLE, Int.reduceEq, i2_le, i2_lt, i2_eq, uA_self, uA_ne, tf_0, not_true_eq_false, not_false_eq_true, q2', gk_m hm1, q5', m_r14 hm1, a73', J_0, J_1, J_2, J_3, J_5, J_7, J_8, J_9, J_10, J_13, J_15, J_30, J_60, J_99, J_100, J_999, J_n1, i2_j2, m_in, te4, m_r13 hm1, a72', m_r15 hm1, c0, L_40, a2]
          · by_cases c1 : s = 1
            · have nz : nrw s (i2 z) = ((i2 z).toInt16.toInt32).toInt64 := by rw [c1]; rfl
              rw [nz] at a2 a72' a73' q5' q2' hm1 ⊢
              simp -dsimp (disch := omega) only [↓B1_bp, ↓B2_bp, BP_some, BQ_some, ↓reduceIte, L_0, L_1, L_2, L_3, L_4, L_5, L_6, L_7, L_8, L_9, L_10, L_11, L_12, L_13, L_54, L_14, L_99, L_20, L_30, L_31, L_60, L_19, i2_add, i2_sub, i2_mul, i2_neg, Int.reduceAdd, Int.reduceSub, Int.reduceMul, Int.reduceNeg, Int.reduceLT, Int.reduceLE, Int.reduceEq, i2_le, i2_lt, i2_eq, uA_self, uA_ne, tf_0, not_true_eq_false, not_false_eq_true, q2', gk_m hm1, q5', m_r14 hm1, a73', J_0, J_1, J_2, J_3, J_5, J_7, J_8, J_9, J_10, J_13, J_15, J_30, J_60, J_99, J_100, J_999, J_n1, i2_j2, m_in, te4, m_r13 hm1, a72', m_r15 hm1, c1, L_40, a2]
            · have nz : nrw s (i2 z) = (i2 z).toInt64 := by unfold nrw; rw [if_neg c0, if_neg c1]
              rw [nz] at a2 a72' a73' q5' q2' hm1 ⊢
              rw [i2_j2 z0 z1] at a2 a72' a73' q5' q2' hm1 ⊢
              simp -dsimp (disch := omega) only [↓B1_bp, ↓B2_bp, BP_some, BQ_some, ↓reduceIte, L_0, L_1, L_2, L_3, L_4, L_5, L_6, L_7, L_8, L_9, L_10, L_11, L_12, L_13, L_54, L_14, L_99, L_20, L_30, L_31, L_60, L_19, i2_add, i2_sub, i2_mul, i2_neg, Int.reduceAdd, Int.reduceSub, Int.reduceMul, Int.reduceNeg, Int.reduceLT, Int.reduceLE, Int.reduceEq, i2_le, i2_lt, i2_eq, uA_self, uA_ne, tf_0, not_true_eq_false, not_false_eq_true, q2', gk_m hm1, q5', m_r14 hm1, a73', J_0, J_1, J_2, J_3, J_5, J_7, J_8, J_9, J_10, J_13, J_15, J_30, J_60, J_99, J_100, J_999, J_n1, i2_j2, m_in, te4, m_r13 hm1, a72', m_r15 hm1, c0, c1, if_false, L_40, a2]
      · have te4 : tf (0 ≤ y ∧ y ≤ gI M 173 x - 1) = 0 := tf_f e4
        rw [te4] at sh
        refine ⟨i2 (-12), M, M, ?_, ?_, hi⟩
        · show fX11_put M 0 (i2 x) (i2 y) (i2 z) = _
          unfold fX11_put
          simp -dsimp (disch := omega) only [↓B1_bp, ↓B2_bp, BP_some, BQ_some, ↓reduceIte, L_0, L_1, L_2, L_3, L_4, L_5, L_6, L_7, L_8, L_9, L_10, L_11, L_12, L_13, L_54, L_14, L_99, L_20, L_30, L_31, L_60, L_19, i2_add, i2_sub, i2_mul, i2_neg, Int.reduceAdd, Int.reduceSub, Int.reduceMul, Int.reduceNeg, Int.reduceLT, Int.reduceLE, Int.reduceEq, i2_le, i2_lt, i2_eq, uA_self, uA_ne, tf_0, not_true_eq_false, not_false_eq_true, L_15, L_40, L_100, L_101, L_200, L_999, ↓NL_bp, BNP_none, BNP_some, and_self, if_true, if_false, and_true, true_and, and_false, false_and, t_now h, d_gk (t_d1 h), q1, t_sh h, q4, s1, sh]
        · show fX12_put M 164 (i2 x) (i2 y) (i2 z) = _
          unfold fX12_put
          simp -dsimp (disch := omega) only [↓B1_bp, ↓B2_bp, BP_some, BQ_some, ↓reduceIte, L_0, L_1, L_2, L_3, L_4, L_5, L_6, L_7, L_8, L_9, L_10, L_11, L_12, L_13, L_54, L_14, L_99, L_20, L_30, L_31, L_60, L_19, i2_add, i2_sub, i2_mul, i2_neg, Int.reduceAdd, Int.reduceSub, Int.reduceMul, Int.reduceNeg, Int.reduceLT, Int.reduceLE, Int.reduceEq, i2_le, i2_lt, i2_eq, uA_self, uA_ne, tf_0, not_true_eq_false, not_false_eq_true, q2, gk_m hm, q5, m_r14 hm, a73, J_0, J_1, J_2, J_3, J_5, J_7, J_8, J_9, J_10, J_13, J_15, J_30, J_60, J_99, J_100, J_999, J_n1, i2_j2, m_in, te4]
  · rw [tf_f e] at q1 q2
    refine ⟨i2 (-1), M, M, ?_, ?_, hi⟩
    · show fX11_put M 0 (i2 x) (i2 y) (i2 z) = _
      unfold fX11_put
      simp -dsimp (disch := omega) only [↓B1_bp, ↓B2_bp, BP_some, BQ_some, ↓reduceIte, L_0, L_1, L_2, L_3, L_4, L_5, L_6, L_7, L_8, L_9, L_10, L_11, L_12, L_13, L_54, L_14, L_99, L_20, L_30, L_31, L_60, L_19, i2_add, i2_sub, i2_mul, i2_neg, Int.reduceAdd, Int.reduceSub, Int.reduceMul, Int.reduceNeg, Int.reduceLT, Int.reduceLE, Int.reduceEq, i2_le, i2_lt, i2_eq, uA_self, uA_ne, tf_0, not_true_eq_false, not_false_eq_true, L_15, L_40, L_100, L_101, L_200, L_999, ↓NL_bp, BNP_none, BNP_some, and_self, if_true, if_false, and_true, true_and, and_false, false_and, t_now h, d_gk (t_d1 h), q1]
    · show fX12_put M 164 (i2 x) (i2 y) (i2 z) = _
      unfold fX12_put
      simp -dsimp (disch := omega) only [↓B1_bp, ↓B2_bp, BP_some, BQ_some, ↓reduceIte, L_0, L_1, L_2, L_3, L_4, L_5, L_6, L_7, L_8, L_9, L_10, L_11, L_12, L_13, L_54, L_14, L_99, L_20, L_30, L_31, L_60, L_19, i2_add, i2_sub, i2_mul, i2_neg, Int.reduceAdd, Int.reduceSub, Int.reduceMul, Int.reduceNeg, Int.reduceLT, Int.reduceLE, Int.reduceEq, i2_le, i2_lt, i2_eq, uA_self, uA_ne, tf_0, not_true_eq_false, not_false_eq_true, q2]
end PUT
