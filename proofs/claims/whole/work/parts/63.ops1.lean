section OPS1
variable {M : Mm} {A : Int → Int}
theorem c_good_L (h : LayC M) (c : CR M 1 A) (g : GA A) : ∀ (d N : Nat) (i : Int) (s : Int32), d < N → 0 ≤ i → i + d = A 0 → fX11_good_L4 M 0 N s (i2 i) = some (gdF A d i s) := by
  have g0 := g.1
  intro d
  induction d with
  | zero =>
    intro N i s hN i0 hi
    obtain ⟨N, rfl⟩ : ∃ k, N = k + 1 := ⟨N - 1, by omega⟩
    have e : A 0 ≤ i := by omega
    simp -dsimp (disch := omega) only [fX11_good_L4, ↓B1_bp, ↓B2_bp, BP_some, BQ_some, ↓reduceIte, L_0, L_1, L_2, L_3, L_4, L_5, L_6, L_7, L_8, L_9, L_10, L_11, L_12, L_13, L_54, L_14, L_99, L_20, L_30, L_31, L_60, L_19, i2_add, i2_sub, i2_mul, i2_neg, Int.reduceAdd, Int.reduceSub, Int.reduceMul, Int.reduceNeg, Int.reduceLT, Int.reduceLE, Int.reduceEq, i2_le, i2_lt, i2_eq, uA_self, uA_ne, tf_0, not_true_eq_false, not_false_eq_true, t_now h, d_cnt (t_d1 h) c, e, if_true]
    rfl
  | succ d ih =>
    intro N i s hN i0 hi
    obtain ⟨N, rfl⟩ : ∃ k, N = k + 1 := ⟨N - 1, by omega⟩
    have e : ¬ A 0 ≤ i := by omega
    have hl := c_isGood (t_d1 h) c g i0 (show i < A 0 by omega)
    show _ = some (gdF A d (i + 1) (if goI A i = 1 then s ||| (i2 1 <<< (i2 i &&& (31 : Int32))) else s))
    rcases goI_01 A i with q | q
    · have k := ih N (i + 1) s (by omega) (by omega) (by omega)
      rw [q] at hl ⊢
      rw [if_neg (by decide)]
      simp -dsimp (disch := omega) only [fX11_good_L4, ↓B1_bp, ↓B2_bp, BP_some, BQ_some, ↓reduceIte, L_0, L_1, L_2, L_3, L_4, L_5, L_6, L_7, L_8, L_9, L_10, L_11, L_12, L_13, L_54, L_14, L_99, L_20, L_30, L_31, L_60, L_19, i2_add, i2_sub, i2_mul, i2_neg, Int.reduceAdd, Int.reduceSub, Int.reduceMul, Int.reduceNeg, Int.reduceLT, Int.reduceLE, Int.reduceEq, i2_le, i2_lt, i2_eq, uA_self, uA_ne, tf_0, not_true_eq_false, not_false_eq_true, t_now h, d_cnt (t_d1 h) c, d_gk (t_d1 h), e, if_false, hl, k]
    · have k := ih N (i + 1) (s ||| (i2 1 <<< (i2 i &&& (31 : Int32)))) (by omega) (by omega) (by omega)
      rw [q] at hl ⊢
      rw [if_pos rfl]
      rw [L_31] at k ⊢
      simp -dsimp (disch := omega) only [fX11_good_L4, ↓B1_bp, ↓B2_bp, BP_some, BQ_some, ↓reduceIte, L_0, L_1, L_2, L_3, L_4, L_5, L_6, L_7, L_8, L_9, L_10, L_11, L_12, L_13, L_54, L_14, L_99, L_20, L_30, L_31, L_60, L_19, i2_add, i2_sub, i2_mul, i2_neg, Int.reduceAdd, Int.reduceSub, Int.reduceMul, Int.reduceNeg, Int.reduceLT, Int.reduceLE, Int.reduceEq, i2_le, i2_lt, i2_eq, uA_self, uA_ne, tf_0, not_true_eq_false, not_false_eq_true, t_now h, d_cnt (t_d1 h) c, d_gk (t_d1 h), e, if_false, hl, k]
theorem op_good (h : LayC M) (hm : LayM M) (c : CR M 1 A) (g : GA A) (ha : M = M.row 165 A) : ∃ r, fX11_good M 0 = some r ∧ fX12_good M 164 = some r := by
  have g0 := g.1
  have k1 := c_good_L h c g (A 0).toNat FL 0 0 (by show _ < 4096; omega) (by decide) (by omega)
  have k2 := m_good_L (A := A) hm g (A 0).toNat FL 0 0 (by show _ < 4096; omega) (by decide) (by omega)
  rw [← ha] at k2
  exact ⟨_, k1, k2⟩
end OPS1
