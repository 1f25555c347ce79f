/-! good ones, pairs, mates -/
def goI (A : Int → Int) (k : Int) : Int := if stA A k 4 < stA A k 3 ∧ baS (lwA A) (stA A k) = 0 then 1 else 0
def prI (A : Int → Int) (k o : Int) : Int := if k ≠ o ∧ goI A k = 1 ∧ goI A o = 1 ∧ stA A k 0 = stA A o 0 ∧ stA A k 2 = stA A o 2 then 1 else 0
def mateF (A : Int → Int) (k : Int) : Nat → Int → Int
  | 0, _ => -1
  | d + 1, i => if prI A k i = 1 then i else mateF A k d (i + 1)
def mateA (A : Int → Int) (k : Int) : Int := mateF A k (A 0).toNat 0
theorem goI_01 (A : Int → Int) (k : Int) : goI A k = 0 ∨ goI A k = 1 := by
  unfold goI
  split
  · exact Or.inr rfl
  · exact Or.inl rfl
theorem prI_01 (A : Int → Int) (k o : Int) : prI A k o = 0 ∨ prI A k o = 1 := by
  unfold prI
  split
  · exact Or.inr rfl
  · exact Or.inl rfl
section GOODM
variable {M : Mm} {A : Int → Int}
theorem m_st (h : LayM M) {k w : Int} (k0 : 0 ≤ k) (k8 : k < 8) (w0 : 0 ≤ w) (w13 : w < 13) : fX12_its (M.row 165 A) 164 (i2 k) (i2 w) = some (i2 (stA A k w)) := m_its h k0 k8 w0 w13
theorem m_hasL (h : LayM M) (g : GA A) {k : Int} (k0 : 0 ≤ k) (k1 : k < A 0) : fX12_hasLadder (M.row 165 A) 164 (i2 k) = some (i2 (tf (0 ≤ stA A k 6))) := by
  have hh := m_hasP (A := A) (S := stA A k) h k0 (by have := g.1; omega) (g.2.2.2.2.2.2.2 k k0 k1)
  rwa [put_st] at hh
theorem m_bareOf (h : LayM M) (g : GA A) {k : Int} (k0 : 0 ≤ k) (k1 : k < A 0) : fX12_bareOf (M.row 165 A) 164 (i2 k) = some (i2 (baS (lwA A) (stA A k))) := by
  have g0 := g.1
  have hh := m_hasL (A := A) h g k0 k1
  obtain ⟨-, -, -, -, -, -, g6, -⟩ := g.2.2.2.2.2.2.2 k k0 k1
  obtain ⟨-, -, -, l3, l4, -⟩ := g.2.2.2.2.2.1
  have e3 : lwA A 3 = A 7 := rfl
  have e4 : lwA A 4 = A 8 := rfl
  rw [e3] at l3
  rw [e4] at l4
  unfold fX12_bareOf baS
  rw [e3, e4]
  by_cases e : 0 ≤ stA A k 6
  · simp -dsimp (disch := omega) only [↓B1_bp, ↓B2_bp, BP_some, BQ_some, ↓reduceIte, gk_row, rdN_row, alN_row, alN__row, gk_m h, rdm0 h, rdm1 h, rdm2 h, rdm3 h, L_0, L_1, L_2, L_3, L_4, L_5, L_6, L_7, L_8, L_9, L_10, L_11, L_12, L_13, L_54, L_14, L_99, L_20, L_30, L_31, L_60, L_19, i2_add, i2_sub, i2_mul, i2_neg, Int.reduceAdd, Int.reduceSub, Int.reduceMul, Int.reduceNeg, Int.reduceLT, Int.reduceLE, Int.reduceEq, m_al h, i2_le, i2_lt, i2_eq, m_st h, hh, tf_0, e, not_true_eq_false, i2_max, i2_min, if_true]
  · simp -dsimp (disch := omega) only [↓B1_bp, ↓B2_bp, BP_some, BQ_some, ↓reduceIte, gk_row, rdN_row, alN_row, alN__row, gk_m h, rdm0 h, rdm1 h, rdm2 h, rdm3 h, L_0, L_1, L_2, L_3, L_4, L_5, L_6, L_7, L_8, L_9, L_10, L_11, L_12, L_13, L_54, L_14, L_99, L_20, L_30, L_31, L_60, L_19, i2_add, i2_sub, i2_mul, i2_neg, Int.reduceAdd, Int.reduceSub, Int.reduceMul, Int.reduceNeg, Int.reduceLT, Int.reduceLE, Int.reduceEq, m_al h, i2_le, i2_lt, i2_eq, m_st h, hh, tf_0, e, not_false_eq_true, if_false]
theorem m_isGood (h : LayM M) (g : GA A) {k : Int} (k0 : 0 ≤ k) (k1 : k < A 0) : fX12_isGood (M.row 165 A) 164 (i2 k) = some (i2 (goI A k)) := by
  have g0 := g.1
  have hb := m_bareOf (A := A) h g k0 k1
  have hg := g.2.2.2.2.2.2.2 k k0 k1
  have bb := baS_b (L := lwA A) hg
  obtain ⟨-, -, -, g3, g4, -⟩ := hg
  unfold fX12_isGood goI
  simp -dsimp (disch := omega) only [↓B1_bp, ↓B2_bp, BP_some, BQ_some, ↓reduceIte, gk_row, rdN_row, alN_row, alN__row, gk_m h, rdm0 h, rdm1 h, rdm2 h, rdm3 h, L_0, L_1, L_2, L_3, L_4, L_5, L_6, L_7, L_8, L_9, L_10, L_11, L_12, L_13, L_54, L_14, L_99, L_20, L_30, L_31, L_60, L_19, i2_add, i2_sub, i2_mul, i2_neg, Int.reduceAdd, Int.reduceSub, Int.reduceMul, Int.reduceNeg, Int.reduceLT, Int.reduceLE, Int.reduceEq, m_al h, i2_le, i2_lt, i2_eq, m_st h, hb]
  (repeat' split) <;> first | rfl | omega
theorem m_arePair (h : LayM M) (g : GA A) {k o : Int} (k0 : 0 ≤ k) (k1 : k < A 0) (o0 : 0 ≤ o) (o1 : o < A 0) : fX12_arePair (M.row 165 A) 164 (i2 k) (i2 o) = some (i2 (prI A k o)) := by
  have g0 := g.1
  have h1 := m_isGood (A := A) h g k0 k1
  have h2 := m_isGood (A := A) h g o0 o1
  obtain ⟨a0, -, a2, -⟩ := g.2.2.2.2.2.2.2 k k0 k1
  obtain ⟨b0, -, b2, -⟩ := g.2.2.2.2.2.2.2 o o0 o1
  have q1 := goI_01 A k
  have q2 := goI_01 A o
  unfold fX12_arePair prI
  simp -dsimp (disch := omega) only [↓B1_bp, ↓B2_bp, BP_some, BQ_some, ↓reduceIte, gk_row, rdN_row, alN_row, alN__row, gk_m h, rdm0 h, rdm1 h, rdm2 h, rdm3 h, L_0, L_1, L_2, L_3, L_4, L_5, L_6, L_7, L_8, L_9, L_10, L_11, L_12, L_13, L_54, L_14, L_99, L_20, L_30, L_31, L_60, L_19, i2_add, i2_sub, i2_mul, i2_neg, Int.reduceAdd, Int.reduceSub, Int.reduceMul, Int.reduceNeg, Int.reduceLT, Int.reduceLE, Int.reduceEq, m_al h, i2_le, i2_lt, i2_eq, m_st h, h1, h2]
  (repeat' split) <;> first | rfl | omega
theorem m_mateOf_L (h : LayM M) (g : GA A) {k : Int} (k0 : 0 ≤ k) (k1 : k < A 0) : ∀ (d N : Nat) (i : Int), d < N → 0 ≤ i → i + d = A 0 → fX12_mateOf_L2 (M.row 165 A) 164 (i2 k) N (i2 i) = some (i2 (mateF A k d i)) := by
  have g0 := g.1
  intro d
  induction d with
  | zero =>
    intro N i hN i0 hi
    obtain ⟨N, rfl⟩ : ∃ k, N = k + 1 := ⟨N - 1, by omega⟩
    have e : A 0 ≤ i := by omega
    simp -dsimp (disch := omega) only [fX12_mateOf_L2, ↓B1_bp, ↓B2_bp, BP_some, BQ_some, ↓reduceIte, gk_row, rdN_row, alN_row, alN__row, gk_m h, rdm0 h, rdm1 h, rdm2 h, rdm3 h, L_0, L_1, L_2, L_3, L_4, L_5, L_6, L_7, L_8, L_9, L_10, L_11, L_12, L_13, L_54, L_14, L_99, L_20, L_30, L_31, L_60, L_19, i2_add, i2_sub, i2_mul, i2_neg, Int.reduceAdd, Int.reduceSub, Int.reduceMul, Int.reduceNeg, Int.reduceLT, Int.reduceLE, Int.reduceEq, m_al h, i2_le, i2_lt, i2_eq, e, if_true]
    rfl
  | succ d ih =>
    intro N i hN i0 hi
    obtain ⟨N, rfl⟩ : ∃ k, N = k + 1 := ⟨N - 1, by omega⟩
    have e : ¬ A 0 ≤ i := by omega
    have hp := m_arePair (A := A) h g k0 k1 i0 (show i < A 0 by omega)
    have k9 := ih N (i + 1) (by omega) (by omega) (by omega)
    show _ = some (i2 (if prI A k i = 1 then i else mateF A k d (i + 1)))
    rcases prI_01 A k i with q | q
    · rw [q] at hp ⊢
      simp -dsimp (disch := omega) only [fX12_mateOf_L2, ↓B1_bp, ↓B2_bp, BP_some, BQ_some, ↓reduceIte, gk_row, rdN_row, alN_row, alN__row, gk_m h, rdm0 h, rdm1 h, rdm2 h, rdm3 h, L_0, L_1, L_2, L_3, L_4, L_5, L_6, L_7, L_8, L_9, L_10, L_11, L_12, L_13, L_54, L_14, L_99, L_20, L_30, L_31, L_60, L_19, i2_add, i2_sub, i2_mul, i2_neg, Int.reduceAdd, Int.reduceSub, Int.reduceMul, Int.reduceNeg, Int.reduceLT, Int.reduceLE, Int.reduceEq, m_al h, i2_le, i2_lt, i2_eq, e, if_false, hp, k9]
    · rw [q] at hp ⊢
      simp -dsimp (disch := omega) only [fX12_mateOf_L2, ↓B1_bp, ↓B2_bp, BP_some, BQ_some, ↓reduceIte, gk_row, rdN_row, alN_row, alN__row, gk_m h, rdm0 h, rdm1 h, rdm2 h, rdm3 h, L_0, L_1, L_2, L_3, L_4, L_5, L_6, L_7, L_8, L_9, L_10, L_11, L_12, L_13, L_54, L_14, L_99, L_20, L_30, L_31, L_60, L_19, i2_add, i2_sub, i2_mul, i2_neg, Int.reduceAdd, Int.reduceSub, Int.reduceMul, Int.reduceNeg, Int.reduceLT, Int.reduceLE, Int.reduceEq, m_al h, i2_le, i2_lt, i2_eq, e, if_false, hp]
theorem m_mateOf (h : LayM M) (g : GA A) {k : Int} (k0 : 0 ≤ k) (k1 : k < A 0) : fX12_mateOf (M.row 165 A) 164 (i2 k) = some (i2 (mateA A k)) := by
  have g0 := g.1
  exact m_mateOf_L (A := A) h g k0 k1 (A 0).toNat FL 0 (by show _ < 4096; omega) (by decide) (by omega)
end GOODM
section GOODC
variable {M : Mm} {B : Nat} {A : Int → Int}
theorem d_rd10 (h : LayD M B) (c : CR M B A) (g : GA A) {k : Nat} (hk : (k : Int) < A 0) : rdI M (B + 11 + 3 * k) 10 0 = some (i2 (stA A k 0)) ∧ rdI M (B + 11 + 3 * k) 10 2 = some (i2 (stA A k 2)) := by
  have hl := d_lay h (k := k) (by have := g.1; omega)
  obtain ⟨⟨r0, r1, r2, -⟩, -⟩ := c.2.2.2.2 k hk
  refine ⟨?_, ?_⟩
  · rw [g_rdI hl.1, ← r0]; rfl
  · rw [g_rdI hl.1, ← r2]; rfl
theorem c_isGood (h : LayD M B) (c : CR M B A) (g : GA A) {k : Int} (k0 : 0 ≤ k) (k1 : k < A 0) : fX0_isGood M B (i2 k) = some (i2 (goI A k)) := by
  have g0 := g.1
  have hs := c_stockingAt h c g (x := k) (by omega) (by omega)
  have e : stAt A B k = some (B + 11 + 3 * k.toNat) := if_pos ⟨k0, k1⟩
  have hk : ((k.toNat : Nat) : Int) = k := by omega
  have hl := d_isLasting h c g (k := k.toNat) (by omega)
  have hb := d_openAboveShoe h c g (k := k.toNat) (by omega)
  have hg := g.2.2.2.2.2.2.2 k k0 k1
  have bb := baS_b (L := lwA A) hg
  have gk1 := d_gk10 h (k := k.toNat) (by omega)
  rw [hk] at hl hb
  rw [e] at hs
  unfold fX0_isGood goI
  simp -dsimp (disch := omega) only [↓B1_bp, ↓B2_bp, BP_some, BQ_some, ↓reduceIte, L_0, L_1, L_2, L_3, L_4, L_5, L_6, L_7, L_8, L_9, L_10, L_11, L_12, L_13, L_54, L_14, L_99, L_20, L_30, L_31, L_60, L_19, i2_add, i2_sub, i2_mul, i2_neg, Int.reduceAdd, Int.reduceSub, Int.reduceMul, Int.reduceNeg, Int.reduceLT, Int.reduceLE, Int.reduceEq, i2_le, i2_lt, i2_eq, uA_self, uA_ne, tf_0, not_true_eq_false, not_false_eq_true, ↓NL_bp, BNP_none, BNP_some, d_gk h, hs, hl, d_laws h, hb, gk1]
  (repeat' split) <;> first | rfl | omega
theorem c_isPair (h : LayD M B) (c : CR M B A) (g : GA A) {k o : Int} (k0 : 0 ≤ k) (k1 : k < A 0) (o0 : 0 ≤ o) (o1 : o < A 0) : fX0_isPair M B (i2 k) (i2 o) = some (i2 (prI A k o)) := by
  have g0 := g.1
  have h1 := c_isGood h c g k0 k1
  have h2 := c_isGood h c g o0 o1
  obtain ⟨a0, -, a2, -⟩ := g.2.2.2.2.2.2.2 k k0 k1
  obtain ⟨b0, -, b2, -⟩ := g.2.2.2.2.2.2.2 o o0 o1
  have q1 := goI_01 A k
  have q2 := goI_01 A o
  have r1 := d_rd10 h c g (k := k.toNat) (by omega)
  have r2 := d_rd10 h c g (k := o.toNat) (by omega)
  rw [show ((k.toNat : Nat) : Int) = k by omega] at r1
  rw [show ((o.toNat : Nat) : Int) = o by omega] at r2
  unfold fX0_isPair prI
  simp -dsimp (disch := omega) only [↓B1_bp, ↓B2_bp, BP_some, BQ_some, ↓reduceIte, L_0, L_1, L_2, L_3, L_4, L_5, L_6, L_7, L_8, L_9, L_10, L_11, L_12, L_13, L_54, L_14, L_99, L_20, L_30, L_31, L_60, L_19, i2_add, i2_sub, i2_mul, i2_neg, Int.reduceAdd, Int.reduceSub, Int.reduceMul, Int.reduceNeg, Int.reduceLT, Int.reduceLE, Int.reduceEq, i2_le, i2_lt, i2_eq, uA_self, uA_ne, tf_0, not_true_eq_false, not_false_eq_true, d_gk h, h1, h2, d_sts h, d_st h, r1.1, r1.2, r2.1, r2.2]
  (repeat' split) <;> first | rfl | omega
theorem c_mateOf_L (h : LayD M B) (c : CR M B A) (g : GA A) {k : Int} (k0 : 0 ≤ k) (k1 : k < A 0) : ∀ (d N : Nat) (i : Int), d < N → 0 ≤ i → i + d = A 0 → fX0_mateOf_L2 M B (i2 k) N (i2 i) = some (i2 (mateF A k d i)) := by
  have g0 := g.1
  intro d
  induction d with
  | zero =>
    intro N i hN i0 hi
    obtain ⟨N, rfl⟩ : ∃ k, N = k + 1 := ⟨N - 1, by omega⟩
    have e : A 0 ≤ i := by omega
    simp -dsimp (disch := omega) only [fX0_mateOf_L2, ↓B1_bp, ↓B2_bp, BP_some, BQ_some, ↓reduceIte, L_0, L_1, L_2, L_3, L_4, L_5, L_6, L_7, L_8, L_9, L_10, L_11, L_12, L_13, L_54, L_14, L_99, L_20, L_30, L_31, L_60, L_19, i2_add, i2_sub, i2_mul, i2_neg, Int.reduceAdd, Int.reduceSub, Int.reduceMul, Int.reduceNeg, Int.reduceLT, Int.reduceLE, Int.reduceEq, i2_le, i2_lt, i2_eq, uA_self, uA_ne, tf_0, not_true_eq_false, not_false_eq_true, d_cnt h c, e, if_true]
    rfl
  | succ d ih =>
    intro N i hN i0 hi
    obtain ⟨N, rfl⟩ : ∃ k, N = k + 1 := ⟨N - 1, by omega⟩
    have e : ¬ A 0 ≤ i := by omega
    have hp := c_isPair h c g k0 k1 i0 (show i < A 0 by omega)
    have k9 := ih N (i + 1) (by omega) (by omega) (by omega)
    show _ = some (i2 (if prI A k i = 1 then i else mateF A k d (i + 1)))
    rcases prI_01 A k i with q | q
    · rw [q] at hp ⊢
      simp -dsimp (disch := omega) only [fX0_mateOf_L2, ↓B1_bp, ↓B2_bp, BP_some, BQ_some, ↓reduceIte, L_0, L_1, L_2, L_3, L_4, L_5, L_6, L_7, L_8, L_9, L_10, L_11, L_12, L_13, L_54, L_14, L_99, L_20, L_30, L_31, L_60, L_19, i2_add, i2_sub, i2_mul, i2_neg, Int.reduceAdd, Int.reduceSub, Int.reduceMul, Int.reduceNeg, Int.reduceLT, Int.reduceLE, Int.reduceEq, i2_le, i2_lt, i2_eq, uA_self, uA_ne, tf_0, not_true_eq_false, not_false_eq_true, d_cnt h c, d_gk h, e, if_false, hp, k9]
    · rw [q] at hp ⊢
      simp -dsimp (disch := omega) only [fX0_mateOf_L2, ↓B1_bp, ↓B2_bp, BP_some, BQ_some, ↓reduceIte, L_0, L_1, L_2, L_3, L_4, L_5, L_6, L_7, L_8, L_9, L_10, L_11, L_12, L_13, L_54, L_14, L_99, L_20, L_30, L_31, L_60, L_19, i2_add, i2_sub, i2_mul, i2_neg, Int.reduceAdd, Int.reduceSub, Int.reduceMul, Int.reduceNeg, Int.reduceLT, Int.reduceLE, Int.reduceEq, i2_le, i2_lt, i2_eq, uA_self, uA_ne, tf_0, not_true_eq_false, not_false_eq_true, d_cnt h c, d_gk h, e, if_false, hp]
theorem c_mateOf (h : LayD M B) (c : CR M B A) (g : GA A) {k : Int} (k0 : 0 ≤ k) (k1 : k < A 0) : fX0_mateOf M B (i2 k) = some (i2 (mateA A k)) := by
  have g0 := g.1
  exact c_mateOf_L h c g k0 k1 (A 0).toNat FL 0 (by show _ < 4096; omega) (by decide) (by omega)
end GOODC
