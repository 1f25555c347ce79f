/-! sums over all stockings -/
def laF (A : Int → Int) : Nat → Int → Int
  | 0, _ => 0
  | d + 1, i => tf (0 ≤ stA A i 6) + laF A d (i + 1)
def dbF (A : Int → Int) : Nat → Int → Int
  | 0, _ => 0
  | d + 1, i => stA A i 8 + dbF A d (i + 1)
def gdF (A : Int → Int) : Nat → Int → Int32 → Int32
  | 0, _, s => s
  | d + 1, i, s => gdF A d (i + 1) (if goI A i = 1 then s ||| (i2 1 <<< (i2 i &&& (31 : Int32))) else s)
theorem or_0 (s : Int32) : s ||| 0 = s := by simp
/-- the component's own cell -/
theorem t_now {M : Mm} (h : LayC M) : rdN M 0 14 0 = some 1 := by unfold rdN; rw [if_pos h.1.1]; exact h.1.2.1
theorem t_kept {M : Mm} (h : LayC M) : rdN M 0 14 1 = some 36 := by unfold rdN; rw [if_pos h.1.1]; exact h.1.2.2.1
theorem t_tried {M : Mm} (h : LayC M) : rdN M 0 14 3 = some 71 := by unfold rdN; rw [if_pos h.1.1]; exact h.1.2.2.2.1
theorem t_begun {M : Mm} (h : LayC M) : rdN M 0 14 4 = some 106 := by unfold rdN; rw [if_pos h.1.1]; exact h.1.2.2.2.2.1
theorem t_tape {M : Mm} (h : LayC M) : rdN M 0 14 5 = some 109 := by unfold rdN; rw [if_pos h.1.1]; exact h.1.2.2.2.2.2.1
theorem t_gk {M : Mm} (h : LayC M) : gk M 0 14 = some () := if_pos h.1.1
theorem t_d1 {M : Mm} (h : LayC M) : LayD M 1 := h.2.1
theorem t_d36 {M : Mm} (h : LayC M) : LayD M 36 := h.2.2.1
theorem t_d71 {M : Mm} (h : LayC M) : LayD M 71 := h.2.2.2.1
theorem t_d111 {M : Mm} (h : LayC M) : LayD M 111 := h.2.2.2.2.1
section SUMM
variable {M : Mm} {A : Int → Int}
theorem m_ladders_L (h : LayM M) (g : GA A) : ∀ (d N : Nat) (i : Int) (s : Int), d < N → 0 ≤ i → i + d = A 0 → fX12_ladders_L4 (M.row 165 A) 164 N (i2 s) (i2 i) = some (i2 (s + laF A d i)) := by
  have g0 := g.1
  intro d
  induction d with
  | zero =>
    intro N i s hN i0 hi
    obtain ⟨N, rfl⟩ : ∃ k, N = k + 1 := ⟨N - 1, by omega⟩
    have e : A 0 ≤ i := by omega
    simp -dsimp (disch := omega) only [fX12_ladders_L4, ↓B1_bp, ↓B2_bp, BP_some, BQ_some, ↓reduceIte, gk_row, rdN_row, alN_row, alN__row, gk_m h, rdm0 h, rdm1 h, rdm2 h, rdm3 h, L_0, L_1, L_2, L_3, L_4, L_5, L_6, L_7, L_8, L_9, L_10, L_11, L_12, L_13, L_54, L_14, L_99, L_20, L_30, L_31, L_60, L_19, i2_add, i2_sub, i2_mul, i2_neg, Int.reduceAdd, Int.reduceSub, Int.reduceMul, Int.reduceNeg, Int.reduceLT, Int.reduceLE, Int.reduceEq, m_al h, i2_le, i2_lt, i2_eq, e, if_true]
    rw [show s + laF A 0 i = s from Int.add_zero s]
  | succ d ih =>
    intro N i s hN i0 hi
    obtain ⟨N, rfl⟩ : ∃ k, N = k + 1 := ⟨N - 1, by omega⟩
    have e : ¬ A 0 ≤ i := by omega
    have hl := m_hasL (A := A) h g i0 (show i < A 0 by omega)
    have k := ih N (i + 1) (s + tf (0 ≤ stA A i 6)) (by omega) (by omega) (by omega)
    show _ = some (i2 (s + (tf (0 ≤ stA A i 6) + laF A d (i + 1))))
    rw [← Int.add_assoc]
    by_cases q : 0 ≤ stA A i 6
    · rw [tf_t q] at k hl ⊢
      simp -dsimp (disch := omega) only [fX12_ladders_L4, ↓B1_bp, ↓B2_bp, BP_some, BQ_some, ↓reduceIte, gk_row, rdN_row, alN_row, alN__row, gk_m h, rdm0 h, rdm1 h, rdm2 h, rdm3 h, L_0, L_1, L_2, L_3, L_4, L_5, L_6, L_7, L_8, L_9, L_10, L_11, L_12, L_13, L_54, L_14, L_99, L_20, L_30, L_31, L_60, L_19, i2_add, i2_sub, i2_mul, i2_neg, Int.reduceAdd, Int.reduceSub, Int.reduceMul, Int.reduceNeg, Int.reduceLT, Int.reduceLE, Int.reduceEq, m_al h, i2_le, i2_lt, i2_eq, e, if_false, hl, k]
    · rw [tf_f q] at k hl ⊢
      simp -dsimp (disch := omega) only [fX12_ladders_L4, ↓B1_bp, ↓B2_bp, BP_some, BQ_some, ↓reduceIte, gk_row, rdN_row, alN_row, alN__row, gk_m h, rdm0 h, rdm1 h, rdm2 h, rdm3 h, L_0, L_1, L_2, L_3, L_4, L_5, L_6, L_7, L_8, L_9, L_10, L_11, L_12, L_13, L_54, L_14, L_99, L_20, L_30, L_31, L_60, L_19, i2_add, i2_sub, i2_mul, i2_neg, Int.reduceAdd, Int.reduceSub, Int.reduceMul, Int.reduceNeg, Int.reduceLT, Int.reduceLE, Int.reduceEq, m_al h, i2_le, i2_lt, i2_eq, e, if_false, hl, k]
theorem m_dabs_L (h : LayM M) (g : GA A) : ∀ (d N : Nat) (i : Int) (s : Int), d < N → 0 ≤ i → i + d = A 0 → fX12_allDabs_L4 (M.row 165 A) 164 N (i2 s) (i2 i) = some (i2 (s + dbF A d i)) := by
  have g0 := g.1
  intro d
  induction d with
  | zero =>
    intro N i s hN i0 hi
    obtain ⟨N, rfl⟩ : ∃ k, N = k + 1 := ⟨N - 1, by omega⟩
    have e : A 0 ≤ i := by omega
    simp -dsimp (disch := omega) only [fX12_allDabs_L4, ↓B1_bp, ↓B2_bp, BP_some, BQ_some, ↓reduceIte, gk_row, rdN_row, alN_row, alN__row, gk_m h, rdm0 h, rdm1 h, rdm2 h, rdm3 h, L_0, L_1, L_2, L_3, L_4, L_5, L_6, L_7, L_8, L_9, L_10, L_11, L_12, L_13, L_54, L_14, L_99, L_20, L_30, L_31, L_60, L_19, i2_add, i2_sub, i2_mul, i2_neg, Int.reduceAdd, Int.reduceSub, Int.reduceMul, Int.reduceNeg, Int.reduceLT, Int.reduceLE, Int.reduceEq, m_al h, i2_le, i2_lt, i2_eq, e, if_true]
    rw [show s + dbF A 0 i = s from Int.add_zero s]
  | succ d ih =>
    intro N i s hN i0 hi
    obtain ⟨N, rfl⟩ : ∃ k, N = k + 1 := ⟨N - 1, by omega⟩
    have e : ¬ A 0 ≤ i := by omega
    have k := ih N (i + 1) (s + stA A i 8) (by omega) (by omega) (by omega)
    show _ = some (i2 (s + (stA A i 8 + dbF A d (i + 1))))
    rw [← Int.add_assoc]
    simp -dsimp (disch := omega) only [fX12_allDabs_L4, ↓B1_bp, ↓B2_bp, BP_some, BQ_some, ↓reduceIte, gk_row, rdN_row, alN_row, alN__row, gk_m h, rdm0 h, rdm1 h, rdm2 h, rdm3 h, L_0, L_1, L_2, L_3, L_4, L_5, L_6, L_7, L_8, L_9, L_10, L_11, L_12, L_13, L_54, L_14, L_99, L_20, L_30, L_31, L_60, L_19, i2_add, i2_sub, i2_mul, i2_neg, Int.reduceAdd, Int.reduceSub, Int.reduceMul, Int.reduceNeg, Int.reduceLT, Int.reduceLE, Int.reduceEq, m_al h, i2_le, i2_lt, i2_eq, e, if_false, m_st h, k]
theorem m_good_L (h : LayM M) (g : GA A) : ∀ (d N : Nat) (i : Int) (s : Int32), d < N → 0 ≤ i → i + d = A 0 → fX12_good_L4 (M.row 165 A) 164 N s (i2 i) = some (gdF A d i s) := by
  have g0 := g.1
  intro d
  induction d with
  | zero =>
    intro N i s hN i0 hi
    obtain ⟨N, rfl⟩ : ∃ k, N = k + 1 := ⟨N - 1, by omega⟩
    have e : A 0 ≤ i := by omega
    simp -dsimp (disch := omega) only [fX12_good_L4, ↓B1_bp, ↓B2_bp, BP_some, BQ_some, ↓reduceIte, gk_row, rdN_row, alN_row, alN__row, gk_m h, rdm0 h, rdm1 h, rdm2 h, rdm3 h, L_0, L_1, L_2, L_3, L_4, L_5, L_6, L_7, L_8, L_9, L_10, L_11, L_12, L_13, L_54, L_14, L_99, L_20, L_30, L_31, L_60, L_19, i2_add, i2_sub, i2_mul, i2_neg, Int.reduceAdd, Int.reduceSub, Int.reduceMul, Int.reduceNeg, Int.reduceLT, Int.reduceLE, Int.reduceEq, m_al h, i2_le, i2_lt, i2_eq, e, if_true]
    rfl
  | succ d ih =>
    intro N i s hN i0 hi
    obtain ⟨N, rfl⟩ : ∃ k, N = k + 1 := ⟨N - 1, by omega⟩
    have e : ¬ A 0 ≤ i := by omega
    have hl := m_isGood (A := A) h g i0 (show i < A 0 by omega)
    rcases goI_01 A i with q | q
    · have k := ih N (i + 1) s (by omega) (by omega) (by omega)
      show _ = some (gdF A d (i + 1) (if goI A i = 1 then s ||| (i2 1 <<< (i2 i &&& (31 : Int32))) else s))
      rw [q] at hl ⊢
      rw [if_neg (by decide)]
      have u : fX12_good_L4 (M.row 165 A) 164 (N + 1) s (i2 i) = B1 (rdN (M.row 165 A) 164 15 0) fun a => B1 (alI (M.row 165 A) a 0) fun x => if x ≤ i2 i then some s else B1 (gk (M.row 165 A) 164 15) fun _ => B1 (fX12_isGood (M.row 165 A) 164 (i2 i)) fun y => if y = 0 then fX12_good_L4 (M.row 165 A) 164 N (s ||| 0) (i2 i + 1) else fX12_good_L4 (M.row 165 A) 164 N (s ||| (1 <<< (i2 i &&& 31))) (i2 i + 1) := rfl
      rw [u, or_0]
      simp -dsimp (disch := omega) only [↓B1_bp, ↓B2_bp, BP_some, BQ_some, ↓reduceIte, gk_row, rdN_row, alN_row, alN__row, gk_m h, rdm0 h, rdm1 h, rdm2 h, rdm3 h, L_0, L_1, L_2, L_3, L_4, L_5, L_6, L_7, L_8, L_9, L_10, L_11, L_12, L_13, L_54, L_14, L_99, L_20, L_30, L_31, L_60, L_19, i2_add, i2_sub, i2_mul, i2_neg, Int.reduceAdd, Int.reduceSub, Int.reduceMul, Int.reduceNeg, Int.reduceLT, Int.reduceLE, Int.reduceEq, m_al h, i2_le, i2_lt, i2_eq, e, if_false, hl, k]
    · have k := ih N (i + 1) (s ||| (i2 1 <<< (i2 i &&& (31 : Int32)))) (by omega) (by omega) (by omega)
      show _ = some (gdF A d (i + 1) (if goI A i = 1 then s ||| (i2 1 <<< (i2 i &&& (31 : Int32))) else s))
      rw [q] at hl ⊢
      rw [if_pos rfl]
      rw [L_31] at k ⊢
      simp -dsimp (disch := omega) only [fX12_good_L4, ↓B1_bp, ↓B2_bp, BP_some, BQ_some, ↓reduceIte, gk_row, rdN_row, alN_row, alN__row, gk_m h, rdm0 h, rdm1 h, rdm2 h, rdm3 h, L_0, L_1, L_2, L_3, L_4, L_5, L_6, L_7, L_8, L_9, L_10, L_11, L_12, L_13, L_54, L_14, L_99, L_20, L_30, L_31, L_60, L_19, i2_add, i2_sub, i2_mul, i2_neg, Int.reduceAdd, Int.reduceSub, Int.reduceMul, Int.reduceNeg, Int.reduceLT, Int.reduceLE, Int.reduceEq, m_al h, i2_le, i2_lt, i2_eq, e, if_false, hl, k]
end SUMM
section SUMC
variable {M : Mm} {B : Nat} {A : Int → Int}
theorem c_ladders_L (h : LayD M B) (c : CR M B A) (g : GA A) : ∀ (d N : Nat) (i : Int) (s : Int), d < N → 0 ≤ i → i + d = A 0 → fX0_ladders_L4 M B N (i2 s) (i2 i) = some (i2 (s + laF A d i)) := by
  have g0 := g.1
  intro d
  induction d with
  | zero =>
    intro N i s hN i0 hi
    obtain ⟨N, rfl⟩ : ∃ k, N = k + 1 := ⟨N - 1, by omega⟩
    have e : A 0 ≤ i := by omega
    simp -dsimp (disch := omega) only [fX0_ladders_L4, ↓B1_bp, ↓B2_bp, BP_some, BQ_some, ↓reduceIte, L_0, L_1, L_2, L_3, L_4, L_5, L_6, L_7, L_8, L_9, L_10, L_11, L_12, L_13, L_54, L_14, L_99, L_20, L_30, L_31, L_60, L_19, i2_add, i2_sub, i2_mul, i2_neg, Int.reduceAdd, Int.reduceSub, Int.reduceMul, Int.reduceNeg, Int.reduceLT, Int.reduceLE, Int.reduceEq, i2_le, i2_lt, i2_eq, uA_self, uA_ne, tf_0, not_true_eq_false, not_false_eq_true, d_cnt h c, e, if_true]
    rw [show s + laF A 0 i = s from Int.add_zero s]
  | succ d ih =>
    intro N i s hN i0 hi
    obtain ⟨N, rfl⟩ : ∃ k, N = k + 1 := ⟨N - 1, by omega⟩
    have e : ¬ A 0 ≤ i := by omega
    have hl := d_hasLadder h c g (k := i.toNat) (by omega)
    have gk1 := d_gk10 h (k := i.toNat) (by omega)
    rw [show ((i.toNat : Nat) : Int) = i by omega] at hl
    have k := ih N (i + 1) (s + tf (0 ≤ stA A i 6)) (by omega) (by omega) (by omega)
    show _ = some (i2 (s + (tf (0 ≤ stA A i 6) + laF A d (i + 1))))
    rw [← Int.add_assoc]
    by_cases q : 0 ≤ stA A i 6
    · rw [tf_t q] at k hl ⊢
      simp -dsimp (disch := omega) only [fX0_ladders_L4, ↓B1_bp, ↓B2_bp, BP_some, BQ_some, ↓reduceIte, L_0, L_1, L_2, L_3, L_4, L_5, L_6, L_7, L_8, L_9, L_10, L_11, L_12, L_13, L_54, L_14, L_99, L_20, L_30, L_31, L_60, L_19, i2_add, i2_sub, i2_mul, i2_neg, Int.reduceAdd, Int.reduceSub, Int.reduceMul, Int.reduceNeg, Int.reduceLT, Int.reduceLE, Int.reduceEq, i2_le, i2_lt, i2_eq, uA_self, uA_ne, tf_0, not_true_eq_false, not_false_eq_true, d_cnt h c, e, if_false, d_sts h, d_st h, gk1, hl, k]
    · rw [tf_f q] at k hl ⊢
      simp -dsimp (disch := omega) only [fX0_ladders_L4, ↓B1_bp, ↓B2_bp, BP_some, BQ_some, ↓reduceIte, L_0, L_1, L_2, L_3, L_4, L_5, L_6, L_7, L_8, L_9, L_10, L_11, L_12, L_13, L_54, L_14, L_99, L_20, L_30, L_31, L_60, L_19, i2_add, i2_sub, i2_mul, i2_neg, Int.reduceAdd, Int.reduceSub, Int.reduceMul, Int.reduceNeg, Int.reduceLT, Int.reduceLE, Int.reduceEq, i2_le, i2_lt, i2_eq, uA_self, uA_ne, tf_0, not_true_eq_false, not_false_eq_true, d_cnt h c, e, if_false, d_sts h, d_st h, gk1, hl, k]
theorem c_dabs_L (h : LayD M B) (c : CR M B A) (g : GA A) : ∀ (d N : Nat) (i : Int) (s : Int), d < N → 0 ≤ i → i + d = A 0 → fX0_dabsOfAll_L4 M B N (i2 s) (i2 i) = some (i2 (s + dbF A d i)) := by
  have g0 := g.1
  intro d
  induction d with
  | zero =>
    intro N i s hN i0 hi
    obtain ⟨N, rfl⟩ : ∃ k, N = k + 1 := ⟨N - 1, by omega⟩
    have e : A 0 ≤ i := by omega
    simp -dsimp (disch := omega) only [fX0_dabsOfAll_L4, ↓B1_bp, ↓B2_bp, BP_some, BQ_some, ↓reduceIte, L_0, L_1, L_2, L_3, L_4, L_5, L_6, L_7, L_8, L_9, L_10, L_11, L_12, L_13, L_54, L_14, L_99, L_20, L_30, L_31, L_60, L_19, i2_add, i2_sub, i2_mul, i2_neg, Int.reduceAdd, Int.reduceSub, Int.reduceMul, Int.reduceNeg, Int.reduceLT, Int.reduceLE, Int.reduceEq, i2_le, i2_lt, i2_eq, uA_self, uA_ne, tf_0, not_true_eq_false, not_false_eq_true, d_cnt h c, e, if_true]
    rw [show s + dbF A 0 i = s from Int.add_zero s]
  | succ d ih =>
    intro N i s hN i0 hi
    obtain ⟨N, rfl⟩ : ∃ k, N = k + 1 := ⟨N - 1, by omega⟩
    have e : ¬ A 0 ≤ i := by omega
    have hl : rdI M (B + 11 + 3 * i.toNat) 10 8 = some (i2 (stA A i 8)) := by
      have r8 := (c.2.2.2.2 i.toNat (by omega)).2.2.1
      rw [show ((i.toNat : Nat) : Int) = i by omega] at r8
      rw [g_rdI (d_lay h (k := i.toNat) (by omega)).1, ← r8]
      rfl
    have k := ih N (i + 1) (s + stA A i 8) (by omega) (by omega) (by omega)
    show _ = some (i2 (s + (stA A i 8 + dbF A d (i + 1))))
    rw [← Int.add_assoc]
    simp -dsimp (disch := omega) only [fX0_dabsOfAll_L4, ↓B1_bp, ↓B2_bp, BP_some, BQ_some, ↓reduceIte, L_0, L_1, L_2, L_3, L_4, L_5, L_6, L_7, L_8, L_9, L_10, L_11, L_12, L_13, L_54, L_14, L_99, L_20, L_30, L_31, L_60, L_19, i2_add, i2_sub, i2_mul, i2_neg, Int.reduceAdd, Int.reduceSub, Int.reduceMul, Int.reduceNeg, Int.reduceLT, Int.reduceLE, Int.reduceEq, i2_le, i2_lt, i2_eq, uA_self, uA_ne, tf_0, not_true_eq_false, not_false_eq_true, d_cnt h c, e, if_false, d_sts h, d_st h, hl, k]
end SUMC
