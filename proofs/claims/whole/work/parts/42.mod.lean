/-! THE REFERENCE, by Int: its row s is the cell 165, the rows kept, aside and fresh are 166, 167, 168 -/
theorem gk_m {M : Mm} (h : LayM M) : gk M 164 15 = some () := if_pos h.1.1
theorem rdm0 {M : Mm} (h : LayM M) : rdN M 164 15 0 = some 165 := by unfold rdN; rw [if_pos h.1.1]; exact h.1.2.1
theorem rdm1 {M : Mm} (h : LayM M) : rdN M 164 15 1 = some 166 := by unfold rdN; rw [if_pos h.1.1]; exact h.1.2.2.1
theorem rdm2 {M : Mm} (h : LayM M) : rdN M 164 15 2 = some 167 := by unfold rdN; rw [if_pos h.1.1]; exact h.1.2.2.2.1
theorem rdm3 {M : Mm} (h : LayM M) : rdN M 164 15 3 = some 168 := by unfold rdN; rw [if_pos h.1.1]; exact h.1.2.2.2.2.1
theorem ar_s {M : Mm} (h : LayM M) : Ar M 165 158 := h.2.1 165 (by decide) (by decide)
theorem ar_k {M : Mm} (h : LayM M) : Ar M 166 158 := h.2.1 166 (by decide) (by decide)
theorem ar_a {M : Mm} (h : LayM M) : Ar M 167 158 := h.2.1 167 (by decide) (by decide)
theorem ar_f {M : Mm} (h : LayM M) : Ar M 168 158 := h.2.1 168 (by decide) (by decide)
theorem m_in (M : Mm) {a b c : Int} (h1 : -9223372036854775808 ≤ a) (h2 : a < 9223372036854775808) (h3 : -9223372036854775808 ≤ b) (h4 : b < 9223372036854775808) (h5 : -9223372036854775808 ≤ c) (h6 : c < 9223372036854775808) : fX12_in M (j2 a) (j2 b) (j2 c) = some (i2 (tf (b ≤ a ∧ a ≤ c))) := by
  have e1 : (lg_cmp (j2 a) (j2 b) < 0) = (a < b) := by
    unfold lg_cmp
    simp only [GT.gt, j2_lt h3 h4 h1 h2, j2_eq h1 h2 h3 h4]
    by_cases q1 : b < a
    · rw [if_pos q1]; simp; omega
    · rw [if_neg q1]
      by_cases q2 : a = b
      · rw [if_pos q2]; simp; omega
      · rw [if_neg q2]; simp; omega
  have e2 : (0 < lg_cmp (j2 a) (j2 c)) = (c < a) := by
    unfold lg_cmp
    simp only [GT.gt, j2_lt h5 h6 h1 h2, j2_eq h1 h2 h5 h6]
    by_cases q1 : c < a
    · rw [if_pos q1]; simp [q1]
    · rw [if_neg q1]
      by_cases q2 : a = c
      · rw [if_pos q2]; simp; omega
      · rw [if_neg q2]; simp; omega
  unfold fX12_in
  simp only [e1, e2]
  by_cases q : b ≤ a ∧ a ≤ c
  · rw [tf_t q, if_neg (by omega), if_neg (by omega)]; rfl
  · rw [tf_f q]
    by_cases q1 : a < b
    · rw [if_pos q1]; rfl
    · rw [if_neg q1, if_pos (by omega)]; rfl
section MOD
variable {M : Mm} {A : Int → Int}
def its (A : Int → Int) (k j : Int) : Int := A (54 + 13 * k + j)
theorem m_its (h : LayM M) {k w : Int} (k0 : 0 ≤ k) (k8 : k < 8) (w0 : 0 ≤ w) (w13 : w < 13) : fX12_its (M.row 165 A) 164 (i2 k) (i2 w) = some (i2 (its A k w)) := by
  unfold fX12_its
  simp (disch := omega) only [B1_some, B2_some, gk_row, rdN_row, alN_row, alN__row, gk_m h, rdm0 h, rdm1 h, rdm2 h, rdm3 h, i2_add, i2_sub, i2_mul, i2_neg, alI_row (ar_s h), asI_row (ar_s h), L_54, L_13, its]
theorem m_sets (h : LayM M) {k w v : Int} (k0 : 0 ≤ k) (k8 : k < 8) (w0 : 0 ≤ w) (w13 : w < 13) : fX12_sets (M.row 165 A) 164 (i2 k) (i2 w) (i2 v) = some (M.row 165 (uA A (54 + 13 * k + w) v)) := by
  unfold fX12_sets
  simp (disch := omega) only [B1_some, B2_some, gk_row, rdN_row, alN_row, alN__row, gk_m h, rdm0 h, rdm1 h, rdm2 h, rdm3 h, i2_add, i2_sub, i2_mul, i2_neg, alI_row (ar_s h), asI_row (ar_s h), L_54, L_13]
theorem m_hasLadder (h : LayM M) {k : Int} (k0 : 0 ≤ k) (k8 : k < 8) (b : -2147483648 ≤ its A k 6 ∧ its A k 6 < 2147483648) : fX12_hasLadder (M.row 165 A) 164 (i2 k) = some (i2 (tf (0 ≤ its A k 6))) := by
  unfold fX12_hasLadder
  simp (disch := omega) only [B1_some, B2_some, gk_row, rdN_row, alN_row, alN__row, gk_m h, rdm0 h, rdm1 h, rdm2 h, rdm3 h, L_0, L_1, L_2, L_3, L_4, L_5, L_6, L_7, L_8, L_9, L_10, L_11, L_12, L_13, L_54, L_14, L_99, L_20, L_30, L_31, L_60, L_19, m_its h, i2_lt, tf_ifn, Int.not_lt]
end MOD
