section OPD
variable {M : Mm} {A : Int → Int}
theorem m_isOpen (h : LayM M) (g : GA A) {k x : Int} (k0 : 0 ≤ k) (k1 : k < A 0) (x0 : -2147483648 ≤ x) (x1 : x < 2147483648) : fX12_isOpen (M.row 165 A) 164 (i2 k) (i2 x) = some (i2 (tf (0 ≤ stA A k 6 ∧ stA A k 6 ≤ x ∧ x ≤ stA A k 7))) := by
  have g0 := g.1
  have a3 := m_hasL (A := A) h g k0 k1
  obtain ⟨-, -, -, -, -, -, g6, -⟩ := g.2.2.2.2.2.2.2 k k0 k1
  have qq := m_in (M.row 165 A) (a := x) (b := stA A k 6) (c := stA A k 7) (by omega) (by omega) (by omega) (by omega) (by omega) (by omega)
  unfold fX12_isOpen
  by_cases p : 0 ≤ stA A k 6
  · rw [tf_t p] at a3
    by_cases q : stA A k 6 ≤ x ∧ x ≤ stA A k 7
    · rw [tf_t q] at qq
      rw [tf_t ⟨p, q⟩]
      simp -dsimp (disch := omega) only [↓B1_bp, BP_some, ↓reduceIte, gk_row, gk_m h, L_0, L_1, L_6, L_7, i2_eq, Int.reduceEq, a3, m_st h, i2_j2, qq]
    · rw [tf_f q] at qq
      rw [tf_f (fun w => q w.2)]
      simp -dsimp (disch := omega) only [↓B1_bp, BP_some, ↓reduceIte, gk_row, gk_m h, L_0, L_1, L_6, L_7, i2_eq, Int.reduceEq, a3, m_st h, i2_j2, qq]
  · rw [tf_f p] at a3
    rw [tf_f (fun w => p w.1)]
    simp -dsimp (disch := omega) only [↓B1_bp, BP_some, ↓reduceIte, gk_row, gk_m h, L_0, i2_eq, Int.reduceEq, a3]
end OPD
