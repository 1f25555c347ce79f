section OPS6
variable {M : Mm} {A : Int → Int}
theorem CR.seed {B : Nat} {v : Int} (g : GA A) (c : CR M B A) (v0 : -2147483648 ≤ v) (v1 : v < 2147483648) : CR (M.row B (uA (gI M B) 5 v)) B (uA A 1 v) := by
  have s1 := Same.row M B (uA (gI M B) 5 v)
  have el : ∀ y : Int, y ≠ 1 → uA A 1 v y = A y := fun y hy => uA_ne hy
  have e : ∀ p, p ≠ B → gI (M.row B (uA (gI M B) 5 v)) p = gI M p := fun p hp => gI_ne _ hp
  obtain ⟨h1, h2, h3, h4, h5⟩ := c
  refine ⟨fun j a b => ?_, ⟨?_, ?_⟩, ?_, fun w hw => ?_, fun k hk => ?_⟩
  · rw [e _ (by omega), el _ (by omega)]; exact h1 j a b
  · rw [gI_u_ne (by decide) (by decide), el _ (by decide)]; exact h2.1
  · rw [gI_u (by decide) v0 v1, uA_self]
  · rw [e _ (by omega), el _ (by decide), el _ (by decide)]; exact h3
  · rw [e _ (by omega), e _ (by omega), e _ (by omega), el _ (by omega)]
    refine ⟨(h4 w hw).1, fun i i0 i1 => ?_⟩
    rw [el _ (by omega), el _ (by omega)]
    exact (h4 w hw).2 i i0 i1
  · rw [el _ (by decide)] at hk
    exact ((h5 k hk).same (s1.2 _ (by omega)) (s1.2 _ (by omega)) (s1.2 _ (by omega))).cgS fun j a b => el _ (by omega)
theorem GA.seed {v : Int} (g : GA A) (v0 : -2147483648 ≤ v) (v1 : v < 2147483648) : GA (uA A 1 v) := by
  have el : ∀ y : Int, y ≠ 1 → uA A 1 v y = A y := fun y hy => uA_ne hy
  obtain ⟨g0, g1, g2, g3, g4, g5, g6, g7⟩ := g
  refine ⟨?_, ?_, ?_, ?_, ?_, ?_, fun w w0 w1 => ?_, fun q q0 q1 => ?_⟩
  · rw [el _ (by decide)]; exact g0
  · rw [uA_self]; exact ⟨v0, v1⟩
  · rw [el _ (by decide), el _ (by decide)]; exact g2
  · rw [el _ (by decide), el _ (by decide)]; exact g3
  · rw [el _ (by decide), el _ (by decide)]; exact g4
  · exact g5
  · have hc := g6 w w0 w1
    rw [el _ (by omega)]
    refine ⟨hc.1, fun i i0 i1 => ?_⟩
    rw [el _ (by omega), el _ (by omega)]
    exact hc.2 i i0 i1
  · rw [el _ (by decide)] at q1
    exact (g7 q q0 q1).cgS fun j a b => el _ (by omega)
theorem op_seed (h : LayC M) (hm : LayM M) (c : CR M 1 A) (g : GA A) (ha : M.g 165 = rI A) {v : Int} (v0 : -2147483648 ≤ v) (v1 : v < 2147483648) : ∃ r M1 A', fX11_seed M 0 (i2 v) = some (r, M1) ∧ Same M M1 1 36 ∧ fX12_seed M1 164 (i2 v) = some (r, M1.row 165 A') ∧ CR M1 1 A' ∧ GA A' := by
  have w := g_wrI (M := M) (p := 1) (kd := 3) (j := 5) (v := v) (t_d1 h).1.1 (by decide)
  have s1 := Same.row M 1 (uA (gI M 1) 5 v)
  have hm1 : LayM (M.row 1 (uA (gI M 1) 5 v)) := hm
  have e1 : M.row 1 (uA (gI M 1) 5 v) = (M.row 1 (uA (gI M 1) 5 v)).row 165 A := row_of ((s1.2 165 (by decide)).trans ha)
  refine ⟨i2 (A 1), M.row 1 (uA (gI M 1) 5 v), uA A 1 v, ?_, s1.wide (by decide) (by decide), ?_, c.seed g v0 v1, g.seed v0 v1⟩
  · unfold fX11_seed
    simp -dsimp only [↓B1_bp, BP_some, t_now h, d_z (t_d1 h) c]
    rw [show ((5 : Nat) : Int) = 5 from rfl] at w
    simp -dsimp only [↓B1_bp, BP_some, w]
  · generalize M.row 1 (uA (gI M 1) 5 v) = X at e1 hm1
    rw [e1, row_row]
    unfold fX12_seed
    simp -dsimp (disch := omega) only [↓B1_bp, BP_some, rdN_row, rdm0 hm1, L_1, alI_row (ar_s hm1), asI_row (ar_s hm1)]
end OPS6
