/-! one row becomes another -/
def mx (P Q : Int → Int) (n : Int) : Int → Int := fun y => if 0 ≤ y ∧ y < n then P y else Q y
theorem mx_at {P Q : Int → Int} {n y : Int} (h0 : 0 ≤ y) (h1 : y < n) : mx P Q n y = P y := if_pos ⟨h0, h1⟩
theorem mx_uA {P Q : Int → Int} {n : Int} (h : 0 ≤ n) : uA (mx P Q n) n (P n) = mx P Q (n + 1) := by
  funext y
  unfold uA mx
  by_cases e : y = n
  · rw [if_pos e, if_pos (by omega), e]
  · rw [if_neg e]
    by_cases e2 : 0 ≤ y ∧ y < n
    · rw [if_pos e2, if_pos (by omega)]
    · rw [if_neg e2, if_neg (by omega)]
theorem mx_0 (P Q : Int → Int) : mx P Q 0 = Q := by
  funext y
  unfold mx
  rw [if_neg (by omega)]
section BEC
variable {M : Mm} {A : Int → Int}
theorem m_become_L {p q : Nat} {P Q : Int → Int} (hq : Ar M q 158) (hp : ∀ i : Int, 0 ≤ i → i < 158 → alI M p (i2 i) = some (i2 (P i))) (ne : p ≠ q) : ∀ (d N : Nat) (i : Int), d < N → 0 ≤ i → i + d = 158 → fX12_become_L2 p q N (i2 i) (M.row q (mx P Q i)) = some (M.row q (mx P Q 158)) := by
  intro d
  induction d with
  | zero =>
    intro N i hN i0 hi
    obtain ⟨N, rfl⟩ : ∃ k, N = k + 1 := ⟨N - 1, by omega⟩
    have e : i = 158 := by omega
    subst e
    show (if (158 : Int32) ≤ i2 158 then _ else _) = _
    rw [if_pos (by decide +kernel)]
  | succ d ih =>
    intro N i hN i0 hi
    obtain ⟨N, rfl⟩ : ∃ k, N = k + 1 := ⟨N - 1, by omega⟩
    have u : ∀ (K : Nat) (v : Int32) (M : Mm), fX12_become_L2 p q (K + 1) v M = if 158 ≤ v then some M else B1 (alI M p v) fun x => B1 (asI M q v x) fun M' => fX12_become_L2 p q K (v + 1) M' := fun _ _ _ => rfl
    have hn : ¬ ((158 : Int32) ≤ i2 i) := by
      rw [show (158 : Int32) = i2 158 by decide +kernel, i2_le (by decide) (by decide) (by omega) (by omega)]
      omega
    rw [u, if_neg hn, alI_ne ne, hp i i0 (by omega), B1_some, asI_row hq i0 (by omega) (by omega), B1_some, mx_uA i0, show i2 i + 1 = i2 (i + 1) by rw [show (1 : Int32) = i2 1 from L_1, i2_add]]
    exact ih N (i + 1) (by omega) (by omega) (by omega)
theorem m_become {p q : Nat} {P Q : Int → Int} (hq : Ar M q 158) (hp : ∀ i : Int, 0 ≤ i → i < 158 → alI M p (i2 i) = some (i2 (P i))) (ne : p ≠ q) : fX12_become (M.row q Q) p q = some (M.row q (mx P Q 158)) := by
  have k := m_become_L (Q := Q) hq hp ne 158 FL 0 (by decide) (by decide) (by decide)
  rw [mx_0] at k
  exact k
theorem m_lends (h : LayM M) : fX12_lends (M.row 165 A) 164 = some ((M.row 167 (mx A (gI M 167) 158)).row 165 A) := by
  have e : M.row 165 A = (M.row 165 A).row 167 (gI M 167) := by
    rw [row_comm _ _ (by decide), row_gI]
  have k := m_become (M := M.row 165 A) (p := 165) (q := 167) (P := A) (Q := gI M 167) (ar_a h) (fun i a b => m_al h a b) (by decide)
  rw [← e] at k
  unfold fX12_lends
  simp -dsimp (disch := omega) only [↓B1_bp, ↓B2_bp, BP_some, BQ_some, ↓reduceIte, gk_row, rdN_row, alN_row, alN__row, gk_m h, rdm0 h, rdm1 h, rdm2 h, rdm3 h, k]
  rw [row_comm _ _ (by decide)]
theorem m_laysBack (h : LayM M) {X A : Int → Int} : fX12_laysBack ((M.row 167 X).row 165 A) 164 = some ((M.row 167 X).row 165 (mx X A 158)) := by
  have hp : ∀ i : Int, 0 ≤ i → i < 158 → alI (M.row 167 X) 167 (i2 i) = some (i2 (X i)) := fun i a b => alI_row (ar_a h) a (by omega) (by omega)
  have k := m_become (M := M.row 167 X) (p := 167) (q := 165) (P := X) (Q := A) (ar_s h) hp (by decide)
  unfold fX12_laysBack
  simp -dsimp (disch := omega) only [↓B1_bp, ↓B2_bp, BP_some, BQ_some, ↓reduceIte, gk_row, rdN_row, alN_row, alN__row, gk_m h, rdm0 h, rdm1 h, rdm2 h, rdm3 h, k]
/-- two rows are one as far as the reference's cells reach -/
def E158 (A A' : Int → Int) : Prop := ∀ y : Int, 0 ≤ y → y < 158 → A y = A' y
theorem GS.e {S S' : Int → Int} (h : E13 S' S) (g : GS S) : GS S' := g.cgS h
theorem E158.st {A A' : Int → Int} (h : E158 A' A) {k : Int} (k0 : 0 ≤ k) (k8 : k < 8) : E13 (stA A' k) (stA A k) := fun j a b => h _ (by omega) (by omega)
theorem GA.e {A A' : Int → Int} (h : E158 A' A) (g : GA A) : GA A' := by
  have e : ∀ y : Int, 0 ≤ y → y < 158 → A' y = A y := h
  obtain ⟨g0, g1, g2, g3, g4, g5, g6, g7⟩ := g
  refine ⟨?_, ?_, ?_, ?_, ?_, ?_, fun w w0 w1 => ?_, fun q q0 q1 => ?_⟩
  · rw [e 0 (by decide) (by decide)]; exact g0
  · rw [e 1 (by decide) (by decide)]; exact g1
  · rw [e 0 (by decide) (by decide), e 2 (by decide) (by decide)]; exact g2
  · rw [e 0 (by decide) (by decide), e 3 (by decide) (by decide)]; exact g3
  · rw [e 2 (by decide) (by decide), e 3 (by decide) (by decide)]; exact g4
  · unfold GL lwA at g5 ⊢
    rw [e _ (by decide) (by decide), e _ (by decide) (by decide), e _ (by decide) (by decide), e _ (by decide) (by decide), e _ (by decide) (by decide), e _ (by decide) (by decide), e _ (by decide) (by decide), e _ (by decide) (by decide)]
    exact g5
  · have hc := g6 w w0 w1
    rw [e _ (by omega) (by omega)]
    refine ⟨hc.1, fun i i0 i1 => ?_⟩
    rw [e _ (by omega) (by omega), e _ (by omega) (by omega)]
    exact hc.2 i i0 i1
  · rw [e 0 (by decide) (by decide)] at q1
    exact (g7 q q0 q1).e (E158.st h q0 (by omega))
theorem CR.e {M : Mm} {B : Nat} {A A' : Int → Int} (h : E158 A' A) (g : GA A) (c : CR M B A) : CR M B A' := by
  have e : ∀ y : Int, 0 ≤ y → y < 158 → A' y = A y := h
  obtain ⟨h1, h2, h3, h4, h5⟩ := c
  have g0 := g.1
  refine ⟨fun j a b => ?_, ?_, ?_, fun w hw => ?_, fun k hk => ?_⟩
  · rw [e _ (by omega) (by omega)]; exact h1 j a b
  · rw [e 0 (by decide) (by decide), e 1 (by decide) (by decide)]; exact h2
  · rw [e 2 (by decide) (by decide), e 3 (by decide) (by decide)]; exact h3
  · have hc := (g.2.2.2.2.2.2.1 w (by omega) (by omega)).1
    rw [e _ (by omega) (by omega)]
    refine ⟨(h4 w hw).1, fun i i0 i1 => ?_⟩
    rw [e _ (by omega) (by omega), e _ (by omega) (by omega)]
    exact (h4 w hw).2 i i0 i1
  · rw [e 0 (by decide) (by decide)] at hk
    exact (h5 k hk).cgS (E158.st h (by omega) (by omega))
end BEC
