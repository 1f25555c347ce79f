/-! what is seen of a drawer, on both sides -/
section SEE
variable {M : Mm} {B : Nat} {A : Int → Int}
theorem d_openRungs (h : LayD M B) (c : CR M B A) (g : GA A) {k : Nat} (hk : (k : Int) < A 0) : fX7_openRungs M (B + 11 + 3 * k) = some (i2 (opS (stA A k))) := by
  have e := c_openRungs (d_lay h (k := k) (by have := g.1; omega)) (c.2.2.2.2 k hk) (g.2.2.2.2.2.2.2 k (by omega) hk)
  rwa [st_self] at e
theorem d_hasLadder (h : LayD M B) (c : CR M B A) (g : GA A) {k : Nat} (hk : (k : Int) < A 0) : fX7_hasLadder M (B + 11 + 3 * k) = some (i2 (tf (0 ≤ stA A k 6))) := by
  have e := c_hasLadder (d_lay h (k := k) (by have := g.1; omega)) (c.2.2.2.2 k hk) (g.2.2.2.2.2.2.2 k (by omega) hk)
  rwa [st_self] at e
theorem d_isLasting (h : LayD M B) (c : CR M B A) (g : GA A) {k : Nat} (hk : (k : Int) < A 0) : fX7_isLasting M (B + 11 + 3 * k) = some (i2 (tf (stA A k 4 < stA A k 3))) := by
  have e := c_isLasting (d_lay h (k := k) (by have := g.1; omega)) (c.2.2.2.2 k hk) (g.2.2.2.2.2.2.2 k (by omega) hk)
  rwa [st_self] at e
theorem d_off {B k : Nat} (p : Nat) (h : p < B + 11) : Off p (B + 11 + 3 * k) := by unfold Off; omega
theorem d_openAboveShoe (h : LayD M B) (c : CR M B A) (g : GA A) {k : Nat} (hk : (k : Int) < A 0) : fX7_openAboveShoe M (B + 11 + 3 * k) (B + 1) = some (i2 (baS (lwA A) (stA A k))) := by
  have e := c_openAboveShoe (d_lay h (k := k) (by have := g.1; omega)) (c.2.2.2.2 k hk) (g.2.2.2.2.2.2.2 k (by omega) hk) g.2.2.2.2.2.1 (q := B + 1) (d_off _ (by omega)) (d_law h c)
  rwa [st_self] at e
theorem d_mendingCosts (h : LayD M B) (c : CR M B A) (g : GA A) {k : Nat} (hk : (k : Int) < A 0) : fX7_mendingCosts M (B + 11 + 3 * k) (B + 1) = some (i2 (lwA A 5 * opS (stA A k))) := by
  have e := c_mendingCosts (d_lay h (k := k) (by have := g.1; omega)) (c.2.2.2.2 k hk) (g.2.2.2.2.2.2.2 k (by omega) hk) (q := B + 1) (d_off _ (by omega)) (d_law h c)
  rwa [st_self] at e
theorem d_sideShown (h : LayD M B) (c : CR M B A) (g : GA A) {k : Nat} (hk : (k : Int) < A 0) {foot : Int} (f : foot = 0 ∨ foot = 1) : fX7_sideShown M (B + 11 + 3 * k) (i2 foot) = some (i2 (sdS foot (stA A k))) := by
  have e := c_sideShown (d_lay h (k := k) (by have := g.1; omega)) (c.2.2.2.2 k hk) (g.2.2.2.2.2.2.2 k (by omega) hk) f
  rwa [st_self] at e
theorem d_dabAt (h : LayD M B) (c : CR M B A) (g : GA A) {k : Nat} (hk : (k : Int) < A 0) {x : Int} (x0 : -2147483648 ≤ x) (x1 : x < 2147483648) : fX7_dabAt M (B + 11 + 3 * k) (i2 x) = some (i2 (dabC (stA A k) x)) := by
  have e := c_dabAt (d_lay h (k := k) (by have := g.1; omega)) (c.2.2.2.2 k hk) (g.2.2.2.2.2.2.2 k (by omega) hk) x0 x1
  rwa [st_self] at e
theorem d_gk10 (h : LayD M B) {k : Nat} (k8 : k < 8) : gk M (B + 11 + 3 * k) 10 = some () := if_pos (d_lay h k8).1
def ooA (A : Int → Int) (x : Int) : Int := if 0 ≤ x ∧ x < A 0 then opS (stA A x) else 0
def opOn (A : Int → Int) : Int := ooA A (A 2) + ooA A (A 3)
theorem c_wornOn (h : LayD M B) (c : CR M B A) (g : GA A) {f : Int} (hf : f = 0 ∨ f = 1) : fX0_wornOn M B (i2 f) = some (stAt A B (A (2 + f))) := by
  rcases hf with rfl | rfl
  · exact c_wornOn0 h c g
  · exact c_wornOn1 h c g
theorem c_openTogether (h : LayD M B) (c : CR M B A) (g : GA A) : fX0_openTogether M B = some (i2 (opOn A)) := by
  obtain ⟨N, hN⟩ := FL3
  have u : ∀ (K : Nat) (s v : Int32), fX0_openTogether_L4 M B (K + 1) s v = if 2 ≤ v then some s else B1 (gk M B 3) fun _ => B1 (fX0_wornOn M B v) fun x => NL x (fX0_openTogether_L4 M B K (s + 0) (v + 1)) (fun a => B1 (gk M a 10) fun _ => B1 (fX7_openRungs M a) fun y => fX0_openTogether_L4 M B K (s + y) (v + 1)) := fun _ _ _ => rfl
  have step : ∀ (K : Nat) (s f : Int), (f = 0 ∨ f = 1) → fX0_openTogether_L4 M B (K + 1) (i2 s) (i2 f) = fX0_openTogether_L4 M B K (i2 (s + ooA A (A (2 + f)))) (i2 (f + 1)) := fun K s f hf => by
    have hn : ¬ (2 : Int32) ≤ i2 f := by rcases hf with rfl | rfl <;> decide +kernel
    have hf1 : i2 f + 1 = i2 (f + 1) := by rw [show (1 : Int32) = i2 1 from L_1, i2_add]
    rw [u, if_neg hn, d_gk h, B1_some, c_wornOn h c g hf, B1_some, hf1]
    unfold stAt ooA
    by_cases e : 0 ≤ A (2 + f) ∧ A (2 + f) < A 0
    · have hk : (((A (2 + f)).toNat : Nat) : Int) = A (2 + f) := by omega
      have ho := d_openRungs h c g (k := (A (2 + f)).toNat) (by omega)
      rw [hk] at ho
      rw [if_pos e, if_pos e]
      show B1 (gk M (B + 11 + 3 * (A (2 + f)).toNat) 10) _ = _
      rw [d_gk10 h (by have := g.1; omega), B1_some, ho, B1_some, i2_add]
    · rw [if_neg e, if_neg e]
      show fX0_openTogether_L4 M B K (i2 s + 0) (i2 (f + 1)) = _
      rw [show (0 : Int32) = i2 0 from L_0, i2_add]
  unfold fX0_openTogether opOn
  rw [hN, show (0 : Int32) = i2 0 from L_0, step _ 0 0 (Or.inl rfl), show (0 : Int) + 1 = 1 from rfl, step _ _ 1 (Or.inr rfl), u, if_pos (by decide +kernel)]
  congr 2
  show 0 + ooA A (A 2) + ooA A (A 3) = _
  omega
end SEE
section SEEM
variable {M : Mm} {A : Int → Int}
theorem m_openOf (h : LayM M) (g : GA A) {k : Int} (k0 : 0 ≤ k) (k1 : k < A 0) : fX12_openOf (M.row 165 A) 164 (i2 k) = some (i2 (opS (stA A k))) := by
  have g0 := g.1
  have hg := g.2.2.2.2.2.2.2 k k0 k1
  have hh := m_hasP (A := A) (S := stA A k) h k0 (by omega) hg
  rw [put_st] at hh
  have i6 := m_its (A := A) h (k := k) (w := 6) k0 (by omega) (by decide) (by decide)
  have i7 := m_its (A := A) h (k := k) (w := 7) k0 (by omega) (by decide) (by decide)
  have q6 : its A k 6 = stA A k 6 := rfl
  have q7 : its A k 7 = stA A k 7 := rfl
  rw [q6] at i6
  rw [q7] at i7
  unfold fX12_openOf opS
  by_cases e : 0 ≤ stA A k 6
  · simp -dsimp (disch := omega) only [↓B1_bp, ↓B2_bp, BP_some, BQ_some, ↓reduceIte, gk_row, rdN_row, alN_row, alN__row, gk_m h, rdm0 h, rdm1 h, rdm2 h, rdm3 h, L_0, L_1, L_2, L_3, L_4, L_5, L_6, L_7, L_8, L_9, L_10, L_11, L_12, L_13, L_54, L_14, L_99, L_20, L_30, L_31, L_60, L_19, i2_add, i2_sub, i2_mul, i2_neg, Int.reduceAdd, Int.reduceSub, Int.reduceMul, Int.reduceNeg, Int.reduceLT, Int.reduceLE, Int.reduceEq, hh, tf_0, e, not_true_eq_false, i6, i7, if_true]
  · simp -dsimp (disch := omega) only [↓B1_bp, ↓B2_bp, BP_some, BQ_some, ↓reduceIte, gk_row, rdN_row, alN_row, alN__row, gk_m h, rdm0 h, rdm1 h, rdm2 h, rdm3 h, L_0, L_1, L_2, L_3, L_4, L_5, L_6, L_7, L_8, L_9, L_10, L_11, L_12, L_13, L_54, L_14, L_99, L_20, L_30, L_31, L_60, L_19, i2_add, i2_sub, i2_mul, i2_neg, Int.reduceAdd, Int.reduceSub, Int.reduceMul, Int.reduceNeg, Int.reduceLT, Int.reduceLE, Int.reduceEq, hh, tf_0, e, not_false_eq_true, if_false]
theorem m_openOn (h : LayM M) (g : GA A) : fX12_openOn (M.row 165 A) 164 = some (i2 (opOn A)) := by
  obtain ⟨N, hN⟩ := FL3
  have g2 := g.2.2.1
  have g3 := g.2.2.2.1
  have g0 := g.1
  have step : ∀ (K : Nat) (s f : Int), (f = 0 ∨ f = 1) → fX12_openOn_L4 (M.row 165 A) 164 (K + 1) (i2 s) (i2 f) = fX12_openOn_L4 (M.row 165 A) 164 K (i2 (s + ooA A (A (2 + f)))) (i2 (f + 1)) := fun K s f hf => by
    have ga : -1 ≤ A (2 + f) ∧ A (2 + f) < A 0 := by
      rcases hf with rfl | rfl
      · exact g2
      · exact g3
    have u : fX12_openOn_L4 (M.row 165 A) 164 (K + 1) (i2 s) (i2 f) = if 2 ≤ i2 f then some (i2 s) else B1 (rdN (M.row 165 A) 164 15 0) fun a => B1 (alI (M.row 165 A) a (2 + i2 f)) fun x => if 0 ≤ x then B1 (rdN (M.row 165 A) 164 15 0) fun a => B1 (alI (M.row 165 A) a (2 + i2 f)) fun x => B1 (gk (M.row 165 A) 164 15) fun _ => B1 (fX12_openOf (M.row 165 A) 164 x) fun y => fX12_openOn_L4 (M.row 165 A) 164 K (i2 s + y) (i2 f + 1) else fX12_openOn_L4 (M.row 165 A) 164 K (i2 s + 0) (i2 f + 1) := rfl
    rw [u]
    unfold ooA
    by_cases e : 0 ≤ A (2 + f)
    · have ho := m_openOf (A := A) h g e ga.2
      simp -dsimp (disch := omega) only [↓B1_bp, ↓B2_bp, BP_some, BQ_some, ↓reduceIte, gk_row, rdN_row, alN_row, alN__row, gk_m h, rdm0 h, rdm1 h, rdm2 h, rdm3 h, L_0, L_1, L_2, L_3, L_4, L_5, L_6, L_7, L_8, L_9, L_10, L_11, L_12, L_13, L_54, L_14, L_99, L_20, L_30, L_31, L_60, L_19, i2_add, i2_sub, i2_mul, i2_neg, Int.reduceAdd, Int.reduceSub, Int.reduceMul, Int.reduceNeg, Int.reduceLT, Int.reduceLE, Int.reduceEq, m_al h, i2_le, e, ho, if_true, true_and]
      rw [if_neg (by omega), if_pos ga.2]
    · simp -dsimp (disch := omega) only [↓B1_bp, ↓B2_bp, BP_some, BQ_some, ↓reduceIte, gk_row, rdN_row, alN_row, alN__row, gk_m h, rdm0 h, rdm1 h, rdm2 h, rdm3 h, L_0, L_1, L_2, L_3, L_4, L_5, L_6, L_7, L_8, L_9, L_10, L_11, L_12, L_13, L_54, L_14, L_99, L_20, L_30, L_31, L_60, L_19, i2_add, i2_sub, i2_mul, i2_neg, Int.reduceAdd, Int.reduceSub, Int.reduceMul, Int.reduceNeg, Int.reduceLT, Int.reduceLE, Int.reduceEq, m_al h, i2_le, e, if_false, false_and]
      rw [if_neg (by omega)]
  unfold fX12_openOn opOn
  rw [hN, show (0 : Int32) = i2 0 from L_0, step _ 0 0 (Or.inl rfl), show (0 : Int) + 1 = 1 from rfl, step _ _ 1 (Or.inr rfl)]
  show (if (2 : Int32) ≤ i2 (1 + 1) then _ else _) = _
  rw [if_pos (by decide +kernel)]
  congr 2
  show 0 + ooA A (A 2) + ooA A (A 3) = _
  omega
end SEEM
