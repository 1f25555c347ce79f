section BETTER
variable {M : Mm} {A : Int → Int}
theorem opOn_b (g : GA A) : 0 ≤ opOn A ∧ opOn A ≤ 200 := by
  have q : ∀ x, 0 ≤ ooA A x ∧ ooA A x ≤ 100 := fun x => by
    unfold ooA
    split
    · rename_i e
      exact opS_b (g.2.2.2.2.2.2.2 x e.1 e.2)
    · omega
  have q2 := q (A 2)
  have q3 := q (A 3)
  unfold opOn
  omega
theorem obA_b (g : GA A) (w : Int) : 0 ≤ obA A w ∧ obA A w ≤ 200 := opOn_b (g.pw fun S q => q.way g.2.2.2.2.2.1 _ _)
theorem minW_b {wt nt : Int → Int} : ∀ (d : Nat) (i : Int), (∀ j, i ≤ j → j < i + d → 1 ≤ nt j ∧ nt j ≤ 60) → 0 ≤ minW wt nt i d ∧ minW wt nt i d ≤ 60 * d
  | 0, _, _ => ⟨by show (0 : Int) ≤ 0; decide, by show (0 : Int) ≤ _; omega⟩
  | d + 1, i, h => by
    have q := minL_b (wt := wt) (h i (by omega) (by omega))
    have k := minW_b (wt := wt) d (i + 1) fun j a b => h j (by omega) (by omega)
    show 0 ≤ minL wt nt i + minW wt nt (i + 1) d ∧ minL wt nt i + minW wt nt (i + 1) d ≤ _
    omega
def miA (A : Int → Int) (w : Int) : Int := minW (wtA A w) (ntA A w) 0 (A (12 + w)).toNat
theorem miA_b (g : GA A) {w : Int} (e : 0 ≤ w ∧ w ≤ 1) : 0 ≤ miA A w ∧ miA A w ≤ 600 := by
  have gc := g_wcnt g e
  have k := minW_b (wt := wtA A w) (nt := ntA A w) (A (12 + w)).toNat 0 fun j a b => (GA.leg g e.1 (by omega) a (by omega)).2.2
  unfold miA
  omega
theorem pwA_e {A A' : Int → Int} {f f' : (Int → Int) → Int → Int} (h : E158 A' A) (g : GA A) (hf : Ex f) (ff : ∀ S, f' S = f S) : E158 (pwA A' f') (pwA A f) := by
  have g0 := g.1
  rw [show f' = f from funext ff]
  have k : ∀ (P P' : Int → Int) (x : Int), P 0 = A 0 → E158 P' P → E158 (onA P' f x) (onA P f x) := fun P P' x p0 e y a b => by
    unfold onA
    rw [e 0 (by decide) (by decide)]
    by_cases q : 0 ≤ x ∧ x < P 0
    · rw [if_pos q, if_pos q]
      unfold putA
      split
      · exact hf _ _ (E158.st e q.1 (by omega)) _ (by omega) (by omega)
      · exact e y a b
    · rw [if_neg q, if_neg q]
      exact e y a b
  unfold pwA
  rw [h 2 (by decide) (by decide), h 3 (by decide) (by decide)]
  exact k _ _ _ (onA_lo (by decide)) (k _ _ _ rfl h)
theorem opS_e {S S' : Int → Int} (h : E13 S' S) : opS S' = opS S := by
  unfold opS
  rw [h 6 (by decide) (by decide), h 7 (by decide) (by decide)]
theorem opOn_e {A A' : Int → Int} (h : E158 A' A) (g : GA A) : opOn A' = opOn A := by
  have g0 := g.1
  have k : ∀ x, ooA A' x = ooA A x := fun x => by
    unfold ooA
    rw [h 0 (by decide) (by decide)]
    by_cases q : 0 ≤ x ∧ x < A 0
    · rw [if_pos q, if_pos q]
      exact opS_e (E158.st h q.1 (by omega))
    · rw [if_neg q, if_neg q]
  unfold opOn
  rw [h 2 (by decide) (by decide), h 3 (by decide) (by decide), k, k]
theorem way_e {A A' : Int → Int} (h : E158 A' A) {w f t : Int} (w0 : 0 ≤ w) (w1 : w ≤ 1) (f0 : 0 ≤ f) (t9 : t ≤ 10) (S : Int → Int) : wayS (lwA A') (wtA A' w) (ntA A' w) f (t - f).toNat S = wayS (lwA A) (wtA A w) (ntA A w) f (t - f).toNat S := by
  exact congrFun (wayS_cg2 (L := lwA A) (L' := lwA A') (wt := wtA A w) (wt' := wtA A' w) (nt := ntA A w) (nt' := ntA A' w) (fun j a b => h _ (by omega) (by omega)) _ _ fun j a b => ⟨h _ (by omega) (by omega), h _ (by omega) (by omega)⟩) S
theorem miA_e {A A' : Int → Int} (h : E158 A' A) (g : GA A) {w : Int} (e : 0 ≤ w ∧ w ≤ 1) : miA A' w = miA A w := by
  have gc := g_wcnt g e
  unfold miA
  rw [h (12 + w) (by omega) (by omega)]
  exact minW_cg (wt := wtA A w) (wt' := wtA A' w) (nt := ntA A w) (nt' := ntA A' w) _ _ fun j a b => ⟨h _ (by omega) (by omega), h _ (by omega) (by omega)⟩
theorem m_min (h : LayM M) (g : GA A) {w : Int} (e : 0 ≤ w ∧ w ≤ 1) : fX12_minutesOf_ (M.row 165 A) 164 (i2 w) = some (i2 (miA A w)) := m_minutes h g e.1 (by omega)
theorem c_min {B : Nat} (h : LayD M B) (c : CR M B A) (g : GA A) {w : Int} (e : 0 ≤ w ∧ w ≤ 1) : fX10_minutesOfAll M (B + 5 + 3 * w.toNat) = some (i2 (miA A w)) := c_minutes (d_wrx h c g e)
theorem obA_e {A A' : Int → Int} (h : E158 A' A) (g : GA A) {w : Int} (e : 0 ≤ w ∧ w ≤ 1) : obA A' w = obA A w := by
  have gc := g_wcnt g e
  unfold obA
  rw [h (12 + w) (by omega) (by omega)]
  exact opOn_e (pwA_e h g (Ex.way _ _ _ _ _) fun S => way_e h e.1 e.2 (by decide) gc.2 S) (g.pw fun S q => q.way g.2.2.2.2.2.1 _ _)
def btA (A : Int → Int) : Int := if obA A 1 < obA A 0 then 1 else if obA A 0 = obA A 1 ∧ miA A 1 < miA A 0 then 1 else 0
theorem op_better (h : LayC M) (hm : LayM M) (c : CR M 1 A) (g : GA A) (ha : M.g 165 = rI A) (hi : Inv M) : Op M (fun M => fX11_better M 0) (fun M => fX12_better M 164) := by
  have e0 : (0 : Int) ≤ 0 ∧ (0 : Int) ≤ 1 := by decide
  have e1 : (0 : Int) ≤ 1 ∧ (1 : Int) ≤ 1 := by decide
  have b0 := obA_b g 0
  have b1 := obA_b g 1
  have m0 := miA_b g e0
  have m1 := miA_b g e1
  obtain ⟨X, k1, k2⟩ := c_openBehind h c g e0
  have cX := TrP.cr k2 g c
  have hX := h.sm k2
  obtain ⟨X2, p1, p2⟩ := c_openBehind hX cX g e1
  have cX2 := TrP.cr p2 g cX
  have hX2 := hX.sm p2
  have wr0 := d_wrx (t_d1 hX2) cX2 g e0
  have wr1 := d_wrx (t_d1 hX2) cX2 g e1
  have n0 := c_minutes wr0
  have n1 := c_minutes wr1
  have y0 := d_way (t_d1 h) (w := 0) (by decide) (by decide)
  have y1 := d_way (t_d1 hX) (w := 1) (by decide) (by decide)
  have z0 := d_way (t_d1 hX2) (w := 0) (by decide) (by decide)
  have z1 := d_way (t_d1 hX2) (w := 1) (by decide) (by decide)
  refine op_T (X := X2) (r := i2 (btA A)) hi hm ha g ?_ (TrP.scr (k2.tr p2)) (tr165 (k2.tr p2)) cX2 fun Y hY => ?_
  · change fX10_minutesOfAll X2 _ = some (i2 (miA A 0)) at n0
    change fX10_minutesOfAll X2 _ = some (i2 (miA A 1)) at n1
    show fX11_better M 0 = _
    unfold fX11_better
    simp -dsimp (disch := omega) only [↓B1_bp, ↓B2_bp, BP_some, BQ_some, ↓reduceIte, L_0, L_1, L_2, L_3, L_4, L_5, L_6, L_7, L_8, L_9, L_10, L_11, L_12, L_13, L_54, L_14, L_99, L_20, L_30, L_31, L_60, L_19, i2_add, i2_sub, i2_mul, i2_neg, Int.reduceAdd, Int.reduceSub, Int.reduceMul, Int.reduceNeg, Int.reduceLT, Int.reduceLE, Int.reduceEq, i2_le, i2_lt, i2_eq, uA_self, uA_ne, tf_0, not_true_eq_false, not_false_eq_true, L_15, L_40, L_100, L_101, L_200, L_999, ↓NL_bp, BNP_none, BNP_some, and_self, if_true, if_false, and_true, true_and, and_false, false_and, t_now h, d_gk (t_d1 h), d_ways (t_d1 h), y0, t_gk h, k1, t_now hX, d_ways (t_d1 hX), y1, t_gk hX, p1, t_now hX2, d_ways (t_d1 hX2), z0, z1, wr0.1, wr1.1, n0, n1]
    unfold btA
    repeat' split
    all_goals first | rfl | omega
  · obtain ⟨Z, R, j1, j2⟩ := m_openBehind (A := A) hY g e0
    have gR := g.e j2
    have hZ : LayM (Y.row 167 Z) := hY
    obtain ⟨Z2, R2, i1, i2'⟩ := m_openBehind (A := R) hZ gR e1
    have e3 : E158 R2 A := fun y a b => (i2' y a b).trans (j2 y a b)
    have gR2 := g.e e3
    have hZ2 : LayM ((Y.row 167 Z).row 167 Z2) := hZ
    have o0 := m_min (A := R2) hZ2 gR2 e0
    have o1 := m_min (A := R2) hZ2 gR2 e1
    rw [miA_e e3 g e0] at o0
    rw [miA_e e3 g e1] at o1
    have ob : obA R 1 = obA A 1 := obA_e j2 g e1
    rw [ob] at i1
    refine ⟨Z2, R2, ?_, e3⟩
    rw [row_row] at i1 o0 o1
    have hm := hY
    show fX12_better (Y.row 165 A) 164 = _
    unfold fX12_better
    simp -dsimp (disch := omega) only [↓B1_bp, ↓B2_bp, BP_some, BQ_some, ↓reduceIte, gk_row, rdN_row, alN_row, alN__row, gk_m hm, rdm0 hm, rdm1 hm, rdm2 hm, rdm3 hm, L_0, L_1, L_2, L_3, L_4, L_5, L_6, L_7, L_8, L_9, L_10, L_11, L_12, L_13, L_54, L_14, L_99, L_20, L_30, L_31, L_60, L_19, i2_add, i2_sub, i2_mul, i2_neg, Int.reduceAdd, Int.reduceSub, Int.reduceMul, Int.reduceNeg, Int.reduceLT, Int.reduceLE, Int.reduceEq, i2_le, i2_lt, i2_eq, J_0, J_1, J_2, J_3, J_5, J_7, J_8, J_9, J_10, J_13, J_15, J_30, J_60, J_99, J_100, J_999, J_n1, i2_j2, m_in, tf_0, not_true_eq_false, not_false_eq_true, m_al hm, L_15, L_40, L_100, L_101, L_190, L_200, L_999, uA_self, and_self, if_true, if_false, and_true, true_and, and_false, false_and, j1, i1, o0, o1]
    unfold btA
    repeat' split
    all_goals first | rfl | omega
end BETTER
