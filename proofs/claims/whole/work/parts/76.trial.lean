section TRIAL
variable {M : Mm} {A : Int → Int}
/-- the cells of the drawer that is tried -/
def TrP (p : Nat) : Prop := 71 ≤ p ∧ p < 106
theorem TrP.scr {M X : Mm} (h : SmP TrP M X) : SmP Scr M X := ⟨h.1, fun p hp => h.2 p fun q => hp (by unfold TrP at q; unfold Scr; omega)⟩
theorem TrP.cr {M X : Mm} (h : SmP TrP M X) (g : GA A) (c : CR M 1 A) : CR X 1 A := c.sm h (fun p a b q => by unfold TrP at q; omega) g.1.2
theorem TrP.of {M X : Mm} {lo hi : Nat} (h : Same M X lo hi) (h1 : 71 ≤ lo) (h2 : hi ≤ 106) : SmP TrP M X := SmP.of h fun p a b => by unfold TrP; omega
theorem op_T {f f' : Mm → Option (Int32 × Mm)} {r : Int32} {X : Mm} (hi : Inv M) (hm : LayM M) (ha : M.g 165 = rI A) (g : GA A) (h1 : f M = some (r, X)) (s1 : SmP Scr M X) (s165 : X.g 165 = M.g 165) (c1 : CR X 1 A) (h2 : ∀ Y, LayM Y → ∃ Z R, f' (Y.row 165 A) = some (r, (Y.row 167 Z).row 165 R) ∧ E158 R A) : Op M f f' := by
  obtain ⟨Z, R, k1, k2⟩ := h2 X (hm.sm s1)
  have e : X = X.row 165 A := row_of (s165.trans ha)
  rw [← e] at k1
  have c2 : CR X 1 R := c1.e k2 g
  exact Op.scr (A' := R) hi h1 s1 k1 ((SmP.row X Z (by unfold Scr; omega)).tr (SmP.row _ R (by unfold Scr; omega))) (row_g _ _ _) (g.e k2) ((c2.same (Same.row X 167 Z) (by omega) (g.e k2).1.2).same (Same.row _ 165 R) (by omega) (g.e k2).1.2)
theorem op_T0 {f f' : Mm → Option (Int32 × Mm)} {r : Int32} {X : Mm} (hi : Inv M) (hm : LayM M) (ha : M.g 165 = rI A) (g : GA A) (h1 : f M = some (r, X)) (s1 : SmP Scr M X) (s165 : X.g 165 = M.g 165) (c1 : CR X 1 A) (h2 : ∀ Y, LayM Y → f' (Y.row 165 A) = some (r, Y.row 165 A)) : Op M f f' := by
  have k1 := h2 X (hm.sm s1)
  have e : X = X.row 165 A := row_of (s165.trans ha)
  rw [← e] at k1
  exact Op.scr (A' := A) hi h1 s1 k1 (SmP.rf _ _) (s165.trans ha) g c1
theorem tr165 {X : Mm} (h : SmP TrP M X) : X.g 165 = M.g 165 := h.2 165 (by unfold TrP; omega)
/-- the trial begins -/
theorem c_tryBecome (h : LayC M) (c : CR M 1 A) (g : GA A) : ∃ X, fX0_become M 71 1 = some X ∧ CR X 71 A ∧ SmP TrP M X := by
  obtain ⟨X, k1, k2, k3⟩ := c_dbecome (B := 71) (B' := 1) (by decide) g (t_d71 h) (t_d1 h) c
  exact ⟨X, k1, k2, TrP.of k3 (by decide) (by decide)⟩
theorem c_beginTrial (h : LayC M) (c : CR M 1 A) (g : GA A) {f : Int} (f0 : 0 ≤ f) (f1 : f ≤ 1) : ∃ X, fX11_beginTrial M 0 (i2 f) = some (stAt A 71 (A (2 + f)), X) ∧ CR X 71 A ∧ SmP TrP M X := by
  obtain ⟨X, k1, k2, k3⟩ := c_tryBecome h c g
  have hX := h.sm k3
  have w := c_wornOn (t_d71 hX) k2 g (f := f) (by omega)
  refine ⟨X, ?_, k2, k3⟩
  unfold fX11_beginTrial
  simp -dsimp (disch := omega) only [↓B1_bp, BP_some, t_tried h, t_now h, d_gk (t_d71 h), k1, t_tried hX, d_gk (t_d71 hX), w]
/-- and is laid back on the other side -/
theorem e_back {Z R : Int → Int} : E158 (mx (mx A Z 158) R 158) A := fun y a b => by rw [mx_at a b, mx_at a b]
theorem m_isWay (h : LayM M) (g : GA A) {x y : Int} (x0 : 0 ≤ x) (x1 : x ≤ 1) (y0 : -2147483648 ≤ y) (y1 : y < 2147483648) : fX12_isWay (M.row 165 A) 164 (i2 x) (i2 y) = some (i2 (tf (0 ≤ y ∧ y ≤ A (12 + x)))) := by
  have hc := (g.2.2.2.2.2.2.1 x x0 (by omega)).1
  have a1 := m_isTwo (M.row 165 A) (x := x) (by omega) (by omega)
  rw [tf_t ⟨x0, x1⟩] at a1
  unfold fX12_isWay
  have hm := h
  by_cases e : 0 ≤ y ∧ y ≤ A (12 + x)
  · rw [tf_t e]
    have te : tf (0 ≤ y ∧ y ≤ A (12 + x)) = 1 := tf_t e
    simp -dsimp (disch := omega) only [↓B1_bp, ↓B2_bp, BP_some, BQ_some, ↓reduceIte, gk_row, rdN_row, alN_row, alN__row, gk_m hm, rdm0 hm, rdm1 hm, rdm2 hm, rdm3 hm, L_0, L_1, L_2, L_3, L_4, L_5, L_6, L_7, L_8, L_9, L_10, L_11, L_12, L_13, L_54, L_14, L_99, L_20, L_30, L_31, L_60, L_19, i2_add, i2_sub, i2_mul, i2_neg, Int.reduceAdd, Int.reduceSub, Int.reduceMul, Int.reduceNeg, Int.reduceLT, Int.reduceLE, Int.reduceEq, i2_le, i2_lt, i2_eq, J_0, J_1, J_2, J_3, J_5, J_7, J_8, J_9, J_10, J_13, J_15, J_30, J_60, J_99, J_100, J_999, J_n1, i2_j2, m_in, tf_0, not_true_eq_false, not_false_eq_true, m_al hm, L_15, L_40, L_100, L_101, L_190, L_200, L_999, uA_self, and_self, if_true, if_false, and_true, true_and, and_false, false_and, a1, te]
  · rw [tf_f e]
    have te : tf (0 ≤ y ∧ y ≤ A (12 + x)) = 0 := tf_f e
    simp -dsimp (disch := omega) only [↓B1_bp, ↓B2_bp, BP_some, BQ_some, ↓reduceIte, gk_row, rdN_row, alN_row, alN__row, gk_m hm, rdm0 hm, rdm1 hm, rdm2 hm, rdm3 hm, L_0, L_1, L_2, L_3, L_4, L_5, L_6, L_7, L_8, L_9, L_10, L_11, L_12, L_13, L_54, L_14, L_99, L_20, L_30, L_31, L_60, L_19, i2_add, i2_sub, i2_mul, i2_neg, Int.reduceAdd, Int.reduceSub, Int.reduceMul, Int.reduceNeg, Int.reduceLT, Int.reduceLE, Int.reduceEq, i2_le, i2_lt, i2_eq, J_0, J_1, J_2, J_3, J_5, J_7, J_8, J_9, J_10, J_13, J_15, J_30, J_60, J_99, J_100, J_999, J_n1, i2_j2, m_in, tf_0, not_true_eq_false, not_false_eq_true, m_al hm, L_15, L_40, L_100, L_101, L_190, L_200, L_999, uA_self, and_self, if_true, if_false, and_true, true_and, and_false, false_and, a1, te]
theorem m_isWayN {x : Int} {y : Int32} (x0 : -2147483648 ≤ x) (x1 : x < 2147483648) (e : ¬ (0 ≤ x ∧ x ≤ 1)) : fX12_isWay M 164 (i2 x) y = some (i2 0) := by
  have a1 := m_isTwo M x0 x1
  rw [tf_f e] at a1
  unfold fX12_isWay
  simp -dsimp (disch := omega) only [↓B1_bp, BP_some, a1, L_0, ↓reduceIte]
theorem g_wcnt (g : GA A) {x : Int} (e : 0 ≤ x ∧ x ≤ 1) : 0 ≤ A (12 + x) ∧ A (12 + x) ≤ 10 := (g.2.2.2.2.2.2.1 x e.1 (by omega)).1
theorem d_wrx {B : Nat} (h : LayD M B) (c : CR M B A) (g : GA A) {x : Int} (e : 0 ≤ x ∧ x ≤ 1) : WR M (B + 5 + 3 * x.toNat) (A (12 + x)) (wtA A x) (ntA A x) := by
  have hx : ((x.toNat : Nat) : Int) = x := by omega
  have wr := d_wr h c g (w := x.toNat) (by omega)
  rw [hx] at wr
  exact wr
/-- the tried drawer passes legs of a way of the drawer now -/
theorem c_tryPass {X : Mm} {D : Int → Int} (h : LayC X) (c : CR X 1 A) (g : GA A) (cd : CR X 71 D) (gd : GA D) (lo : ∀ y, y < 54 → D y = A y) {x fr to : Int} (e : 0 ≤ x ∧ x ≤ 1) (f0 : 0 ≤ fr) (f9 : fr ≤ to) (t9 : to ≤ A (12 + x)) : ∃ X', fX0_passWay X 71 (1 + 5 + 3 * x.toNat) (i2 fr) (i2 to) = some X' ∧ CR X' 71 (pwA D (wayS (lwA A) (wtA A x) (ntA A x) fr (to - fr).toNat)) ∧ SmP TrP X X' := by
  have gc := g_wcnt g e
  obtain ⟨X', k1, k2, k3⟩ := c_dPass (t_d71 h) cd gd (d_wrx (t_d1 h) c g e) (by omega) (fr := fr) (to := to) (by omega) f0 (by omega)
  rw [show min to (A (12 + x)) = to by omega, show wayS (lwA D) (wtA A x) (ntA A x) fr (to - fr).toNat = wayS (lwA A) (wtA A x) (ntA A x) fr (to - fr).toNat from funext fun S => wayS_cg (fun j a b => lo _ (by omega)) _ _ _] at k2
  exact ⟨X', k1, k2, TrP.of k3 (by decide) (by decide)⟩
theorem op_open (h : LayC M) (hm : LayM M) (c : CR M 1 A) (g : GA A) (ha : M.g 165 = rI A) {x y z : Int} (x0 : -2147483648 ≤ x) (x1 : x < 2147483648) (y0 : -2147483648 ≤ y) (y1 : y < 2147483648) (z0 : -2147483648 ≤ z) (z1 : z < 2147483648) (hi : Inv M) : Op M (fun M => fX11_open M 0 (i2 x) (i2 y) (i2 z)) (fun M => fX12_open M 164 (i2 x) (i2 y) (i2 z)) := by
  have g0 := g.1
  have q1 := c_wayAt (t_d1 h) y0 y1
  have q2 := c_isFoot M x0 x1
  by_cases e1 : 0 ≤ x ∧ x ≤ 1
  · rw [tf_t e1] at q2
    have bf := b_feet g e1.1 e1.2
    by_cases e2 : 0 ≤ y ∧ y ≤ 1
    · rw [if_pos e2] at q1
      have gc := g_wcnt g e2
      have wr := d_wrx (t_d1 h) c g e2
      by_cases e3 : 0 ≤ z ∧ z ≤ A (12 + y)
      · have te3 : tf (0 ≤ z ∧ z ≤ A (12 + y)) = 1 := tf_t e3
        obtain ⟨X, k1, k2, k3⟩ := c_beginTrial h c g e1.1 e1.2
        have cX := TrP.cr k3 g c
        have hX := h.sm k3
        by_cases e4 : 0 ≤ A (2 + x)
        · have e5 : 0 ≤ A (2 + x) ∧ A (2 + x) < A 0 := ⟨e4, bf.2⟩
          have hk : (((A (2 + x)).toNat : Nat) : Int) = A (2 + x) := by omega
          rw [show stAt A 71 (A (2 + x)) = some (71 + 11 + 3 * (A (2 + x)).toNat) from if_pos e5] at k1
          obtain ⟨X2, p1, p2, p3⟩ := c_tryPass hX cX g k2 g (fun _ _ => rfl) e2 (fr := 0) (to := z) (by decide) e3.1 e3.2
          have ga2 : GA (pwA A (wayS (lwA A) (wtA A y) (ntA A y) 0 (z - 0).toNat)) := g.pw fun S q => q.way g.2.2.2.2.2.1 _ _
          have hX2 := hX.sm p3
          have hl : pwA A (wayS (lwA A) (wtA A y) (ntA A y) 0 (z - 0).toNat) 0 = A 0 := pw_lo (by decide)
          have op := d_openRungs (t_d71 hX2) p2 ga2 (k := (A (2 + x)).toNat) (by rw [hl]; omega)
          have gk2 := d_gk10 (t_d71 hX2) (k := (A (2 + x)).toNat) (by have := g.1; omega)
          rw [hk] at op
          refine op_T (X := X2) (r := i2 (opS (stA (pwA A (wayS (lwA A) (wtA A y) (ntA A y) 0 (z - 0).toNat)) (A (2 + x))))) hi hm ha g ?_ (TrP.scr (k3.tr p3)) (tr165 (k3.tr p3)) (TrP.cr p3 g cX) fun Y hY => ?_
          · unfold fX11_open
            simp -dsimp (disch := omega) only [↓B1_bp, ↓B2_bp, BP_some, BQ_some, ↓reduceIte, L_0, L_1, L_2, L_3, L_4, L_5, L_6, L_7, L_8, L_9, L_10, L_11, L_12, L_13, L_54, L_14, L_99, L_20, L_30, L_31, L_60, L_19, i2_add, i2_sub, i2_mul, i2_neg, Int.reduceAdd, Int.reduceSub, Int.reduceMul, Int.reduceNeg, Int.reduceLT, Int.reduceLE, Int.reduceEq, i2_le, i2_lt, i2_eq, uA_self, uA_ne, tf_0, not_true_eq_false, not_false_eq_true, L_15, L_40, L_100, L_101, L_200, L_999, ↓NL_bp, BNP_none, BNP_some, and_self, if_true, if_false, and_true, true_and, and_false, false_and, t_now h, d_gk (t_d1 h), q1, q2, wr.2.1, c_isWithin, te3, t_gk h, k1, t_tried hX, d_gk (t_d71 hX), p1, gk2, op]
          · have a1 := m_isTwo (Y.row 165 A) x0 x1
            have a2 := m_isWay (A := A) hY g e2.1 e2.2 z0 z1
            rw [tf_t e1] at a1
            rw [tf_t e3] at a2
            have l1 := m_lends (A := A) hY
            have hY2 : LayM (Y.row 167 (mx A (gI Y 167) 158)) := hY
            have l2 := m_walks (A := A) hY2 g (w := y) (fr := 0) (to := z) e2.1 (by omega) (by decide) e3.1 e3.2
            have l3 := m_openOf (A := pwA A (wayS (lwA A) (wtA A y) (ntA A y) 0 (z - 0).toNat)) hY2 ga2 e4 (by rw [hl]; exact bf.2)
            have l4 := m_laysBack (A := pwA A (wayS (lwA A) (wtA A y) (ntA A y) 0 (z - 0).toNat)) (X := mx A (gI Y 167) 158) hY
            refine ⟨mx A (gI Y 167) 158, mx (mx A (gI Y 167) 158) (pwA A (wayS (lwA A) (wtA A y) (ntA A y) 0 (z - 0).toNat)) 158, ?_, e_back⟩
            · have hX := hY
              unfold fX12_open
              simp -dsimp (disch := omega) only [↓B1_bp, ↓B2_bp, BP_some, BQ_some, ↓reduceIte, gk_row, rdN_row, alN_row, alN__row, gk_m hX, rdm0 hX, rdm1 hX, rdm2 hX, rdm3 hX, L_0, L_1, L_2, L_3, L_4, L_5, L_6, L_7, L_8, L_9, L_10, L_11, L_12, L_13, L_54, L_14, L_99, L_20, L_30, L_31, L_60, L_19, i2_add, i2_sub, i2_mul, i2_neg, Int.reduceAdd, Int.reduceSub, Int.reduceMul, Int.reduceNeg, Int.reduceLT, Int.reduceLE, Int.reduceEq, i2_le, i2_lt, i2_eq, J_0, J_1, J_2, J_3, J_5, J_7, J_8, J_9, J_10, J_13, J_15, J_30, J_60, J_99, J_100, J_999, J_n1, i2_j2, m_in, tf_0, not_true_eq_false, not_false_eq_true, m_al hX, L_15, L_40, L_100, L_101, L_190, L_200, L_999, uA_self, and_self, if_true, if_false, and_true, true_and, and_false, false_and, a1, a2, l1, l2, l3, l4, e4]
        · rw [show stAt A 71 (A (2 + x)) = none from if_neg (fun q => e4 q.1)] at k1
          refine op_T0 (X := X) (r := i2 (-3)) hi hm ha g ?_ (TrP.scr k3) (tr165 k3) cX fun Y hY => ?_
          · unfold fX11_open
            simp -dsimp (disch := omega) only [↓B1_bp, ↓B2_bp, BP_some, BQ_some, ↓reduceIte, L_0, L_1, L_2, L_3, L_4, L_5, L_6, L_7, L_8, L_9, L_10, L_11, L_12, L_13, L_54, L_14, L_99, L_20, L_30, L_31, L_60, L_19, i2_add, i2_sub, i2_mul, i2_neg, Int.reduceAdd, Int.reduceSub, Int.reduceMul, Int.reduceNeg, Int.reduceLT, Int.reduceLE, Int.reduceEq, i2_le, i2_lt, i2_eq, uA_self, uA_ne, tf_0, not_true_eq_false, not_false_eq_true, L_15, L_40, L_100, L_101, L_200, L_999, ↓NL_bp, BNP_none, BNP_some, and_self, if_true, if_false, and_true, true_and, and_false, false_and, t_now h, d_gk (t_d1 h), q1, q2, wr.2.1, c_isWithin, te3, t_gk h, k1]
          · have a1 := m_isTwo (Y.row 165 A) x0 x1
            have a2 := m_isWay (A := A) hY g e2.1 e2.2 z0 z1
            rw [tf_t e1] at a1
            rw [tf_t e3] at a2
            have hX := hY
            unfold fX12_open
            simp -dsimp (disch := omega) only [↓B1_bp, ↓B2_bp, BP_some, BQ_some, ↓reduceIte, gk_row, rdN_row, alN_row, alN__row, gk_m hX, rdm0 hX, rdm1 hX, rdm2 hX, rdm3 hX, L_0, L_1, L_2, L_3, L_4, L_5, L_6, L_7, L_8, L_9, L_10, L_11, L_12, L_13, L_54, L_14, L_99, L_20, L_30, L_31, L_60, L_19, i2_add, i2_sub, i2_mul, i2_neg, Int.reduceAdd, Int.reduceSub, Int.reduceMul, Int.reduceNeg, Int.reduceLT, Int.reduceLE, Int.reduceEq, i2_le, i2_lt, i2_eq, J_0, J_1, J_2, J_3, J_5, J_7, J_8, J_9, J_10, J_13, J_15, J_30, J_60, J_99, J_100, J_999, J_n1, i2_j2, m_in, tf_0, not_true_eq_false, not_false_eq_true, m_al hX, L_15, L_40, L_100, L_101, L_190, L_200, L_999, uA_self, and_self, if_true, if_false, and_true, true_and, and_false, false_and, a1, a2, e4]
      · have te3 : tf (0 ≤ z ∧ z ≤ A (12 + y)) = 0 := tf_f e3
        have a1 := m_isTwo (M.row 165 A) x0 x1
        have a2 := m_isWay (A := A) hm g e2.1 e2.2 z0 z1
        rw [tf_t e1] at a1
        rw [tf_f e3] at a2
        refine OpR.op hi (opR_keep (r := i2 (-1)) c g ha ?_ ?_)
        · unfold fX11_open
          simp -dsimp (disch := omega) only [↓B1_bp, ↓B2_bp, BP_some, BQ_some, ↓reduceIte, L_0, L_1, L_2, L_3, L_4, L_5, L_6, L_7, L_8, L_9, L_10, L_11, L_12, L_13, L_54, L_14, L_99, L_20, L_30, L_31, L_60, L_19, i2_add, i2_sub, i2_mul, i2_neg, Int.reduceAdd, Int.reduceSub, Int.reduceMul, Int.reduceNeg, Int.reduceLT, Int.reduceLE, Int.reduceEq, i2_le, i2_lt, i2_eq, uA_self, uA_ne, tf_0, not_true_eq_false, not_false_eq_true, L_15, L_40, L_100, L_101, L_200, L_999, ↓NL_bp, BNP_none, BNP_some, and_self, if_true, if_false, and_true, true_and, and_false, false_and, t_now h, d_gk (t_d1 h), q1, q2, wr.2.1, c_isWithin, te3]
        · unfold fX12_open
          simp -dsimp (disch := omega) only [↓B1_bp, ↓B2_bp, BP_some, BQ_some, ↓reduceIte, gk_row, rdN_row, alN_row, alN__row, gk_m hm, rdm0 hm, rdm1 hm, rdm2 hm, rdm3 hm, L_0, L_1, L_2, L_3, L_4, L_5, L_6, L_7, L_8, L_9, L_10, L_11, L_12, L_13, L_54, L_14, L_99, L_20, L_30, L_31, L_60, L_19, i2_add, i2_sub, i2_mul, i2_neg, Int.reduceAdd, Int.reduceSub, Int.reduceMul, Int.reduceNeg, Int.reduceLT, Int.reduceLE, Int.reduceEq, i2_le, i2_lt, i2_eq, J_0, J_1, J_2, J_3, J_5, J_7, J_8, J_9, J_10, J_13, J_15, J_30, J_60, J_99, J_100, J_999, J_n1, i2_j2, m_in, tf_0, not_true_eq_false, not_false_eq_true, m_al hm, L_15, L_40, L_100, L_101, L_190, L_200, L_999, uA_self, and_self, if_true, if_false, and_true, true_and, and_false, false_and, a1, a2]
    · rw [if_neg e2] at q1
      have a1 := m_isTwo (M.row 165 A) x0 x1
      have a2 := m_isWayN (M := M.row 165 A) (y := i2 z) y0 y1 e2
      rw [tf_t e1] at a1
      refine OpR.op hi (opR_keep (r := i2 (-1)) c g ha ?_ ?_)
      · unfold fX11_open
        simp -dsimp (disch := omega) only [↓B1_bp, ↓B2_bp, BP_some, BQ_some, ↓reduceIte, L_0, L_1, L_2, L_3, L_4, L_5, L_6, L_7, L_8, L_9, L_10, L_11, L_12, L_13, L_54, L_14, L_99, L_20, L_30, L_31, L_60, L_19, i2_add, i2_sub, i2_mul, i2_neg, Int.reduceAdd, Int.reduceSub, Int.reduceMul, Int.reduceNeg, Int.reduceLT, Int.reduceLE, Int.reduceEq, i2_le, i2_lt, i2_eq, uA_self, uA_ne, tf_0, not_true_eq_false, not_false_eq_true, L_15, L_40, L_100, L_101, L_200, L_999, ↓NL_bp, BNP_none, BNP_some, and_self, if_true, if_false, and_true, true_and, and_false, false_and, t_now h, d_gk (t_d1 h), q1, q2]
      · unfold fX12_open
        simp -dsimp (disch := omega) only [↓B1_bp, ↓B2_bp, BP_some, BQ_some, ↓reduceIte, gk_row, rdN_row, alN_row, alN__row, gk_m hm, rdm0 hm, rdm1 hm, rdm2 hm, rdm3 hm, L_0, L_1, L_2, L_3, L_4, L_5, L_6, L_7, L_8, L_9, L_10, L_11, L_12, L_13, L_54, L_14, L_99, L_20, L_30, L_31, L_60, L_19, i2_add, i2_sub, i2_mul, i2_neg, Int.reduceAdd, Int.reduceSub, Int.reduceMul, Int.reduceNeg, Int.reduceLT, Int.reduceLE, Int.reduceEq, i2_le, i2_lt, i2_eq, J_0, J_1, J_2, J_3, J_5, J_7, J_8, J_9, J_10, J_13, J_15, J_30, J_60, J_99, J_100, J_999, J_n1, i2_j2, m_in, tf_0, not_true_eq_false, not_false_eq_true, m_al hm, L_15, L_40, L_100, L_101, L_190, L_200, L_999, uA_self, and_self, if_true, if_false, and_true, true_and, and_false, false_and, a1, a2]
  · rw [tf_f e1] at q2
    have a1 := m_isTwo (M.row 165 A) x0 x1
    rw [tf_f e1] at a1
    refine OpR.op hi (opR_keep (r := i2 (-1)) c g ha ?_ ?_)
    · unfold fX11_open
      simp -dsimp (disch := omega) only [↓B1_bp, ↓B2_bp, BP_some, BQ_some, ↓reduceIte, L_0, L_1, L_2, L_3, L_4, L_5, L_6, L_7, L_8, L_9, L_10, L_11, L_12, L_13, L_54, L_14, L_99, L_20, L_30, L_31, L_60, L_19, i2_add, i2_sub, i2_mul, i2_neg, Int.reduceAdd, Int.reduceSub, Int.reduceMul, Int.reduceNeg, Int.reduceLT, Int.reduceLE, Int.reduceEq, i2_le, i2_lt, i2_eq, uA_self, uA_ne, tf_0, not_true_eq_false, not_false_eq_true, L_15, L_40, L_100, L_101, L_200, L_999, ↓NL_bp, BNP_none, BNP_some, and_self, if_true, if_false, and_true, true_and, and_false, false_and, t_now h, d_gk (t_d1 h), q1, q2]
    · unfold fX12_open
      simp -dsimp (disch := omega) only [↓B1_bp, ↓B2_bp, BP_some, BQ_some, ↓reduceIte, gk_row, rdN_row, alN_row, alN__row, gk_m hm, rdm0 hm, rdm1 hm, rdm2 hm, rdm3 hm, L_0, L_1, L_2, L_3, L_4, L_5, L_6, L_7, L_8, L_9, L_10, L_11, L_12, L_13, L_54, L_14, L_99, L_20, L_30, L_31, L_60, L_19, i2_add, i2_sub, i2_mul, i2_neg, Int.reduceAdd, Int.reduceSub, Int.reduceMul, Int.reduceNeg, Int.reduceLT, Int.reduceLE, Int.reduceEq, i2_le, i2_lt, i2_eq, J_0, J_1, J_2, J_3, J_5, J_7, J_8, J_9, J_10, J_13, J_15, J_30, J_60, J_99, J_100, J_999, J_n1, i2_j2, m_in, tf_0, not_true_eq_false, not_false_eq_true, m_al hm, L_15, L_40, L_100, L_101, L_190, L_200, L_999, uA_self, and_self, if_true, if_false, and_true, true_and, and_false, false_and, a1]
theorem op_seen (h : LayC M) (hm : LayM M) (c : CR M 1 A) (g : GA A) (ha : M.g 165 = rI A) {x y z : Int} (x0 : -2147483648 ≤ x) (x1 : x < 2147483648) (y0 : -2147483648 ≤ y) (y1 : y < 2147483648) (z0 : -2147483648 ≤ z) (z1 : z < 2147483648) (hi : Inv M) : Op M (fun M => fX11_seen M 0 (i2 x) (i2 y) (i2 z)) (fun M => fX12_seen M 164 (i2 x) (i2 y) (i2 z)) := by
  have g0 := g.1
  have q1 := c_wayAt (t_d1 h) y0 y1
  by_cases e1 : 0 ≤ x ∧ x ≤ 3
  · have te1 : tf (0 ≤ x ∧ x ≤ 3) = 1 := tf_t e1
    by_cases e2 : 0 ≤ y ∧ y ≤ 1
    · rw [if_pos e2] at q1
      have gc := g_wcnt g e2
      have wr := d_wrx (t_d1 h) c g e2
      by_cases e3 : 0 ≤ z ∧ z ≤ A (12 + y)
      · have te3 : tf (0 ≤ z ∧ z ≤ A (12 + y)) = 1 := tf_t e3
        obtain ⟨X, k1, k2, k3⟩ := c_tryBecome h c g
        have cX := TrP.cr k3 g c
        have hX := h.sm k3
        obtain ⟨X2, p1, p2, p3⟩ := c_tryPass hX cX g k2 g (fun _ _ => rfl) e2 (fr := 0) (to := z) (by decide) e3.1 e3.2
        have ga2 : GA (pwA A (wayS (lwA A) (wtA A y) (ntA A y) 0 (z - 0).toNat)) := g.pw fun S q => q.way g.2.2.2.2.2.1 _ _
        have hX2 := hX.sm p3
        have op := c_seenFrom (t_d71 hX2) p2 ga2 (sd := x) e1.1 (by omega)
        obtain ⟨b1, b2⟩ := bt_one (sd := x) e1.1 (by omega)
        have sb : snB (pwA A (wayS (lwA A) (wtA A y) (ntA A y) 0 (z - 0).toNat)) (bt (if x = 0 then 1 else if x = 1 then 2 else if x = 2 then 4 else 8)) = snB (pwA A (wayS (lwA A) (wtA A y) (ntA A y) 0 (z - 0).toNat)) (fun s => if s = x then 1 else 0) := snB_cg ga2 fun s s0 s4 => b2 s s0 s4
        refine op_T (X := X2) (r := i2 (snB (pwA A (wayS (lwA A) (wtA A y) (ntA A y) 0 (z - 0).toNat)) (fun s => if s = x then 1 else 0))) hi hm ha g ?_ (TrP.scr (k3.tr p3)) (tr165 (k3.tr p3)) (TrP.cr p3 g cX) fun Y hY => ?_
        · unfold fX11_seen
          simp -dsimp (disch := omega) only [↓B1_bp, ↓B2_bp, BP_some, BQ_some, ↓reduceIte, L_0, L_1, L_2, L_3, L_4, L_5, L_6, L_7, L_8, L_9, L_10, L_11, L_12, L_13, L_54, L_14, L_99, L_20, L_30, L_31, L_60, L_19, i2_add, i2_sub, i2_mul, i2_neg, Int.reduceAdd, Int.reduceSub, Int.reduceMul, Int.reduceNeg, Int.reduceLT, Int.reduceLE, Int.reduceEq, i2_le, i2_lt, i2_eq, uA_self, uA_ne, tf_0, not_true_eq_false, not_false_eq_true, L_15, L_40, L_100, L_101, L_200, L_999, ↓NL_bp, BNP_none, BNP_some, and_self, if_true, if_false, and_true, true_and, and_false, false_and, t_now h, d_gk (t_d1 h), q1, wr.2.1, c_isWithin, te1, te3, t_tried h, d_gk (t_d71 h), k1, t_tried hX, d_gk (t_d71 hX), p1, t_tried hX2, d_gk (t_d71 hX2), op]
        · have a2 := m_isWay (A := A) hY g e2.1 e2.2 z0 z1
          rw [tf_t e3] at a2
          have l1 := m_lends (A := A) hY
          have hY2 : LayM (Y.row 167 (mx A (gI Y 167) 158)) := hY
          have l2 := m_walks (A := A) hY2 g (w := y) (fr := 0) (to := z) e2.1 (by omega) (by decide) e3.1 e3.2
          have mb : 0 ≤ (if x = 0 then (1 : Int) else if x = 1 then 2 else if x = 2 then 4 else 8) ∧ (if x = 0 then (1 : Int) else if x = 1 then 2 else if x = 2 then 4 else 8) < 16 := by
            repeat' split
            all_goals omega
          have l3 := m_seenFrom (A := pwA A (wayS (lwA A) (wtA A y) (ntA A y) 0 (z - 0).toNat)) hY2 ga2 mb.1 mb.2
          rw [← b1, sb] at l3
          have l4 := m_laysBack (A := pwA A (wayS (lwA A) (wtA A y) (ntA A y) 0 (z - 0).toNat)) (X := mx A (gI Y 167) 158) hY
          refine ⟨mx A (gI Y 167) 158, mx (mx A (gI Y 167) 158) (pwA A (wayS (lwA A) (wtA A y) (ntA A y) 0 (z - 0).toNat)) 158, ?_, e_back⟩
          · have hX := hY
            rw [← L_1] at l3
            unfold fX12_seen
            rw [show (1 : Int32) <<< (i2 x &&& 31) = (1 : Int32) <<< (i2 x &&& (31 : Int32)) from rfl]
            simp -dsimp (disch := omega) only [↓B1_bp, BP_some, ↓reduceIte, gk_row, gk_m hX, J_0, J_3, i2_j2, m_in, te1, a2, l1, l2, l3, l4, L_0, i2_eq, Int.reduceEq]
      · have te3 : tf (0 ≤ z ∧ z ≤ A (12 + y)) = 0 := tf_f e3
        have a2 := m_isWay (A := A) hm g e2.1 e2.2 z0 z1
        rw [tf_f e3] at a2
        refine OpR.op hi (opR_keep (r := i2 (-1)) c g ha ?_ ?_)
        · unfold fX11_seen
          simp -dsimp (disch := omega) only [↓B1_bp, ↓B2_bp, BP_some, BQ_some, ↓reduceIte, L_0, L_1, L_2, L_3, L_4, L_5, L_6, L_7, L_8, L_9, L_10, L_11, L_12, L_13, L_54, L_14, L_99, L_20, L_30, L_31, L_60, L_19, i2_add, i2_sub, i2_mul, i2_neg, Int.reduceAdd, Int.reduceSub, Int.reduceMul, Int.reduceNeg, Int.reduceLT, Int.reduceLE, Int.reduceEq, i2_le, i2_lt, i2_eq, uA_self, uA_ne, tf_0, not_true_eq_false, not_false_eq_true, L_15, L_40, L_100, L_101, L_200, L_999, ↓NL_bp, BNP_none, BNP_some, and_self, if_true, if_false, and_true, true_and, and_false, false_and, t_now h, d_gk (t_d1 h), q1, wr.2.1, c_isWithin, te1, te3]
        · unfold fX12_seen
          simp -dsimp (disch := omega) only [↓B1_bp, ↓B2_bp, BP_some, BQ_some, ↓reduceIte, gk_row, rdN_row, alN_row, alN__row, gk_m hm, rdm0 hm, rdm1 hm, rdm2 hm, rdm3 hm, L_0, L_1, L_2, L_3, L_4, L_5, L_6, L_7, L_8, L_9, L_10, L_11, L_12, L_13, L_54, L_14, L_99, L_20, L_30, L_31, L_60, L_19, i2_add, i2_sub, i2_mul, i2_neg, Int.reduceAdd, Int.reduceSub, Int.reduceMul, Int.reduceNeg, Int.reduceLT, Int.reduceLE, Int.reduceEq, i2_le, i2_lt, i2_eq, J_0, J_1, J_2, J_3, J_5, J_7, J_8, J_9, J_10, J_13, J_15, J_30, J_60, J_99, J_100, J_999, J_n1, i2_j2, m_in, tf_0, not_true_eq_false, not_false_eq_true, m_al hm, L_15, L_40, L_100, L_101, L_190, L_200, L_999, uA_self, and_self, if_true, if_false, and_true, true_and, and_false, false_and, te1, a2]
    · rw [if_neg e2] at q1
      have a2 := m_isWayN (M := M.row 165 A) (y := i2 z) y0 y1 e2
      refine OpR.op hi (opR_keep (r := i2 (-1)) c g ha ?_ ?_)
      · unfold fX11_seen
        simp -dsimp (disch := omega) only [↓B1_bp, ↓B2_bp, BP_some, BQ_some, ↓reduceIte, L_0, L_1, L_2, L_3, L_4, L_5, L_6, L_7, L_8, L_9, L_10, L_11, L_12, L_13, L_54, L_14, L_99, L_20, L_30, L_31, L_60, L_19, i2_add, i2_sub, i2_mul, i2_neg, Int.reduceAdd, Int.reduceSub, Int.reduceMul, Int.reduceNeg, Int.reduceLT, Int.reduceLE, Int.reduceEq, i2_le, i2_lt, i2_eq, uA_self, uA_ne, tf_0, not_true_eq_false, not_false_eq_true, L_15, L_40, L_100, L_101, L_200, L_999, ↓NL_bp, BNP_none, BNP_some, and_self, if_true, if_false, and_true, true_and, and_false, false_and, t_now h, d_gk (t_d1 h), q1, c_isWithin, te1]
      · unfold fX12_seen
        simp -dsimp (disch := omega) only [↓B1_bp, ↓B2_bp, BP_some, BQ_some, ↓reduceIte, gk_row, rdN_row, alN_row, alN__row, gk_m hm, rdm0 hm, rdm1 hm, rdm2 hm, rdm3 hm, L_0, L_1, L_2, L_3, L_4, L_5, L_6, L_7, L_8, L_9, L_10, L_11, L_12, L_13, L_54, L_14, L_99, L_20, L_30, L_31, L_60, L_19, i2_add, i2_sub, i2_mul, i2_neg, Int.reduceAdd, Int.reduceSub, Int.reduceMul, Int.reduceNeg, Int.reduceLT, Int.reduceLE, Int.reduceEq, i2_le, i2_lt, i2_eq, J_0, J_1, J_2, J_3, J_5, J_7, J_8, J_9, J_10, J_13, J_15, J_30, J_60, J_99, J_100, J_999, J_n1, i2_j2, m_in, tf_0, not_true_eq_false, not_false_eq_true, m_al hm, L_15, L_40, L_100, L_101, L_190, L_200, L_999, uA_self, and_self, if_true, if_false, and_true, true_and, and_false, false_and, te1, a2]
  · have te1 : tf (0 ≤ x ∧ x ≤ 3) = 0 := tf_f e1
    refine OpR.op hi (opR_keep (r := i2 (-1)) c g ha ?_ ?_)
    · unfold fX11_seen
      simp -dsimp (disch := omega) only [↓B1_bp, ↓B2_bp, BP_some, BQ_some, ↓reduceIte, L_0, L_1, L_2, L_3, L_4, L_5, L_6, L_7, L_8, L_9, L_10, L_11, L_12, L_13, L_54, L_14, L_99, L_20, L_30, L_31, L_60, L_19, i2_add, i2_sub, i2_mul, i2_neg, Int.reduceAdd, Int.reduceSub, Int.reduceMul, Int.reduceNeg, Int.reduceLT, Int.reduceLE, Int.reduceEq, i2_le, i2_lt, i2_eq, uA_self, uA_ne, tf_0, not_true_eq_false, not_false_eq_true, L_15, L_40, L_100, L_101, L_200, L_999, ↓NL_bp, BNP_none, BNP_some, and_self, if_true, if_false, and_true, true_and, and_false, false_and, t_now h, d_gk (t_d1 h), q1, c_isWithin, te1]
    · unfold fX12_seen
      simp -dsimp (disch := omega) only [↓B1_bp, ↓B2_bp, BP_some, BQ_some, ↓reduceIte, gk_row, rdN_row, alN_row, alN__row, gk_m hm, rdm0 hm, rdm1 hm, rdm2 hm, rdm3 hm, L_0, L_1, L_2, L_3, L_4, L_5, L_6, L_7, L_8, L_9, L_10, L_11, L_12, L_13, L_54, L_14, L_99, L_20, L_30, L_31, L_60, L_19, i2_add, i2_sub, i2_mul, i2_neg, Int.reduceAdd, Int.reduceSub, Int.reduceMul, Int.reduceNeg, Int.reduceLT, Int.reduceLE, Int.reduceEq, i2_le, i2_lt, i2_eq, J_0, J_1, J_2, J_3, J_5, J_7, J_8, J_9, J_10, J_13, J_15, J_30, J_60, J_99, J_100, J_999, J_n1, i2_j2, m_in, tf_0, not_true_eq_false, not_false_eq_true, m_al hm, L_15, L_40, L_100, L_101, L_190, L_200, L_999, uA_self, and_self, if_true, if_false, and_true, true_and, and_false, false_and, te1]
/-- how much is open behind a way -/
def obA (A : Int → Int) (w : Int) : Int := opOn (pwA A (wayS (lwA A) (wtA A w) (ntA A w) 0 (A (12 + w) - 0).toNat))
theorem c_openBehind (h : LayC M) (c : CR M 1 A) (g : GA A) {w : Int} (e : 0 ≤ w ∧ w ≤ 1) : ∃ X, fX11_openBehind M 0 (1 + 5 + 3 * w.toNat) = some (i2 (obA A w), X) ∧ SmP TrP M X := by
  have gc := g_wcnt g e
  have wr := d_wrx (t_d1 h) c g e
  obtain ⟨X, k1, k2, k3⟩ := c_tryBecome h c g
  have cX := TrP.cr k3 g c
  have hX := h.sm k3
  have wrX := d_wrx (t_d1 hX) cX g e
  obtain ⟨X2, p1, p2, p3⟩ := c_tryPass hX cX g k2 g (fun _ _ => rfl) e (fr := 0) (to := A (12 + w)) (by decide) gc.1 (Int.le_refl _)
  have ga2 : GA (pwA A (wayS (lwA A) (wtA A w) (ntA A w) 0 (A (12 + w) - 0).toNat)) := g.pw fun S q => q.way g.2.2.2.2.2.1 _ _
  have hX2 := hX.sm p3
  have op := c_openTogether (t_d71 hX2) p2 ga2
  refine ⟨X2, ?_, k3.tr p3⟩
  unfold fX11_openBehind
  simp -dsimp (disch := omega) only [↓B1_bp, ↓B2_bp, BP_some, BQ_some, ↓reduceIte, L_0, L_1, L_2, L_3, L_4, L_5, L_6, L_7, L_8, L_9, L_10, L_11, L_12, L_13, L_54, L_14, L_99, L_20, L_30, L_31, L_60, L_19, i2_add, i2_sub, i2_mul, i2_neg, Int.reduceAdd, Int.reduceSub, Int.reduceMul, Int.reduceNeg, Int.reduceLT, Int.reduceLE, Int.reduceEq, i2_le, i2_lt, i2_eq, uA_self, uA_ne, tf_0, not_true_eq_false, not_false_eq_true, L_15, L_40, L_100, L_101, L_200, L_999, ↓NL_bp, BNP_none, BNP_some, and_self, if_true, if_false, and_true, true_and, and_false, false_and, t_now h, d_gk (t_d1 h), t_tried h, d_gk (t_d71 h), k1, t_tried hX, wrX.2.1, d_gk (t_d71 hX), p1, t_tried hX2, d_gk (t_d71 hX2), op]
  rfl
theorem m_openBehind (h : LayM M) (g : GA A) {w : Int} (e : 0 ≤ w ∧ w ≤ 1) : ∃ Z R, fX12_openBehind (M.row 165 A) 164 (i2 w) = some (i2 (obA A w), (M.row 167 Z).row 165 R) ∧ E158 R A := by
  have gc := g_wcnt g e
  have ga2 : GA (pwA A (wayS (lwA A) (wtA A w) (ntA A w) 0 (A (12 + w) - 0).toNat)) := g.pw fun S q => q.way g.2.2.2.2.2.1 _ _
  have l1 := m_lends (A := A) h
  have hY2 : LayM (M.row 167 (mx A (gI M 167) 158)) := h
  have l2 := m_walks (A := A) hY2 g (w := w) (fr := 0) (to := A (12 + w)) e.1 (by omega) (by decide) gc.1 (Int.le_refl _)
  have l3 := m_openOn (A := pwA A (wayS (lwA A) (wtA A w) (ntA A w) 0 (A (12 + w) - 0).toNat)) hY2 ga2
  have l4 := m_laysBack (A := pwA A (wayS (lwA A) (wtA A w) (ntA A w) 0 (A (12 + w) - 0).toNat)) (X := mx A (gI M 167) 158) h
  have l5 : alI ((M.row 167 (mx A (gI M 167) 158)).row 165 A) 165 (i2 (12 + w)) = some (i2 (A (12 + w))) := m_al hY2 (by omega) (by omega)
  refine ⟨mx A (gI M 167) 158, mx (mx A (gI M 167) 158) (pwA A (wayS (lwA A) (wtA A w) (ntA A w) 0 (A (12 + w) - 0).toNat)) 158, ?_, e_back⟩
  unfold fX12_openBehind
  have hm := h
  simp -dsimp (disch := omega) only [↓B1_bp, ↓B2_bp, BP_some, BQ_some, ↓reduceIte, gk_row, rdN_row, alN_row, alN__row, gk_m hm, rdm0 hm, rdm1 hm, rdm2 hm, rdm3 hm, L_0, L_1, L_2, L_3, L_4, L_5, L_6, L_7, L_8, L_9, L_10, L_11, L_12, L_13, L_54, L_14, L_99, L_20, L_30, L_31, L_60, L_19, i2_add, i2_sub, i2_mul, i2_neg, Int.reduceAdd, Int.reduceSub, Int.reduceMul, Int.reduceNeg, Int.reduceLT, Int.reduceLE, Int.reduceEq, i2_le, i2_lt, i2_eq, J_0, J_1, J_2, J_3, J_5, J_7, J_8, J_9, J_10, J_13, J_15, J_30, J_60, J_99, J_100, J_999, J_n1, i2_j2, m_in, tf_0, not_true_eq_false, not_false_eq_true, m_al hm, L_15, L_40, L_100, L_101, L_190, L_200, L_999, uA_self, and_self, if_true, if_false, and_true, true_and, and_false, false_and, l1, l5, l2, l3, l4]
  rfl
end TRIAL
