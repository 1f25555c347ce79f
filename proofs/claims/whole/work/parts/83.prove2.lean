section PROVE2
variable {M : Mm} {A : Int → Int}
/-- the cells of both sides that rows touch -/
def RoP (p : Nat) : Prop := Scr p ∨ p = 0 ∨ p = 164 ∨ (150 ≤ p ∧ p < 160) ∨ p = 170
theorem SmP.mono {P Q : Nat → Prop} {M M' : Mm} (h : SmP P M M') (hq : ∀ p, P p → Q p) : SmP Q M M' := ⟨h.1, fun p hp => h.2 p fun z => hp (hq p z)⟩
/-- what the rows do not touch -/
theorem Inv.rows {M2 : Mm} {A' : Int → Int} (hi : Inv M) (s : SmP RoP M M2) (e0 : gI M2 0 2 = gI M 0 2) (e4 : gI M2 164 4 = gI M 164 4) (e6 : gI M2 164 6 = gI M 164 6) (e20 : gI M2 164 20 = gI M 164 20) (r : RI M2) (ha : M2.g 165 = rI A') (g : GA A') (c : CR M2 1 A') : Inv M2 := by
  obtain ⟨⟨A, b1, b2, b3, -⟩, k1, k2, k3, k4, k5, k6⟩ := hi
  have e : ∀ p, ¬ RoP p → gI M2 p = gI M p := fun p hp => gI_of (s.2 p hp)
  refine ⟨⟨A', b1.sm s, b2.sm s, by rw [s.1.1]; exact b3, ha, g, c⟩, k1.sm s e0 e4 (by unfold RoP Scr; omega), k2.sm s (by rw [e 109 (by unfold RoP Scr; omega)]) e6 (by unfold RoP Scr; omega), r, k4.sm s (by unfold RoP Scr; omega), k5.sm s (by unfold RoP Scr; omega), k6.sm s e20 (by unfold RoP Scr; omega)⟩
theorem m_prove_L {X : Mm} {P Q : Int → Int} {c : Int} (h : LayM X) (hc : gI X 164 11 = c) (c0 : 0 ≤ c) (c9 : c ≤ 10) (hp : ∀ i : Int, 0 ≤ i → i < 30 → alI X 171 (i2 i) = some (i2 (P i))) : ∀ (d N : Nat) (n : Int), d < N → 0 ≤ n → n + d = 3 * c → fX12_prove_L51 164 N (i2 n) (X.row 170 (mx P Q n)) = some (i2 c, X.row 170 (mx P Q (3 * c))) := by
  have rd : ∀ U, rdI (X.row 170 U) 164 15 11 = some (i2 c) := fun U => by
    rw [rdI_row (by decide), g_rdI h.1.1, ← hc]
    rfl
  have r10 := m_r10 h
  have r12 := m_r12 h
  intro d
  induction d with
  | zero =>
    intro N n hN n0 hn
    obtain ⟨N, rfl⟩ : ∃ k, N = k + 1 := ⟨N - 1, by omega⟩
    have e : n = 3 * c := by omega
    subst e
    simp -dsimp (disch := omega) only [fX12_prove_L51, ↓B1_bp, ↓B2_bp, BP_some, BQ_some, ↓reduceIte, L_0, L_1, L_2, L_3, L_4, L_5, L_6, L_7, L_8, L_9, L_10, L_11, L_12, L_13, L_54, L_14, L_99, L_20, L_30, L_31, L_60, L_19, i2_add, i2_sub, i2_mul, i2_neg, Int.reduceAdd, Int.reduceSub, Int.reduceMul, Int.reduceNeg, Int.reduceLT, Int.reduceLE, Int.reduceEq, i2_le, i2_lt, i2_eq, uA_self, uA_ne, tf_0, not_true_eq_false, not_false_eq_true, rd, Int.le_refl, if_true]
  | succ d ih =>
    intro N n hN n0 hn
    obtain ⟨N, rfl⟩ : ∃ k, N = k + 1 := ⟨N - 1, by omega⟩
    have q : ¬ 3 * c ≤ n := by omega
    have as1 : asI (X.row 170 (mx P Q n)) 170 (i2 n) (i2 (P n)) = some (X.row 170 (mx P Q (n + 1))) := by
      rw [asI_row (ar_ro h) n0 (by omega) (by omega), mx_uA n0]
    have al1 : alI (X.row 170 (mx P Q n)) 171 (i2 n) = some (i2 (P n)) := by
      rw [alI_ne (by decide)]
      exact hp n n0 (by omega)
    have j := ih N (n + 1) (by omega) (by omega) (by omega)
    rw [← j]
    simp -dsimp (disch := omega) only [fX12_prove_L51, ↓B1_bp, ↓B2_bp, BP_some, BQ_some, ↓reduceIte, L_0, L_1, L_2, L_3, L_4, L_5, L_6, L_7, L_8, L_9, L_10, L_11, L_12, L_13, L_54, L_14, L_99, L_20, L_30, L_31, L_60, L_19, i2_add, i2_sub, i2_mul, i2_neg, Int.reduceAdd, Int.reduceSub, Int.reduceMul, Int.reduceNeg, Int.reduceLT, Int.reduceLE, Int.reduceEq, i2_le, i2_lt, i2_eq, uA_self, uA_ne, tf_0, not_true_eq_false, not_false_eq_true, rd, q, if_false, rdN_row, r10, r12, al1, as1]
theorem mx_lt {P Q : Int → Int} {n y : Int} (h0 : 0 ≤ y) (h1 : y < n) : mx P Q n y = P y := if_pos ⟨h0, h1⟩
theorem op_prove (h : LayC M) (hm : LayM M) (c : CR M 1 A) (g : GA A) (ha : M.g 165 = rI A) {x y : Int} (x0 : -2147483648 ≤ x) (x1 : x < 2147483648) (y0 : -2147483648 ≤ y) (y1 : y < 2147483648) (hi : Inv M) : Op M (fun M => fX11_prove M 0 (i2 x) (i2 y)) (fun M => fX12_prove M 164 (i2 x) (i2 y)) := by
  have g0 := g.1
  have q1 := c_wayAt (t_d1 h) y0 y1
  have q2 := c_isFoot M x0 x1
  have a1 := m_isTwo (M.row 165 A) x0 x1
  have a2 := m_isTwo (M.row 165 A) y0 y1
  by_cases e1 : 0 ≤ x ∧ x ≤ 1
  · rw [tf_t e1] at q2 a1
    have bf := b_feet g e1.1 e1.2
    by_cases e2 : 0 ≤ y ∧ y ≤ 1
    · rw [if_pos e2] at q1
      rw [tf_t e2] at a2
      have gc := g_wcnt g e2
      obtain ⟨X, k1, k2, k3⟩ := c_beginTrial h c g e1.1 e1.2
      have cX := TrP.cr k3 g c
      have hX := h.sm k3
      by_cases e4 : 0 ≤ A (2 + x)
      · have e5 : 0 ≤ A (2 + x) ∧ A (2 + x) < A 0 := ⟨e4, bf.2⟩
        have hk : (((A (2 + x)).toNat : Nat) : Int) = A (2 + x) := by omega
        rw [show stAt A 71 (A (2 + x)) = some (71 + 11 + 3 * (A (2 + x)).toNat) from if_pos e5] at k1
        have t0 := ts_begin (k := (A (2 + x)).toNat) hX cX g k2 (by omega)
        rw [hk] at t0
        obtain ⟨X1, p1, p2, p3⟩ := c_prove_L g (k := (A (2 + x)).toNat) (S0 := stA A (A (2 + x))) (by omega) e2 (A (12 + y)).toNat FL X 0 t0 (fun i hi' => absurd hi' (by omega)) (by show _ < 4096; omega) (by omega)
        -- the component's memory
        have sP : SmP PrP M X1 := SmP.tr (k3.mono fun p z => Or.inl z) p2
        have s1 : SmP RoP M (X1.row 0 (uA (gI X1 0) 7 (A (12 + y)))) := SmP.tr (sP.mono fun p z => by
          rcases z with z | z
          · exact Or.inl (by unfold Scr; omega)
          · exact Or.inr (Or.inr (Or.inr (Or.inl z)))) (SmP.row X1 _ (Or.inr (Or.inl rfl)))
        have hm1 := hm.sm s1
        have s165 : (X1.row 0 (uA (gI X1 0) 7 (A (12 + y)))).g 165 = M.g 165 := by
          rw [row_g_ne _ (by decide)]
          exact sP.2 165 (by unfold PrP; omega)
        have eX : X1.row 0 (uA (gI X1 0) 7 (A (12 + y))) = (X1.row 0 (uA (gI X1 0) 7 (A (12 + y)))).row 165 A := row_of (s165.trans ha)
        have cX1 : CR (X1.row 0 (uA (gI X1 0) 7 (A (12 + y)))) 1 A := (c.sm sP (fun p a b z => by unfold PrP at z; omega) g.1.2).same (Same.row X1 0 _) (by omega) g.1.2
        have z0 : gI (X1.row 0 (uA (gI X1 0) 7 (A (12 + y)))) 0 2 = gI M 0 2 := by
          rw [gI_u_ne (by decide) (by decide), gI_of (sP.2 0 (by unfold PrP; omega))]
        have z7 : gI (X1.row 0 (uA (gI X1 0) 7 (A (12 + y)))) 0 7 = A (12 + y) := gI_u (by decide) (by omega) (by omega)
        have zr : ∀ i : Nat, (i : Int) < A (12 + y) → ∀ j : Int, 0 ≤ j → j < 3 → gI (X1.row 0 (uA (gI X1 0) 7 (A (12 + y)))) (150 + i) j = duA A y (stA A (A (2 + x))) (3 * i + j) := fun i hi' j j0 j3 => by
          rw [gI_ne _ (by omega)]
          exact p3 i hi' j j0 j3
        have z164 : ∀ q, q = 164 ∨ q = 170 → gI (X1.row 0 (uA (gI X1 0) 7 (A (12 + y)))) q = gI M q := fun q hq => by
          rw [gI_ne _ (by omega), gI_of (sP.2 q (by unfold PrP; omega))]
        generalize hU : X1.row 0 (uA (gI X1 0) 7 (A (12 + y))) = U at p1 s1 hm1 eX cX1 z0 z7 zr z164
        obtain ⟨Z, R, D, d1, d2, d3⟩ := m_findDue (A := A) hm1 g e1 e2 e4
        have hV : LayM (((U.row 171 D).row 167 Z).row 165 R) := hm1
        have r7 : alI (((U.row 171 D).row 167 Z).row 165 R) 165 (i2 (12 + y)) = some (i2 (A (12 + y))) := by
          rw [m_al (show LayM ((U.row 171 D).row 167 Z) from hm1) (by omega) (by omega), d2 _ (by omega) (by omega)]
        have wi := g_wrI (M := ((U.row 171 D).row 167 Z).row 165 R) (p := 164) (kd := 15) (j := 11) (v := A (12 + y)) hV.1.1 (by decide)
        rw [show ((11 : Nat) : Int) = 11 from rfl] at wi
        -- the reference's memory
        have n4 : ∀ j : Int, 0 ≤ j → j ≠ 11 → gI ((((U.row 171 D).row 167 Z).row 165 R).row 164 (uA (gI (((U.row 171 D).row 167 Z).row 165 R) 164) 11 (A (12 + y)))) 164 j = gI M 164 j := fun j j0 jn => by
          rw [gI_u_ne j0 jn, gI_ne _ (by decide), gI_ne _ (by decide), gI_ne _ (by decide), z164 164 (Or.inl rfl)]
        have n11 : gI ((((U.row 171 D).row 167 Z).row 165 R).row 164 (uA (gI (((U.row 171 D).row 167 Z).row 165 R) 164) 11 (A (12 + y)))) 164 11 = A (12 + y) := gI_u (by decide) (by omega) (by omega)
        have nD : ∀ i : Int, 0 ≤ i → i < 30 → alI ((((U.row 171 D).row 167 Z).row 165 R).row 164 (uA (gI (((U.row 171 D).row 167 Z).row 165 R) 164) 11 (A (12 + y)))) 171 (i2 i) = some (i2 (D i)) := fun i i0 i9 => by
          rw [alI_ne (by decide), alI_ne (by decide), alI_ne (by decide), alI_row (ar_du hm1) i0 i9 (by omega)]
        have n165 : ((((U.row 171 D).row 167 Z).row 165 R).row 164 (uA (gI (((U.row 171 D).row 167 Z).row 165 R) 164) 11 (A (12 + y)))).g 165 = rI R := by
          rw [row_g_ne _ (by decide), row_g]
        have sV : SmP RoP U ((((U.row 171 D).row 167 Z).row 165 R).row 164 (uA (gI (((U.row 171 D).row 167 Z).row 165 R) 164) 11 (A (12 + y)))) := (((SmP.row U D (by unfold RoP Scr; omega)).tr (SmP.row _ Z (by unfold RoP Scr; omega))).tr (SmP.row _ R (by unfold RoP Scr; omega))).tr (SmP.row _ _ (Or.inr (Or.inr (Or.inl rfl))))
        have nP : SmP (fun p => p = 171 ∨ p = 167 ∨ p = 165 ∨ p = 164) U ((((U.row 171 D).row 167 Z).row 165 R).row 164 (uA (gI (((U.row 171 D).row 167 Z).row 165 R) 164) 11 (A (12 + y)))) := (((SmP.row U D (Or.inl rfl)).tr (SmP.row _ Z (Or.inr (Or.inl rfl)))).tr (SmP.row _ R (Or.inr (Or.inr (Or.inl rfl))))).tr (SmP.row _ _ (Or.inr (Or.inr (Or.inr rfl))))
        have hV2 := hm1.sm sV
        generalize hW : (((U.row 171 D).row 167 Z).row 165 R).row 164 (uA (gI (((U.row 171 D).row 167 Z).row 165 R) 164) 11 (A (12 + y))) = W at wi n4 n11 nD n165 sV nP hV2
        have lp := m_prove_L (P := D) (Q := gI W 170) hV2 n11 gc.1 gc.2 nD (3 * A (12 + y)).toNat FL 0 (by show _ < 4096; omega) (by decide) (by omega)
        rw [mx_0, row_gI] at lp
        have gR := g.e d2
        have s2 : SmP RoP W (W.row 170 (mx D (gI W 170) (3 * A (12 + y)))) := SmP.row _ _ (by unfold RoP; omega)
        have cW : CR W 1 R := (cX1.sm nP (fun p a b z => by omega) g.1.2).e d2 g
        refine ⟨i2 (A (12 + y)), U, W.row 170 (mx D (gI W 170) (3 * A (12 + y))), ?_, ?_, ?_⟩
        · show fX11_prove M 0 (i2 x) (i2 y) = _
          unfold fX11_prove
          rw [show ((0 : Nat) : Int) = 0 from rfl] at p1
          simp -dsimp (disch := omega) only [↓B1_bp, ↓B2_bp, BP_some, BQ_some, ↓reduceIte, L_0, L_1, L_2, L_3, L_4, L_5, L_6, L_7, L_8, L_9, L_10, L_11, L_12, L_13, L_54, L_14, L_99, L_20, L_30, L_31, L_60, L_19, i2_add, i2_sub, i2_mul, i2_neg, Int.reduceAdd, Int.reduceSub, Int.reduceMul, Int.reduceNeg, Int.reduceLT, Int.reduceLE, Int.reduceEq, i2_le, i2_lt, i2_eq, uA_self, uA_ne, tf_0, not_true_eq_false, not_false_eq_true, L_15, L_40, L_100, L_101, L_200, L_999, ↓NL_bp, BNP_none, BNP_some, and_self, if_true, if_false, and_true, true_and, and_false, false_and, t_now h, d_gk (t_d1 h), q1, q2, t_gk h, k1, p1]
        · have a1 := m_isTwo (U.row 165 A) x0 x1
          have a2 := m_isTwo (U.row 165 A) y0 y1
          rw [tf_t e1] at a1
          rw [tf_t e2] at a2
          show fX12_prove U 164 (i2 x) (i2 y) = _
          rw [eX]
          unfold fX12_prove
          have hX := hm1
          simp -dsimp (disch := omega) only [↓B1_bp, ↓B2_bp, BP_some, BQ_some, ↓reduceIte, gk_row, rdN_row, alN_row, alN__row, gk_m hX, rdm0 hX, rdm1 hX, rdm2 hX, rdm3 hX, L_0, L_1, L_2, L_3, L_4, L_5, L_6, L_7, L_8, L_9, L_10, L_11, L_12, L_13, L_54, L_14, L_99, L_20, L_30, L_31, L_60, L_19, i2_add, i2_sub, i2_mul, i2_neg, Int.reduceAdd, Int.reduceSub, Int.reduceMul, Int.reduceNeg, Int.reduceLT, Int.reduceLE, Int.reduceEq, i2_le, i2_lt, i2_eq, J_0, J_1, J_2, J_3, J_5, J_7, J_8, J_9, J_10, J_13, J_15, J_30, J_60, J_99, J_100, J_999, J_n1, i2_j2, m_in, tf_0, not_true_eq_false, not_false_eq_true, m_al hX, L_15, L_40, L_100, L_101, L_190, L_200, L_999, uA_self, and_self, if_true, if_false, and_true, true_and, and_false, false_and, a1, a2, e4, d1, r7, wi, lp]
        · have w170 : ∀ q, q ≠ 170 → gI (W.row 170 (mx D (gI W 170) (3 * A (12 + y)))) q = gI W q := fun q hq => gI_ne _ hq
          refine Inv.rows (A' := R) hi ((s1.tr sV).tr s2) ?_ ?_ ?_ ?_ ?_ ?_ gR (cW.same (Same.row W 170 _) (by omega) gR.1.2)
          · rw [w170 0 (by decide), gI_of (nP.2 0 (by omega)), z0]
          · rw [w170 164 (by decide), n4 4 (by decide) (by decide)]
          · rw [w170 164 (by decide), n4 6 (by decide) (by decide)]
          · rw [w170 164 (by decide), n4 20 (by decide) (by decide)]
          · refine ⟨?_, ?_, ?_⟩
            · rw [w170 164 (by decide), w170 0 (by decide), n11, gI_of (nP.2 0 (by omega)), z7]
            · rw [w170 0 (by decide), gI_of (nP.2 0 (by omega)), z7]
              exact gc
            · intro i hi' j j0 j3
              rw [w170 0 (by decide), gI_of (nP.2 0 (by omega)), z7] at hi'
              rw [w170 _ (by omega), gI_of (nP.2 _ (by omega)), zr i hi' j j0 j3, gI_row _ _ _ (by omega), nrI, mx_lt (by omega) (by omega), d3 _ (by omega) (by omega)]
              refine (i2_toInt ?_ ?_).symm
              all_goals
                have gp := pr_gs (w := y) g (g.2.2.2.2.2.2.2 _ e4 bf.2) (i + 1)
                have b67 := cl_67 gp
                have jj : j = 0 ∨ j = 1 ∨ j = 2 := by omega
                rcases jj with rfl | rfl | rfl
                · rw [Int.add_zero, du_0]; omega
                · rw [du_1]; omega
                · rw [du_2]; omega
          · rw [row_g_ne _ (by decide)]
            exact n165
      · rw [show stAt A 71 (A (2 + x)) = none from if_neg (fun q => e4 q.1)] at k1
        refine op_T0 (X := X) (r := i2 (-3)) hi hm ha g ?_ (TrP.scr k3) (tr165 k3) cX fun Y hY => ?_
        · unfold fX11_prove
          simp -dsimp (disch := omega) only [↓B1_bp, ↓B2_bp, BP_some, BQ_some, ↓reduceIte, L_0, L_1, L_2, L_3, L_4, L_5, L_6, L_7, L_8, L_9, L_10, L_11, L_12, L_13, L_54, L_14, L_99, L_20, L_30, L_31, L_60, L_19, i2_add, i2_sub, i2_mul, i2_neg, Int.reduceAdd, Int.reduceSub, Int.reduceMul, Int.reduceNeg, Int.reduceLT, Int.reduceLE, Int.reduceEq, i2_le, i2_lt, i2_eq, uA_self, uA_ne, tf_0, not_true_eq_false, not_false_eq_true, L_15, L_40, L_100, L_101, L_200, L_999, ↓NL_bp, BNP_none, BNP_some, and_self, if_true, if_false, and_true, true_and, and_false, false_and, t_now h, d_gk (t_d1 h), q1, q2, t_gk h, k1]
        · have a1 := m_isTwo (Y.row 165 A) x0 x1
          have a2 := m_isTwo (Y.row 165 A) y0 y1
          rw [tf_t e1] at a1
          rw [tf_t e2] at a2
          have hX := hY
          unfold fX12_prove
          simp -dsimp (disch := omega) only [↓B1_bp, ↓B2_bp, BP_some, BQ_some, ↓reduceIte, gk_row, rdN_row, alN_row, alN__row, gk_m hX, rdm0 hX, rdm1 hX, rdm2 hX, rdm3 hX, L_0, L_1, L_2, L_3, L_4, L_5, L_6, L_7, L_8, L_9, L_10, L_11, L_12, L_13, L_54, L_14, L_99, L_20, L_30, L_31, L_60, L_19, i2_add, i2_sub, i2_mul, i2_neg, Int.reduceAdd, Int.reduceSub, Int.reduceMul, Int.reduceNeg, Int.reduceLT, Int.reduceLE, Int.reduceEq, i2_le, i2_lt, i2_eq, J_0, J_1, J_2, J_3, J_5, J_7, J_8, J_9, J_10, J_13, J_15, J_30, J_60, J_99, J_100, J_999, J_n1, i2_j2, m_in, tf_0, not_true_eq_false, not_false_eq_true, m_al hX, L_15, L_40, L_100, L_101, L_190, L_200, L_999, uA_self, and_self, if_true, if_false, and_true, true_and, and_false, false_and, a1, a2, e4]
    · rw [if_neg e2] at q1
      rw [tf_f e2] at a2
      refine OpR.op hi (opR_keep (r := i2 (-1)) c g ha ?_ ?_)
      · unfold fX11_prove
        simp -dsimp (disch := omega) only [↓B1_bp, ↓B2_bp, BP_some, BQ_some, ↓reduceIte, L_0, L_1, L_2, L_3, L_4, L_5, L_6, L_7, L_8, L_9, L_10, L_11, L_12, L_13, L_54, L_14, L_99, L_20, L_30, L_31, L_60, L_19, i2_add, i2_sub, i2_mul, i2_neg, Int.reduceAdd, Int.reduceSub, Int.reduceMul, Int.reduceNeg, Int.reduceLT, Int.reduceLE, Int.reduceEq, i2_le, i2_lt, i2_eq, uA_self, uA_ne, tf_0, not_true_eq_false, not_false_eq_true, L_15, L_40, L_100, L_101, L_200, L_999, ↓NL_bp, BNP_none, BNP_some, and_self, if_true, if_false, and_true, true_and, and_false, false_and, t_now h, d_gk (t_d1 h), q1, q2]
      · unfold fX12_prove
        simp -dsimp (disch := omega) only [↓B1_bp, ↓B2_bp, BP_some, BQ_some, ↓reduceIte, gk_row, rdN_row, alN_row, alN__row, gk_m hm, rdm0 hm, rdm1 hm, rdm2 hm, rdm3 hm, L_0, L_1, L_2, L_3, L_4, L_5, L_6, L_7, L_8, L_9, L_10, L_11, L_12, L_13, L_54, L_14, L_99, L_20, L_30, L_31, L_60, L_19, i2_add, i2_sub, i2_mul, i2_neg, Int.reduceAdd, Int.reduceSub, Int.reduceMul, Int.reduceNeg, Int.reduceLT, Int.reduceLE, Int.reduceEq, i2_le, i2_lt, i2_eq, J_0, J_1, J_2, J_3, J_5, J_7, J_8, J_9, J_10, J_13, J_15, J_30, J_60, J_99, J_100, J_999, J_n1, i2_j2, m_in, tf_0, not_true_eq_false, not_false_eq_true, m_al hm, L_15, L_40, L_100, L_101, L_190, L_200, L_999, uA_self, and_self, if_true, if_false, and_true, true_and, and_false, false_and, a1, a2]
  · rw [tf_f e1] at q2 a1
    refine OpR.op hi (opR_keep (r := i2 (-1)) c g ha ?_ ?_)
    · unfold fX11_prove
      simp -dsimp (disch := omega) only [↓B1_bp, ↓B2_bp, BP_some, BQ_some, ↓reduceIte, L_0, L_1, L_2, L_3, L_4, L_5, L_6, L_7, L_8, L_9, L_10, L_11, L_12, L_13, L_54, L_14, L_99, L_20, L_30, L_31, L_60, L_19, i2_add, i2_sub, i2_mul, i2_neg, Int.reduceAdd, Int.reduceSub, Int.reduceMul, Int.reduceNeg, Int.reduceLT, Int.reduceLE, Int.reduceEq, i2_le, i2_lt, i2_eq, uA_self, uA_ne, tf_0, not_true_eq_false, not_false_eq_true, L_15, L_40, L_100, L_101, L_200, L_999, ↓NL_bp, BNP_none, BNP_some, and_self, if_true, if_false, and_true, true_and, and_false, false_and, t_now h, d_gk (t_d1 h), q1, q2]
    · unfold fX12_prove
      simp -dsimp (disch := omega) only [↓B1_bp, ↓B2_bp, BP_some, BQ_some, ↓reduceIte, gk_row, rdN_row, alN_row, alN__row, gk_m hm, rdm0 hm, rdm1 hm, rdm2 hm, rdm3 hm, L_0, L_1, L_2, L_3, L_4, L_5, L_6, L_7, L_8, L_9, L_10, L_11, L_12, L_13, L_54, L_14, L_99, L_20, L_30, L_31, L_60, L_19, i2_add, i2_sub, i2_mul, i2_neg, Int.reduceAdd, Int.reduceSub, Int.reduceMul, Int.reduceNeg, Int.reduceLT, Int.reduceLE, Int.reduceEq, i2_le, i2_lt, i2_eq, J_0, J_1, J_2, J_3, J_5, J_7, J_8, J_9, J_10, J_13, J_15, J_30, J_60, J_99, J_100, J_999, J_n1, i2_j2, m_in, tf_0, not_true_eq_false, not_false_eq_true, m_al hm, L_15, L_40, L_100, L_101, L_190, L_200, L_999, uA_self, and_self, if_true, if_false, and_true, true_and, and_false, false_and, a1]
end PROVE2
