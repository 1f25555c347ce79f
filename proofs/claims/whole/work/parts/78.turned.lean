section TURNED
variable {M : Mm} {A : Int → Int}
/-- one stocking turned another way -/
def anA (R : Int → Int) (k v : Int) : Int → Int := putA R k (uA (stA R k) 5 v)
theorem anA_an {R : Int → Int} {k u v : Int} : anA (anA R k u) k v = anA R k v := by
  unfold anA
  rw [put_put]
  refine put_cg fun j a b => ?_
  unfold uA
  split
  · rfl
  · rename_i h
    rw [st_put a b]
    exact if_neg h
theorem GS.an {S : Int → Int} {v : Int} (g : GS S) (v0 : 0 ≤ v) (v1 : v < 4) : GS (uA S 5 v) := by
  obtain ⟨a0, a1, a2, a3, a4, a5, a⟩ := g
  exact ⟨a0, a1, a2, a3, a4, ⟨v0, (by omega : v ≤ 3)⟩, a⟩
theorem GA.an {R : Int → Int} {k v : Int} (g : GA R) (k0 : 0 ≤ k) (k1 : k < R 0) (v0 : 0 ≤ v) (v1 : v < 4) : GA (anA R k v) := g.put k0 ((g.2.2.2.2.2.2.2 k k0 k1).an v0 v1)
def tuF (sn : Int → Int) : Nat → Int → Int → Int → Int
  | 0, b, _, _ => b
  | d + 1, b, l, v => if l ≤ sn v then tuF sn d b l (v + 1) else tuF sn d v (sn v) (v + 1)
theorem snB_b {R : Int → Int} (g : GA R) (b : Int → Int) : 0 ≤ snB R b ∧ snB R b ≤ 200 := by
  have q := snO_b g b (R 2) 0
  have q2 := snO_b g b (R 3) 1
  unfold snB
  omega
theorem c_angle {X : Mm} {B : Nat} {D : Int → Int} {k : Int} (h : LayD X B) (c : CR X B D) (g : GA D) (k0 : 0 ≤ k) (k1 : k < D 0) {v : Int} (v0 : 0 ≤ v) (v1 : v < 4) : ∃ X', wrI X (B + 11 + 3 * k.toNat) 10 5 (i2 v) = some X' ∧ CR X' B (anA D k v) ∧ Same X X' (B + 11) (B + 35) := by
  have hk : ((k.toNat : Nat) : Int) = k := by omega
  have sr := c.2.2.2.2 k.toNat (by omega)
  rw [hk] at sr
  obtain ⟨⟨r0, r1, r2, r3, r4, r5⟩, r6, r8, r9⟩ := sr
  have e := c_putI h c g (k := k.toNat) (j := 5) (v := v) (S := uA (stA D k) 5 v) (by omega) ⟨⟨r0, r1, r2, r3, r4, rfl⟩, r6, r8, r9⟩ ((g.2.2.2.2.2.2.2 k k0 k1).an v0 v1)
  rw [hk] at e
  exact e
theorem c_turned_L {R : Int → Int} {k m : Int} (gR : GA R) (k0 : 0 ≤ k) (k1 : k < R 0) (m0 : 0 ≤ m) (m9 : m < 16) : ∀ (d N : Nat) (X : Mm) (u b l v : Int), LayC X → CR X 71 (anA R k u) → GA (anA R k u) → d < N → 0 ≤ v → v + d = 4 → 0 ≤ b → b < 4 → 0 ≤ l → l ≤ 200 → ∃ X', fX11_turned_L86 0 (i2 m) (71 + 11 + 3 * k.toNat) N (i2 b) (i2 l) (i2 v) X = some (i2 (tuF (fun v => snB (anA R k v) (bt m)) d b l v), X') ∧ SmP TrP X X' := by
  intro d
  induction d with
  | zero =>
    intro N X u b l v h c g hN v0 hv b0 b4 l0 l9
    obtain ⟨N, rfl⟩ : ∃ k, N = k + 1 := ⟨N - 1, by omega⟩
    have e : v = 4 := by omega
    subst e
    exact ⟨X, if_pos (by decide +kernel), SmP.rf _ _⟩
  | succ d ih =>
    intro N X u b l v h c g hN v0 hv b0 b4 l0 l9
    obtain ⟨N, rfl⟩ : ∃ k, N = k + 1 := ⟨N - 1, by omega⟩
    have lo : anA R k u 0 = R 0 := put_lo k0 (by decide)
    obtain ⟨X1, p1, p2, p3⟩ := c_angle (t_d71 h) c g k0 (by rw [lo]; exact k1) v0 (show v < 4 by omega)
    rw [anA_an] at p2
    have h1 := h.same p3
    have g1 := gR.an k0 k1 v0 (show v < 4 by omega)
    have sn := c_seenFromAll (t_d71 h1) p2 g1 m0 m9
    have sb := snB_b g1 (bt m)
    have s1 : SmP TrP X X1 := TrP.of p3 (by decide) (by decide)
    have nv : ¬ 4 ≤ v := by omega
    show ∃ X', _ = some (i2 (if l ≤ snB (anA R k v) (bt m) then _ else _), X') ∧ _
    by_cases q : l ≤ snB (anA R k v) (bt m)
    · obtain ⟨X2, j1, j2⟩ := ih N X1 v b l (v + 1) h1 p2 g1 (by omega) (by omega) (by omega) b0 b4 l0 l9
      refine ⟨X2, ?_, s1.tr j2⟩
      rw [if_pos q, ← j1]
      clear ih j1 j2 gR g g1
      simp -dsimp (disch := omega) only [fX11_turned_L86, ↓B1_bp, ↓B2_bp, BP_some, BQ_some, ↓reduceIte, L_0, L_1, L_2, L_3, L_4, L_5, L_6, L_7, L_8, L_9, L_10, L_11, L_12, L_13, L_54, L_14, L_99, L_20, L_30, L_31, L_60, L_19, i2_add, i2_sub, i2_mul, i2_neg, Int.reduceAdd, Int.reduceSub, Int.reduceMul, Int.reduceNeg, Int.reduceLT, Int.reduceLE, Int.reduceEq, i2_le, i2_lt, i2_eq, uA_self, uA_ne, tf_0, not_true_eq_false, not_false_eq_true, nv, if_false, p1, t_tried h1, d_gk (t_d71 h1), sn, q, if_true]
    · obtain ⟨X2, j1, j2⟩ := ih N X1 v v (snB (anA R k v) (bt m)) (v + 1) h1 p2 g1 (by omega) (by omega) (by omega) v0 (by omega) sb.1 sb.2
      refine ⟨X2, ?_, s1.tr j2⟩
      rw [if_neg q, ← j1]
      clear ih j1 j2 gR g g1
      simp -dsimp (disch := omega) only [fX11_turned_L86, ↓B1_bp, ↓B2_bp, BP_some, BQ_some, ↓reduceIte, L_0, L_1, L_2, L_3, L_4, L_5, L_6, L_7, L_8, L_9, L_10, L_11, L_12, L_13, L_54, L_14, L_99, L_20, L_30, L_31, L_60, L_19, i2_add, i2_sub, i2_mul, i2_neg, Int.reduceAdd, Int.reduceSub, Int.reduceMul, Int.reduceNeg, Int.reduceLT, Int.reduceLE, Int.reduceEq, i2_le, i2_lt, i2_eq, uA_self, uA_ne, tf_0, not_true_eq_false, not_false_eq_true, nv, if_false, p1, t_tried h1, d_gk (t_d71 h1), sn, q, if_false]
theorem m_turned_L {Z R : Int → Int} {k m : Int} (h : LayM M) (gR : GA R) (k0 : 0 ≤ k) (k1 : k < R 0) (m0 : 0 ≤ m) (m9 : m < 16) : ∀ (d N : Nat) (D : Int → Int) (b l v : Int), (∀ v, anA D k v = anA R k v) → d < N → 0 ≤ v → v + d = 4 → 0 ≤ b → b < 4 → 0 ≤ l → l ≤ 201 → ∃ D', fX12_turned_L76 164 (i2 m) (i2 k) N (i2 b) (i2 l) (i2 v) ((M.row 167 Z).row 165 D) = some (i2 (tuF (fun v => snB (anA R k v) (bt m)) d b l v), (M.row 167 Z).row 165 (mx Z D' 158)) := by
  have gR0 := gR.1
  intro d
  induction d with
  | zero =>
    intro N D b l v hD hN v0 hv b0 b4 l0 l9
    obtain ⟨N, rfl⟩ : ∃ k, N = k + 1 := ⟨N - 1, by omega⟩
    have e : v = 4 := by omega
    subst e
    have k := m_laysBack (X := Z) (A := D) h
    have hm : LayM (M.row 167 Z) := h
    refine ⟨D, ?_⟩
    show (if (4 : Int32) ≤ i2 4 then _ else _) = _
    rw [if_pos (by decide +kernel), gk_row, gk_m hm, B1_some, k]
    rfl
  | succ d ih =>
    intro N D b l v hD hN v0 hv b0 b4 l0 l9
    obtain ⟨N, rfl⟩ : ∃ k, N = k + 1 := ⟨N - 1, by omega⟩
    have hm : LayM (M.row 167 Z) := h
    have g1 := gR.an k0 k1 v0 (show v < 4 by omega)
    have sb := snB_b g1 (bt m)
    have p1 : fX12_sets ((M.row 167 Z).row 165 D) 164 (i2 k) (i2 5) (i2 v) = some ((M.row 167 Z).row 165 (anA D k v)) := m_setP hm k0 (by omega) (by decide) (by decide)
    rw [hD v] at p1
    have sn := m_seenFrom (A := anA R k v) hm g1 m0 m9
    have nv : ¬ 4 ≤ v := by omega
    have mn := i2_min (a := l) (b := snB (anA R k v) (bt m)) (by omega) (by omega) (by omega) (by omega)
    show ∃ D', _ = some (i2 (if l ≤ snB (anA R k v) (bt m) then _ else _), _)
    by_cases q : l ≤ snB (anA R k v) (bt m)
    · obtain ⟨D', j1⟩ := ih N (anA R k v) b l (v + 1) (fun w => anA_an) (by omega) (by omega) (by omega) b0 b4 l0 l9
      refine ⟨D', ?_⟩
      rw [show min l (snB (anA R k v) (bt m)) = l by omega] at mn
      rw [if_pos q, ← j1]
      clear ih j1 gR g1 hD
      simp -dsimp (disch := omega) only [fX12_turned_L76, ↓B1_bp, ↓B2_bp, BP_some, BQ_some, ↓reduceIte, L_0, L_1, L_2, L_3, L_4, L_5, L_6, L_7, L_8, L_9, L_10, L_11, L_12, L_13, L_54, L_14, L_99, L_20, L_30, L_31, L_60, L_19, i2_add, i2_sub, i2_mul, i2_neg, Int.reduceAdd, Int.reduceSub, Int.reduceMul, Int.reduceNeg, Int.reduceLT, Int.reduceLE, Int.reduceEq, i2_le, i2_lt, i2_eq, uA_self, uA_ne, tf_0, not_true_eq_false, not_false_eq_true, gk_row, gk_m hm, nv, if_false, p1, sn, q, if_true, mn]
    · obtain ⟨D', j1⟩ := ih N (anA R k v) v (snB (anA R k v) (bt m)) (v + 1) (fun w => anA_an) (by omega) (by omega) (by omega) v0 (by omega) sb.1 (by omega)
      refine ⟨D', ?_⟩
      rw [show min l (snB (anA R k v) (bt m)) = snB (anA R k v) (bt m) by omega] at mn
      rw [if_neg q, ← j1]
      clear ih j1 gR g1 hD
      simp -dsimp (disch := omega) only [fX12_turned_L76, ↓B1_bp, ↓B2_bp, BP_some, BQ_some, ↓reduceIte, L_0, L_1, L_2, L_3, L_4, L_5, L_6, L_7, L_8, L_9, L_10, L_11, L_12, L_13, L_54, L_14, L_99, L_20, L_30, L_31, L_60, L_19, i2_add, i2_sub, i2_mul, i2_neg, Int.reduceAdd, Int.reduceSub, Int.reduceMul, Int.reduceNeg, Int.reduceLT, Int.reduceLE, Int.reduceEq, i2_le, i2_lt, i2_eq, uA_self, uA_ne, tf_0, not_true_eq_false, not_false_eq_true, gk_row, gk_m hm, nv, if_false, p1, sn, q, if_false, mn]
theorem op_turned (h : LayC M) (hm : LayM M) (c : CR M 1 A) (g : GA A) (ha : M.g 165 = rI A) {x y z : Int} (x0 : -2147483648 ≤ x) (x1 : x < 2147483648) (y0 : -2147483648 ≤ y) (y1 : y < 2147483648) (z0 : -2147483648 ≤ z) (z1 : z < 2147483648) (hi : Inv M) : Op M (fun M => fX11_turned M 0 (i2 x) (i2 y) (i2 z)) (fun M => fX12_turned M 164 (i2 x) (i2 y) (i2 z)) := by
  have g0 := g.1
  have q1 := c_wayAt (t_d1 h) y0 y1
  have q2 := c_isFoot M x0 x1
  have a1 := m_isTwo (M.row 165 A) x0 x1
  have a2 := m_isTwo (M.row 165 A) y0 y1
  by_cases e1 : 0 ≤ x ∧ x ≤ 1
  · rw [tf_t e1] at q2 a1
    have bf := b_feet g e1.1 e1.2
    by_cases e2 : 0 ≤ y ∧ y ≤ 1
    · rw [if_pos e2] at q1
      rw [tf_t e2] at a2
      have gc := g_wcnt g e2
      by_cases e3 : 1 ≤ z ∧ z ≤ 15
      · have te3 : tf (1 ≤ z ∧ z ≤ 15) = 1 := tf_t e3
        obtain ⟨X, k1, k2, k3⟩ := c_beginTrial h c g e1.1 e1.2
        have cX := TrP.cr k3 g c
        have hX := h.sm k3
        by_cases e4 : 0 ≤ A (2 + x)
        · have e5 : 0 ≤ A (2 + x) ∧ A (2 + x) < A 0 := ⟨e4, bf.2⟩
          rw [show stAt A 71 (A (2 + x)) = some (71 + 11 + 3 * (A (2 + x)).toNat) from if_pos e5] at k1
          have wr := d_wrx (t_d1 hX) cX g e2
          obtain ⟨X2, p1, p2, p3⟩ := c_tryPass hX cX g k2 g (fun _ _ => rfl) e2 (fr := 0) (to := A (12 + y)) (by decide) gc.1 (Int.le_refl _)
          have ga2 : GA (pwA A (wayS (lwA A) (wtA A y) (ntA A y) 0 (A (12 + y) - 0).toNat)) := g.pw fun S q => q.way g.2.2.2.2.2.1 _ _
          have hX2 := hX.sm p3
          have hl : pwA A (wayS (lwA A) (wtA A y) (ntA A y) 0 (A (12 + y) - 0).toNat) 0 = A 0 := pw_lo (by decide)
          have l2 := fun (Y : Mm) (hY : LayM Y) => m_walks (A := A) hY g (w := y) (fr := 0) (to := A (12 + y)) e2.1 (by omega) (by decide) gc.1 (Int.le_refl _)
          generalize pwA A (wayS (lwA A) (wtA A y) (ntA A y) 0 (A (12 + y) - 0).toNat) = R at p2 ga2 hl l2
          have k1' : A (2 + x) < R 0 := by rw [hl]; exact bf.2
          obtain ⟨X3, r1, r2, r3⟩ := c_angle (t_d71 hX2) p2 ga2 e4 k1' (v := 0) (by decide) (by decide)
          have hX3 := hX2.same r3
          have ga3 := ga2.an e4 k1' (v := 0) (by decide) (by decide)
          have sn := c_seenFromAll (t_d71 hX3) r2 ga3 (m := z) (by omega) (by omega)
          have sb := snB_b ga3 (bt z)
          obtain ⟨X4, t1, t2⟩ := c_turned_L ga2 e4 k1' (m := z) (by omega) (by omega) 3 FL X3 0 0 (snB (anA R (A (2 + x)) 0) (bt z)) 1 hX3 r2 ga3 (by decide) (by decide) (by decide) (by decide) (by decide) sb.1 sb.2
          have s3 : SmP TrP X2 X3 := TrP.of r3 (by decide) (by decide)
          have sA : SmP TrP X X4 := (p3.tr s3).tr t2
          have fin : tuF (fun v => snB (anA R (A (2 + x)) v) (bt z)) 4 0 201 0 = tuF (fun v => snB (anA R (A (2 + x)) v) (bt z)) 3 0 (snB (anA R (A (2 + x)) 0) (bt z)) 1 := by
            show (if (201 : Int) ≤ snB (anA R (A (2 + x)) 0) (bt z) then _ else _) = _
            rw [if_neg (by omega)]
            rfl
          refine op_T (X := X4) (r := i2 (tuF (fun v => snB (anA R (A (2 + x)) v) (bt z)) 3 0 (snB (anA R (A (2 + x)) 0) (bt z)) 1)) hi hm ha g ?_ (TrP.scr (k3.tr sA)) (tr165 (k3.tr sA)) (TrP.cr sA g cX) fun Y hY => ?_
          · unfold fX11_turned
            simp -dsimp (disch := omega) only [↓B1_bp, ↓B2_bp, BP_some, BQ_some, ↓reduceIte, L_0, L_1, L_2, L_3, L_4, L_5, L_6, L_7, L_8, L_9, L_10, L_11, L_12, L_13, L_54, L_14, L_99, L_20, L_30, L_31, L_60, L_19, i2_add, i2_sub, i2_mul, i2_neg, Int.reduceAdd, Int.reduceSub, Int.reduceMul, Int.reduceNeg, Int.reduceLT, Int.reduceLE, Int.reduceEq, i2_le, i2_lt, i2_eq, uA_self, uA_ne, tf_0, not_true_eq_false, not_false_eq_true, L_15, L_40, L_100, L_101, L_200, L_999, ↓NL_bp, BNP_none, BNP_some, and_self, if_true, if_false, and_true, true_and, and_false, false_and, t_now h, d_gk (t_d1 h), q1, q2, c_isWithin, te3, t_gk h, k1, t_tried hX, d_gk (t_d71 hX), wr.2.1, p1, r1, t_tried hX3, d_gk (t_d71 hX3), sn, t1]
          · have a1 := m_isTwo (Y.row 165 A) x0 x1
            have a2 := m_isTwo (Y.row 165 A) y0 y1
            rw [tf_t e1] at a1
            rw [tf_t e2] at a2
            have l1 := m_lends (A := A) hY
            have hY2 : LayM (Y.row 167 (mx A (gI Y 167) 158)) := hY
            have l5 : alI ((Y.row 167 (mx A (gI Y 167) 158)).row 165 A) 165 (i2 (12 + y)) = some (i2 (A (12 + y))) := m_al hY2 (by omega) (by omega)
            obtain ⟨D', u1⟩ := m_turned_L (Z := mx A (gI Y 167) 158) (R := R) (m := z) hY ga2 e4 k1' (by omega) (by omega) 4 FL R 0 201 0 (fun _ => rfl) (by decide) (by decide) (by decide) (by decide) (by decide) (by decide) (by decide)
            rw [fin] at u1
            refine ⟨mx A (gI Y 167) 158, mx (mx A (gI Y 167) 158) D' 158, ?_, e_back⟩
            have hX := hY
            have L_201 : (201 : Int32) = i2 201 := by decide +kernel
            unfold fX12_turned
            simp -dsimp (disch := omega) only [↓B1_bp, ↓B2_bp, BP_some, BQ_some, ↓reduceIte, gk_row, rdN_row, alN_row, alN__row, gk_m hX, rdm0 hX, rdm1 hX, rdm2 hX, rdm3 hX, L_0, L_1, L_2, L_3, L_4, L_5, L_6, L_7, L_8, L_9, L_10, L_11, L_12, L_13, L_54, L_14, L_99, L_20, L_30, L_31, L_60, L_19, i2_add, i2_sub, i2_mul, i2_neg, Int.reduceAdd, Int.reduceSub, Int.reduceMul, Int.reduceNeg, Int.reduceLT, Int.reduceLE, Int.reduceEq, i2_le, i2_lt, i2_eq, J_0, J_1, J_2, J_3, J_5, J_7, J_8, J_9, J_10, J_13, J_15, J_30, J_60, J_99, J_100, J_999, J_n1, i2_j2, m_in, tf_0, not_true_eq_false, not_false_eq_true, m_al hX, L_15, L_40, L_100, L_101, L_190, L_200, L_999, uA_self, and_self, if_true, if_false, and_true, true_and, and_false, false_and, a1, a2, te3, e4, l1, l5, l2 _ hY2, L_201, u1]
        · rw [show stAt A 71 (A (2 + x)) = none from if_neg (fun q => e4 q.1)] at k1
          refine op_T0 (X := X) (r := i2 (-3)) hi hm ha g ?_ (TrP.scr k3) (tr165 k3) cX fun Y hY => ?_
          · unfold fX11_turned
            simp -dsimp (disch := omega) only [↓B1_bp, ↓B2_bp, BP_some, BQ_some, ↓reduceIte, L_0, L_1, L_2, L_3, L_4, L_5, L_6, L_7, L_8, L_9, L_10, L_11, L_12, L_13, L_54, L_14, L_99, L_20, L_30, L_31, L_60, L_19, i2_add, i2_sub, i2_mul, i2_neg, Int.reduceAdd, Int.reduceSub, Int.reduceMul, Int.reduceNeg, Int.reduceLT, Int.reduceLE, Int.reduceEq, i2_le, i2_lt, i2_eq, uA_self, uA_ne, tf_0, not_true_eq_false, not_false_eq_true, L_15, L_40, L_100, L_101, L_200, L_999, ↓NL_bp, BNP_none, BNP_some, and_self, if_true, if_false, and_true, true_and, and_false, false_and, t_now h, d_gk (t_d1 h), q1, q2, c_isWithin, te3, t_gk h, k1]
          · have a1 := m_isTwo (Y.row 165 A) x0 x1
            have a2 := m_isTwo (Y.row 165 A) y0 y1
            rw [tf_t e1] at a1
            rw [tf_t e2] at a2
            have hX := hY
            unfold fX12_turned
            simp -dsimp (disch := omega) only [↓B1_bp, ↓B2_bp, BP_some, BQ_some, ↓reduceIte, gk_row, rdN_row, alN_row, alN__row, gk_m hX, rdm0 hX, rdm1 hX, rdm2 hX, rdm3 hX, L_0, L_1, L_2, L_3, L_4, L_5, L_6, L_7, L_8, L_9, L_10, L_11, L_12, L_13, L_54, L_14, L_99, L_20, L_30, L_31, L_60, L_19, i2_add, i2_sub, i2_mul, i2_neg, Int.reduceAdd, Int.reduceSub, Int.reduceMul, Int.reduceNeg, Int.reduceLT, Int.reduceLE, Int.reduceEq, i2_le, i2_lt, i2_eq, J_0, J_1, J_2, J_3, J_5, J_7, J_8, J_9, J_10, J_13, J_15, J_30, J_60, J_99, J_100, J_999, J_n1, i2_j2, m_in, tf_0, not_true_eq_false, not_false_eq_true, m_al hX, L_15, L_40, L_100, L_101, L_190, L_200, L_999, uA_self, and_self, if_true, if_false, and_true, true_and, and_false, false_and, a1, a2, te3, e4]
      · have te3 : tf (1 ≤ z ∧ z ≤ 15) = 0 := tf_f e3
        refine OpR.op hi (opR_keep (r := i2 (-1)) c g ha ?_ ?_)
        · unfold fX11_turned
          simp -dsimp (disch := omega) only [↓B1_bp, ↓B2_bp, BP_some, BQ_some, ↓reduceIte, L_0, L_1, L_2, L_3, L_4, L_5, L_6, L_7, L_8, L_9, L_10, L_11, L_12, L_13, L_54, L_14, L_99, L_20, L_30, L_31, L_60, L_19, i2_add, i2_sub, i2_mul, i2_neg, Int.reduceAdd, Int.reduceSub, Int.reduceMul, Int.reduceNeg, Int.reduceLT, Int.reduceLE, Int.reduceEq, i2_le, i2_lt, i2_eq, uA_self, uA_ne, tf_0, not_true_eq_false, not_false_eq_true, L_15, L_40, L_100, L_101, L_200, L_999, ↓NL_bp, BNP_none, BNP_some, and_self, if_true, if_false, and_true, true_and, and_false, false_and, t_now h, d_gk (t_d1 h), q1, q2, c_isWithin, te3]
        · unfold fX12_turned
          simp -dsimp (disch := omega) only [↓B1_bp, ↓B2_bp, BP_some, BQ_some, ↓reduceIte, gk_row, rdN_row, alN_row, alN__row, gk_m hm, rdm0 hm, rdm1 hm, rdm2 hm, rdm3 hm, L_0, L_1, L_2, L_3, L_4, L_5, L_6, L_7, L_8, L_9, L_10, L_11, L_12, L_13, L_54, L_14, L_99, L_20, L_30, L_31, L_60, L_19, i2_add, i2_sub, i2_mul, i2_neg, Int.reduceAdd, Int.reduceSub, Int.reduceMul, Int.reduceNeg, Int.reduceLT, Int.reduceLE, Int.reduceEq, i2_le, i2_lt, i2_eq, J_0, J_1, J_2, J_3, J_5, J_7, J_8, J_9, J_10, J_13, J_15, J_30, J_60, J_99, J_100, J_999, J_n1, i2_j2, m_in, tf_0, not_true_eq_false, not_false_eq_true, m_al hm, L_15, L_40, L_100, L_101, L_190, L_200, L_999, uA_self, and_self, if_true, if_false, and_true, true_and, and_false, false_and, a1, a2, te3]
    · rw [if_neg e2] at q1
      rw [tf_f e2] at a2
      refine OpR.op hi (opR_keep (r := i2 (-1)) c g ha ?_ ?_)
      · unfold fX11_turned
        simp -dsimp (disch := omega) only [↓B1_bp, ↓B2_bp, BP_some, BQ_some, ↓reduceIte, L_0, L_1, L_2, L_3, L_4, L_5, L_6, L_7, L_8, L_9, L_10, L_11, L_12, L_13, L_54, L_14, L_99, L_20, L_30, L_31, L_60, L_19, i2_add, i2_sub, i2_mul, i2_neg, Int.reduceAdd, Int.reduceSub, Int.reduceMul, Int.reduceNeg, Int.reduceLT, Int.reduceLE, Int.reduceEq, i2_le, i2_lt, i2_eq, uA_self, uA_ne, tf_0, not_true_eq_false, not_false_eq_true, L_15, L_40, L_100, L_101, L_200, L_999, ↓NL_bp, BNP_none, BNP_some, and_self, if_true, if_false, and_true, true_and, and_false, false_and, t_now h, d_gk (t_d1 h), q1, q2]
      · unfold fX12_turned
        simp -dsimp (disch := omega) only [↓B1_bp, ↓B2_bp, BP_some, BQ_some, ↓reduceIte, gk_row, rdN_row, alN_row, alN__row, gk_m hm, rdm0 hm, rdm1 hm, rdm2 hm, rdm3 hm, L_0, L_1, L_2, L_3, L_4, L_5, L_6, L_7, L_8, L_9, L_10, L_11, L_12, L_13, L_54, L_14, L_99, L_20, L_30, L_31, L_60, L_19, i2_add, i2_sub, i2_mul, i2_neg, Int.reduceAdd, Int.reduceSub, Int.reduceMul, Int.reduceNeg, Int.reduceLT, Int.reduceLE, Int.reduceEq, i2_le, i2_lt, i2_eq, J_0, J_1, J_2, J_3, J_5, J_7, J_8, J_9, J_10, J_13, J_15, J_30, J_60, J_99, J_100, J_999, J_n1, i2_j2, m_in, tf_0, not_true_eq_false, not_false_eq_true, m_al hm, L_15, L_40, L_100, L_101, L_190, L_200, L_999, uA_self, and_self, if_true, if_false, and_true, true_and, and_false, false_and, a1, a2]
  · rw [tf_f e1] at q2 a1
    refine OpR.op hi (opR_keep (r := i2 (-1)) c g ha ?_ ?_)
    · unfold fX11_turned
      simp -dsimp (disch := omega) only [↓B1_bp, ↓B2_bp, BP_some, BQ_some, ↓reduceIte, L_0, L_1, L_2, L_3, L_4, L_5, L_6, L_7, L_8, L_9, L_10, L_11, L_12, L_13, L_54, L_14, L_99, L_20, L_30, L_31, L_60, L_19, i2_add, i2_sub, i2_mul, i2_neg, Int.reduceAdd, Int.reduceSub, Int.reduceMul, Int.reduceNeg, Int.reduceLT, Int.reduceLE, Int.reduceEq, i2_le, i2_lt, i2_eq, uA_self, uA_ne, tf_0, not_true_eq_false, not_false_eq_true, L_15, L_40, L_100, L_101, L_200, L_999, ↓NL_bp, BNP_none, BNP_some, and_self, if_true, if_false, and_true, true_and, and_false, false_and, t_now h, d_gk (t_d1 h), q1, q2]
    · unfold fX12_turned
      simp -dsimp (disch := omega) only [↓B1_bp, ↓B2_bp, BP_some, BQ_some, ↓reduceIte, gk_row, rdN_row, alN_row, alN__row, gk_m hm, rdm0 hm, rdm1 hm, rdm2 hm, rdm3 hm, L_0, L_1, L_2, L_3, L_4, L_5, L_6, L_7, L_8, L_9, L_10, L_11, L_12, L_13, L_54, L_14, L_99, L_20, L_30, L_31, L_60, L_19, i2_add, i2_sub, i2_mul, i2_neg, Int.reduceAdd, Int.reduceSub, Int.reduceMul, Int.reduceNeg, Int.reduceLT, Int.reduceLE, Int.reduceEq, i2_le, i2_lt, i2_eq, J_0, J_1, J_2, J_3, J_5, J_7, J_8, J_9, J_10, J_13, J_15, J_30, J_60, J_99, J_100, J_999, J_n1, i2_j2, m_in, tf_0, not_true_eq_false, not_false_eq_true, m_al hm, L_15, L_40, L_100, L_101, L_190, L_200, L_999, uA_self, and_self, if_true, if_false, and_true, true_and, and_false, false_and, a1]
end TURNED
