section MINDS
variable {M : Mm} {A : Int → Int}
theorem opR_at {f f' : Mm → Option (Int32 × Mm)} {r : Int32} {M1 : Mm} {A' : Int → Int} (ha : M.g 165 = rI A) (h1 : f M = some (r, M1)) (s : Same M M1 1 36) (c1 : CR M1 1 A') (g1 : GA A') (h4 : f' (M1.row 165 A) = some (r, M1.row 165 A')) : OpR M A f f' := by
  have hX : M1 = M1.row 165 A := row_of ((s.2 165 (by omega)).trans ha)
  refine ⟨r, M1, A', h1, s, ?_, c1, g1⟩
  rw [← hX] at h4
  exact h4
/-- so many stockings mind what they are told -/
def mdA (A : Int → Int) (s : Int) (f : Nat → Int) : Nat → Int → Int
  | 0 => A
  | j + 1 => putA (mdA A s f j) (s + j) (uA (stA (mdA A s f j) (s + j)) 1 (f j))
theorem mdA_0 {s : Int} (s0 : 0 ≤ s) (f : Nat → Int) : ∀ j : Nat, mdA A s f j 0 = A 0
  | 0 => rfl
  | j + 1 => (put_lo (by omega) (by decide)).trans (mdA_0 s0 f j)
theorem GS.mi {S : Int → Int} {v : Int} (g : GS S) (v0 : 0 ≤ v) (v9 : v ≤ 9) : GS (uA S 1 v) := by
  obtain ⟨a0, a1, a⟩ := g
  exact ⟨a0, ⟨v0, v9⟩, a⟩
theorem mdA_ga (g : GA A) {s : Int} (s0 : 0 ≤ s) {f : Nat → Int} (fb : ∀ j, 0 ≤ f j ∧ f j ≤ 9) : ∀ j : Nat, s + j ≤ A 0 → GA (mdA A s f j)
  | 0, _ => g
  | j + 1, h => by
    have k := mdA_ga g s0 fb j (by omega)
    exact k.put (by omega) ((k.2.2.2.2.2.2.2 (s + j) (by omega) (by rw [mdA_0 s0 f j]; omega)).mi (fb j).1 (fb j).2)
def clV (x : Int64) : Int := max 0 (min 9 x.toInt)
theorem clV_c (x : Int64) (h : -128 ≤ x.toInt ∧ x.toInt ≤ 127) : mxI 0 (mnI 9 x.toInt32) = i2 (clV x) := by
  rw [toI32, L_0, L_9, i2_min (by decide) (by decide) (by omega) (by omega), i2_max (by decide) (by decide) (by omega) (by omega)]
  rfl
theorem clV_m (x : Int64) (h : -128 ≤ x.toInt ∧ x.toInt ≤ 127) : (mxL 0 (mnL 9 x)).toInt32 = i2 (clV x) := by
  have e : x = j2 x.toInt := (Int64.ofInt_toInt x).symm
  have l1 := j2_lt (a := x.toInt) (b := 9) (by omega) (by omega) (by decide) (by decide)
  have m1 : mnL 9 x = j2 (min 9 x.toInt) := by
    unfold mnL
    rw [J_9]
    by_cases q : x.toInt < 9
    · rw [if_pos (by rw [e, l1]; exact q), show min 9 x.toInt = x.toInt by omega]
      exact e
    · rw [if_neg (by rw [e, l1]; exact q), show min 9 x.toInt = 9 by omega]
  have l2 := j2_lt (a := min 9 x.toInt) (b := 0) (by omega) (by omega) (by decide) (by decide)
  have m2 : mxL 0 (mnL 9 x) = j2 (clV x) := by
    rw [m1]
    unfold mxL clV
    have l3 := j2_lt (a := 0) (b := min 9 x.toInt) (by decide) (by decide) (by omega) (by omega)
    rw [J_0]
    by_cases q : min 9 x.toInt < 0
    · rw [if_pos (by rw [l2]; exact q), show max 0 (min 9 x.toInt) = 0 by omega]
    · rw [if_neg (by rw [l2]; exact q), show max 0 (min 9 x.toInt) = min 9 x.toInt by omega]
  rw [m2, toI32]
  unfold clV
  rw [j2_toInt (by omega) (by omega)]
theorem clV_b (x : Int64) : 0 ≤ clV x ∧ clV x ≤ 9 := by
  unfold clV
  omega
theorem c_minds_L {o i : Nat} {s n z : Int} (so : SO M o 0 z) (ib : ∀ q : Nat, (q : Int) < z → -128 ≤ (M.l (o + 1) q).toInt ∧ (M.l (o + 1) q).toInt ≤ 127) (hiz : (i : Int) + n ≤ z) (g : GA A) (s0 : 0 ≤ s) (sn : s + n ≤ A 0) : ∀ (d N j : Nat) (X : Mm), LayC X → Same M X 1 36 → CR X 1 (mdA A s (fun j => clV (M.l (o + 1) (i + j))) j) → d < N → (j : Int) + d = n → ∃ X', fX11_minds_L105 0 (i2 i) (i2 s) (i2 n) o N (i2 j) X = some (i2 n, X') ∧ Same M X' 1 36 ∧ CR X' 1 (mdA A s (fun j => clV (M.l (o + 1) (i + j))) n.toNat) := by
  have g0 := g.1
  have zb := so_b so
  intro d
  induction d with
  | zero =>
    intro N j X h sm c hN hj
    obtain ⟨N, rfl⟩ : ∃ k, N = k + 1 := ⟨N - 1, by omega⟩
    have e : (j : Int) = n := by omega
    refine ⟨X, ?_, sm, by rw [show n.toNat = j by omega]; exact c⟩
    rw [e]
    simp -dsimp (disch := omega) only [fX11_minds_L105, ↓B1_bp, ↓B2_bp, BP_some, BQ_some, ↓reduceIte, L_0, L_1, L_2, L_3, L_4, L_5, L_6, L_7, L_8, L_9, L_10, L_11, L_12, L_13, L_54, L_14, L_99, L_20, L_30, L_31, L_60, L_19, i2_add, i2_sub, i2_mul, i2_neg, Int.reduceAdd, Int.reduceSub, Int.reduceMul, Int.reduceNeg, Int.reduceLT, Int.reduceLE, Int.reduceEq, i2_le, i2_lt, i2_eq, uA_self, uA_ne, tf_0, not_true_eq_false, not_false_eq_true, Int.le_refl, if_true]
  | succ d ih =>
    intro N j X h sm c hN hj
    obtain ⟨N, rfl⟩ : ∃ k, N = k + 1 := ⟨N - 1, by omega⟩
    have q : ¬ n ≤ j := by omega
    have gj := mdA_ga g s0 (f := fun j => clV (M.l (o + 1) (i + j))) (fun j => clV_b _) j (by omega)
    have z0 : mdA A s (fun j => clV (M.l (o + 1) (i + j))) j 0 = A 0 := mdA_0 s0 _ j
    have sx : SO X o 0 z := by
      have q1 := so.sm (M' := X) (P := fun p => 1 ≤ p ∧ p < 36) ⟨sm.1, sm.2⟩ (fun p hp w => by omega)
      exact q1
    obtain ⟨r1, r2, r3, r4⟩ := so_rd sx
    have al := l_al (M := X) (p := o + 1) (x := ((i + j : Nat) : Int)) sx.2.2.2.2.1 (by omega) (by rw [sx.2.2.2.2.2.1]; omega) (by omega)
    rw [sm.1.2.2.2.1, Int.toNat_natCast] at al
    have hk : ((s.toNat + j : Nat) : Int) = s + j := by omega
    have ib1 := ib (i + j) (by omega)
    have cv := clV_c (M.l (o + 1) (i + j)) ib1
    have cb := clV_b (M.l (o + 1) (i + j))
    have sr := c.2.2.2.2 (s.toNat + j) (by rw [z0]; omega)
    rw [hk] at sr
    obtain ⟨⟨b0, b1, b2, b3, b4, b5⟩, b6, b8, b9⟩ := sr
    obtain ⟨X1, w1, w2, w3⟩ := c_putI (t_d1 h) c gj (k := s.toNat + j) (j := 1) (v := clV (M.l (o + 1) (i + j))) (S := uA (stA (mdA A s (fun j => clV (M.l (o + 1) (i + j))) j) (s + j)) 1 (clV (M.l (o + 1) (i + j)))) (by rw [z0]; omega) ⟨⟨b0, rfl, b2, b3, b4, b5⟩, b6, b8, b9⟩ ((gj.2.2.2.2.2.2.2 (s + j) (by omega) (by rw [z0]; omega)).mi cb.1 cb.2)
    rw [hk] at w2
    have st := d_st (t_d1 h) (k := s + j) (by omega) (by omega)
    rw [show (s + (j : Int)).toNat = s.toNat + j by omega] at st
    obtain ⟨X', p1, p2, p3⟩ := ih N (j + 1) X1 (h.same w3) (sm.tr (w3.wide (by decide) (by decide))) w2 (by omega) (by omega)
    refine ⟨X', ?_, p2, p3⟩
    rw [show (((j + 1 : Nat)) : Int) = (j : Int) + 1 from rfl] at p1
    rw [← p1]
    rw [show ((i + j : Nat) : Int) = (i : Int) + (j : Int) from rfl] at al
    have nw := t_now h
    have ds := d_sts (t_d1 h)
    generalize clV (M.l (o + 1) (i + j)) = v at cv w1
    generalize M.l (o + 1) (i + j) = y at cv al
    clear ih p1 p2 p3 c gj sm w2 w3 h sx so
    have u : fX11_minds_L105 0 (i2 i) (i2 s) (i2 n) o (N + 1) (i2 j) X = if i2 n ≤ i2 j then some (i2 n, X) else B1 (rdN X 0 14 0) fun a => B1 (rdN X a 3 1) fun b => B1 (alN X b 23 (i2 s + i2 j)) fun q => B1 (rdN X o 9 1) fun r => B1 (alL X r (i2 i + i2 j)) fun y => B1 (wrI X q 10 1 (mxI 0 (mnI 9 (y.toInt32)))) fun M' => fX11_minds_L105 0 (i2 i) (i2 s) (i2 n) o N (i2 j + 1) M' := rfl
    rw [u, if_neg (by rw [i2_le (by omega) (by omega) (by omega) (by omega)]; exact q), nw, B1_some, ds, B1_some, i2_add, st, B1_some, r3, B1_some, i2_add, al, B1_some, cv, w1, B1_some, L_1, i2_add]
theorem m_minds_L {o x i : Nat} {s n z : Int} (hm : LayM M) (hx : x < 4) (hv : ∀ q : Nat, (q : Int) < z → M.l 174 (40 * x + q) = M.l (o + 1) q ∧ -128 ≤ (M.l (o + 1) q).toInt ∧ (M.l (o + 1) q).toInt ≤ 127) (z9 : z ≤ 40) (hiz : (i : Int) + n ≤ z) (g : GA A) (s0 : 0 ≤ s) (sn : s + n ≤ A 0) : ∀ (d N j : Nat), d < N → (j : Int) + d = n → fX12_minds_L82 164 (i2 x) (i2 i) (i2 s) (i2 n) N (i2 j) (M.row 165 (mdA A s (fun j => clV (M.l (o + 1) (i + j))) j)) = some (i2 n, M.row 165 (mdA A s (fun j => clV (M.l (o + 1) (i + j))) n.toNat)) := by
  have g0 := g.1
  intro d
  induction d with
  | zero =>
    intro N j hN hj
    obtain ⟨N, rfl⟩ : ∃ k, N = k + 1 := ⟨N - 1, by omega⟩
    have e : (j : Int) = n := by omega
    rw [show n.toNat = j by omega, e]
    simp -dsimp (disch := omega) only [fX12_minds_L82, ↓B1_bp, ↓B2_bp, BP_some, BQ_some, ↓reduceIte, L_0, L_1, L_2, L_3, L_4, L_5, L_6, L_7, L_8, L_9, L_10, L_11, L_12, L_13, L_54, L_14, L_99, L_20, L_30, L_31, L_60, L_19, i2_add, i2_sub, i2_mul, i2_neg, Int.reduceAdd, Int.reduceSub, Int.reduceMul, Int.reduceNeg, Int.reduceLT, Int.reduceLE, Int.reduceEq, i2_le, i2_lt, i2_eq, uA_self, uA_ne, tf_0, not_true_eq_false, not_false_eq_true, Int.le_refl, if_true]
  | succ d ih =>
    intro N j hN hj
    obtain ⟨N, rfl⟩ : ∃ k, N = k + 1 := ⟨N - 1, by omega⟩
    have q : ¬ n ≤ j := by omega
    obtain ⟨v1, v2⟩ := hv (i + j) (by omega)
    have al : alL (M.row 165 (mdA A s (fun j => clV (M.l (o + 1) (i + j))) j)) 174 (i2 (40 * (x : Int) + i + j)) = some (M.l (o + 1) (i + j)) := by
      have k := l_al (M := M) (p := 174) (x := 40 * (x : Int) + i + j) (ar_it hm).1 (by omega) (by rw [(ar_it hm).2]; omega) (by omega)
      rw [show (40 * (x : Int) + i + j).toNat = 40 * x + (i + j) by omega, v1] at k
      exact k
    have cv := clV_m (M.l (o + 1) (i + j)) v2
    have sp := m_setP (A := mdA A s (fun j => clV (M.l (o + 1) (i + j))) j) hm (k := s + j) (w := 1) (v := clV (M.l (o + 1) (i + j))) (by omega) (by omega) (by decide) (by decide)
    have k := ih N (j + 1) (by omega) (by omega)
    rw [← k]
    rw [show (((j + 1 : Nat)) : Int) = (j : Int) + 1 from rfl]
    have r15 := m_r15 hm
    have gk0 := gk_m hm
    have u : ∀ Y, fX12_minds_L82 164 (i2 x) (i2 i) (i2 s) (i2 n) (N + 1) (i2 j) Y = if i2 n ≤ i2 j then some (i2 n, Y) else B1 (rdN Y 164 15 15) fun a => B1 (alL Y a (((40 * i2 x) + i2 i) + i2 j)) fun y => B1 (gk Y 164 15) fun _ => B1 (fX12_sets Y 164 (i2 s + i2 j) 1 ((mxL 0 (mnL 9 y)).toInt32)) fun M' => fX12_minds_L82 164 (i2 x) (i2 i) (i2 s) (i2 n) N (i2 j + 1) M' := fun _ => rfl
    rw [u, if_neg (by rw [i2_le (by omega) (by omega) (by omega) (by omega)]; exact q), rdN_row, r15, B1_some, L_40, i2_mul, i2_add, i2_add, al, B1_some, gk_row, gk0, B1_some, cv, i2_add, L_1, sp, B1_some, i2_add]
    rfl
theorem op_minds (h : LayC M) (hm : LayM M) (c : CR M 1 A) (g : GA A) (ha : M.g 165 = rI A) {x y z u : Int} (x0 : -2147483648 ≤ x) (x1 : x < 2147483648) (y0 : -2147483648 ≤ y) (y1 : y < 2147483648) (z0 : -2147483648 ≤ z) (z1 : z < 2147483648) (u0 : -2147483648 ≤ u) (u1 : u < 2147483648) (hi : Inv M) : Op M (fun M => fX11_minds M 0 (i2 x) (i2 y) (i2 z) (i2 u)) (fun M => fX12_minds M 164 (i2 x) (i2 y) (i2 z) (i2 u)) := by
  have g0 := g.1
  have si := hi.2.2.2.2.1
  have q1 := c_isSheet M x0 x1
  have q2 := m_isFour (M.row 165 A) x0 x1
  have st := c_stockingAt (t_d1 h) c g z0 z1
  have a1 := m_isOne (A := A) hm g z0 z1
  by_cases e : 0 ≤ x ∧ x ≤ 3
  · have hx : ((x.toNat : Nat) : Int) = x := by omega
    rw [tf_t e] at q1 q2
    by_cases e2 : 0 ≤ z ∧ z < A 0
    · have e2' : 0 ≤ z ∧ z ≤ A 0 - 1 := by omega
      rw [show stAt A 1 z = some (1 + 11 + 3 * z.toNat) from if_pos e2] at st
      rw [tf_t e2'] at a1
      by_cases e3 : 0 ≤ u ∧ u ≤ 8
      · have te3 : tf (0 ≤ u ∧ u ≤ 8) = 1 := tf_t e3
        have cnt := d_cnt (t_d1 h) c
        by_cases e4 : z + u ≤ A 0
        · have q4 := q160 h e.1 e.2
          have hm' : LayM (M.row 165 A) := hm
          have q5 := m_lacks hm' e.1 e.2 (y := 0) (by decide) (by decide)
          rw [gI_ne (p := 165) (q := 172) _ (by decide)] at q5
          rcases si x.toNat (by omega) with ⟨r1, r2⟩ | ⟨o, r1, r2, r3, r4, r5⟩
          · rw [hx] at r2
            rw [r1] at q4
            rw [if_neg (by omega)] at q5
            refine OpR.op hi (opR_keep (r := i2 (-11)) c g ha ?_ ?_)
            · unfold fX11_minds
              simp -dsimp (disch := omega) only [↓B1_bp, ↓B2_bp, BP_some, BQ_some, ↓reduceIte, L_0, L_1, L_2, L_3, L_4, L_5, L_6, L_7, L_8, L_9, L_10, L_11, L_12, L_13, L_54, L_14, L_99, L_20, L_30, L_31, L_60, L_19, i2_add, i2_sub, i2_mul, i2_neg, Int.reduceAdd, Int.reduceSub, Int.reduceMul, Int.reduceNeg, Int.reduceLT, Int.reduceLE, Int.reduceEq, i2_le, i2_lt, i2_eq, uA_self, uA_ne, tf_0, not_true_eq_false, not_false_eq_true, L_15, L_40, L_100, L_101, L_200, L_999, ↓NL_bp, BNP_none, BNP_some, and_self, if_true, if_false, and_true, true_and, and_false, false_and, t_now h, d_gk (t_d1 h), q1, st, c_isWithin, te3, cnt, e4, t_sh h, q4]
            · unfold fX12_minds
              simp -dsimp (disch := omega) only [↓B1_bp, ↓B2_bp, BP_some, BQ_some, ↓reduceIte, gk_row, rdN_row, alN_row, alN__row, gk_m hm, rdm0 hm, rdm1 hm, rdm2 hm, rdm3 hm, L_0, L_1, L_2, L_3, L_4, L_5, L_6, L_7, L_8, L_9, L_10, L_11, L_12, L_13, L_54, L_14, L_99, L_20, L_30, L_31, L_60, L_19, i2_add, i2_sub, i2_mul, i2_neg, Int.reduceAdd, Int.reduceSub, Int.reduceMul, Int.reduceNeg, Int.reduceLT, Int.reduceLE, Int.reduceEq, i2_le, i2_lt, i2_eq, J_0, J_1, J_2, J_3, J_5, J_7, J_8, J_9, J_10, J_13, J_15, J_30, J_60, J_99, J_100, J_999, J_n1, i2_j2, m_in, tf_0, not_true_eq_false, not_false_eq_true, m_al hm, L_15, L_40, L_100, L_101, L_190, L_200, L_999, uA_self, and_self, if_true, if_false, and_true, true_and, and_false, false_and, q2, a1, te3, e4, q5]
          · rw [hx] at r2 r3 r4
            rw [r1] at q4
            rw [if_pos r3.1, if_neg (by decide)] at q5
            obtain ⟨s1, s2, s3, s4⟩ := so_rd r2
            have sb := so_b r2
            by_cases e5 : gI M 172 x = 0
            · rw [if_pos e5.symm] at q5
              rw [e5] at s2 r2 r4
              have a73 := g_alI (ar_si hm) (x := x) e.1 (by omega) (by omega)
              have a73' : alI (M.row 165 A) 173 (i2 x) = some (i2 (gI M 173 x)) := by rw [alI_ne (by decide)]; exact a73
              by_cases e6 : 0 ≤ y ∧ y + u ≤ gI M 173 x
              · have te6 : tf (0 ≤ y ∧ y ≤ gI M 173 x) = 1 := tf_t (by omega)
                have hy : ((y.toNat : Nat) : Int) = y := by omega
                have vv : ∀ q : Nat, (q : Int) < gI M 173 x → M.l 174 (40 * x.toNat + q) = M.l (o + 1) q ∧ -128 ≤ (M.l (o + 1) q).toInt ∧ (M.l (o + 1) q).toInt ≤ 127 := fun q hq => ⟨(r4 q hq).1.symm, (r4 q hq).2 rfl⟩
                obtain ⟨M1, p1, p2, p3⟩ := c_minds_L (i := y.toNat) (n := u) (s := z) r2 (fun q hq => (vv q hq).2) (by rw [hy]; exact e6.2) g e2.1 e4 u.toNat FL 0 M h (Same.rf _ _ _) c (by show _ < 4096; omega) (by omega)
                have gE := mdA_ga g e2.1 (f := fun j => clV (M.l (o + 1) (y.toNat + j))) (fun j => clV_b _) u.toNat (by omega)
                have hm1 := hm.same p2
                have l1 := p2.1.2.2.2.1
                have m1 := m_minds_L (M := M1) (o := o) (x := x.toNat) (i := y.toNat) (n := u) (s := z) (z := gI M 173 x) hm1 (by omega) (by rw [l1]; exact vv) sb.2 (by rw [hy]; exact e6.2) g e2.1 e4 u.toNat FL 0 (by show _ < 4096; omega) (by omega)
                rw [l1, hy, hx, show ((0 : Nat) : Int) = 0 from rfl] at m1
                rw [hy, show ((0 : Nat) : Int) = 0 from rfl] at p1
                change fX12_minds_L82 164 (i2 x) (i2 y) (i2 z) (i2 u) FL (i2 0) (M1.row 165 A) = _ at m1
                have q5' := m_lacks (M := M1.row 165 A) hm1 e.1 e.2 (y := 0) (by decide) (by decide)
                rw [gI_ne (p := 165) (q := 172) _ (by decide), gI_of (p2.2 172 (by decide)), e5, if_pos (by decide), if_neg (by decide), if_pos rfl] at q5'
                have a73'' : alI (M1.row 165 A) 173 (i2 x) = some (i2 (gI M 173 x)) := by
                  rw [alI_ne (by decide), g_alI (ar_si hm1) e.1 (by omega) (by omega), gI_of (p2.2 173 (by decide))]
                have q2' := m_isFour (M1.row 165 A) x0 x1
                have a1' := m_isOne (A := A) hm1 g z0 z1
                rw [tf_t e] at q2'
                rw [tf_t e2'] at a1'
                have n6 : ¬ y < 0 := by omega
                have n7 : y ≤ gI M 173 x - u := by omega
                refine OpR.op hi (opR_at (r := i2 u) ha ?_ p2 p3 gE ?_)
                · clear p2 p3 gE r2 r4 vv m1
                  have e6' : y + u ≤ gI M 173 x := e6.2
                  unfold fX11_minds
                  simp -dsimp (disch := omega) only [↓B1_bp, ↓B2_bp, BP_some, BQ_some, ↓reduceIte, L_0, L_1, L_2, L_3, L_4, L_5, L_6, L_7, L_8, L_9, L_10, L_11, L_12, L_13, L_54, L_14, L_99, L_20, L_30, L_31, L_60, L_19, i2_add, i2_sub, i2_mul, i2_neg, Int.reduceAdd, Int.reduceSub, Int.reduceMul, Int.reduceNeg, Int.reduceLT, Int.reduceLE, Int.reduceEq, i2_le, i2_lt, i2_eq, uA_self, uA_ne, tf_0, not_true_eq_false, not_false_eq_true, L_15, L_40, L_100, L_101, L_200, L_999, ↓NL_bp, BNP_none, BNP_some, and_self, if_true, if_false, and_true, true_and, and_false, false_and, t_now h, d_gk (t_d1 h), q1, st, c_isWithin, te3, cnt, e4, t_sh h, q4, s2, s3, s4, te6, e6', p1]
                · clear p1 p2 p3 gE r2 r4 vv
                  have hX := hm1
                  unfold fX12_minds
                  have al0 := m_al (A := A) hX (show 0 ≤ (0 : Int) by decide) (show (0 : Int) < 158 by decide)
                  simp -dsimp (disch := omega) only [↓B1_bp, ↓B2_bp, BP_some, BQ_some, ↓reduceIte, L_0, L_1, L_2, L_3, L_4, L_5, L_6, L_7, L_8, L_9, L_10, L_11, L_12, L_13, L_54, L_14, L_99, L_20, L_30, L_31, L_60, L_19, i2_add, i2_sub, i2_mul, i2_neg, Int.reduceAdd, Int.reduceSub, Int.reduceMul, Int.reduceNeg, Int.reduceLT, Int.reduceLE, Int.reduceEq, i2_le, i2_lt, i2_eq, uA_self, uA_ne, tf_0, not_true_eq_false, not_false_eq_true, J_0, J_1, J_2, J_3, J_5, J_7, J_8, J_9, J_10, J_13, J_15, J_30, J_60, J_99, J_100, J_999, J_n1, i2_j2, m_in, rdN_row, gk_row, gk_m hX, rdm0 hX, al0, q2', a1', te3, e4, if_true, q5', n6, if_false, m_r14 hX, a73'', n7, m1]
              · have n8 : tf (0 ≤ y ∧ y ≤ gI M 173 x) = 0 ∨ (tf (0 ≤ y ∧ y ≤ gI M 173 x) = 1 ∧ ¬ y + u ≤ gI M 173 x ∧ 0 ≤ y ∧ y ≤ 40) := by
                  by_cases e7 : 0 ≤ y ∧ y ≤ gI M 173 x
                  · exact Or.inr ⟨tf_t e7, by omega, by omega, by omega⟩
                  · exact Or.inl (tf_f e7)
                refine OpR.op hi (opR_keep (r := i2 (-12)) c g ha ?_ ?_)
                · unfold fX11_minds
                  rcases n8 with n | ⟨n, n', n0, n9⟩
                  · simp -dsimp (disch := omega) only [↓B1_bp, ↓B2_bp, BP_some, BQ_some, ↓reduceIte, L_0, L_1, L_2, L_3, L_4, L_5, L_6, L_7, L_8, L_9, L_10, L_11, L_12, L_13, L_54, L_14, L_99, L_20, L_30, L_31, L_60, L_19, i2_add, i2_sub, i2_mul, i2_neg, Int.reduceAdd, Int.reduceSub, Int.reduceMul, Int.reduceNeg, Int.reduceLT, Int.reduceLE, Int.reduceEq, i2_le, i2_lt, i2_eq, uA_self, uA_ne, tf_0, not_true_eq_false, not_false_eq_true, L_15, L_40, L_100, L_101, L_200, L_999, ↓NL_bp, BNP_none, BNP_some, and_self, if_true, if_false, and_true, true_and, and_false, false_and, t_now h, d_gk (t_d1 h), q1, st, c_isWithin, te3, cnt, e4, t_sh h, q4, s2, s3, s4, n]
                  · simp -dsimp (disch := omega) only [↓B1_bp, ↓B2_bp, BP_some, BQ_some, ↓reduceIte, L_0, L_1, L_2, L_3, L_4, L_5, L_6, L_7, L_8, L_9, L_10, L_11, L_12, L_13, L_54, L_14, L_99, L_20, L_30, L_31, L_60, L_19, i2_add, i2_sub, i2_mul, i2_neg, Int.reduceAdd, Int.reduceSub, Int.reduceMul, Int.reduceNeg, Int.reduceLT, Int.reduceLE, Int.reduceEq, i2_le, i2_lt, i2_eq, uA_self, uA_ne, tf_0, not_true_eq_false, not_false_eq_true, L_15, L_40, L_100, L_101, L_200, L_999, ↓NL_bp, BNP_none, BNP_some, and_self, if_true, if_false, and_true, true_and, and_false, false_and, t_now h, d_gk (t_d1 h), q1, st, c_isWithin, te3, cnt, e4, t_sh h, q4, s2, s3, s4, n, n']
                · unfold fX12_minds
                  by_cases n : y < 0
                  · simp -dsimp (disch := omega) only [↓B1_bp, ↓B2_bp, BP_some, BQ_some, ↓reduceIte, gk_row, rdN_row, alN_row, alN__row, gk_m hm, rdm0 hm, rdm1 hm, rdm2 hm, rdm3 hm, L_0, L_1, L_2, L_3, L_4, L_5, L_6, L_7, L_8, L_9, L_10, L_11, L_12, L_13, L_54, L_14, L_99, L_20, L_30, L_31, L_60, L_19, i2_add, i2_sub, i2_mul, i2_neg, Int.reduceAdd, Int.reduceSub, Int.reduceMul, Int.reduceNeg, Int.reduceLT, Int.reduceLE, Int.reduceEq, i2_le, i2_lt, i2_eq, J_0, J_1, J_2, J_3, J_5, J_7, J_8, J_9, J_10, J_13, J_15, J_30, J_60, J_99, J_100, J_999, J_n1, i2_j2, m_in, tf_0, not_true_eq_false, not_false_eq_true, m_al hm, L_15, L_40, L_100, L_101, L_190, L_200, L_999, uA_self, and_self, if_true, if_false, and_true, true_and, and_false, false_and, q2, a1, te3, e4, q5, n]
                  · have n' : ¬ y ≤ gI M 173 x - u := by omega
                    simp -dsimp (disch := omega) only [↓B1_bp, ↓B2_bp, BP_some, BQ_some, ↓reduceIte, gk_row, rdN_row, alN_row, alN__row, gk_m hm, rdm0 hm, rdm1 hm, rdm2 hm, rdm3 hm, L_0, L_1, L_2, L_3, L_4, L_5, L_6, L_7, L_8, L_9, L_10, L_11, L_12, L_13, L_54, L_14, L_99, L_20, L_30, L_31, L_60, L_19, i2_add, i2_sub, i2_mul, i2_neg, Int.reduceAdd, Int.reduceSub, Int.reduceMul, Int.reduceNeg, Int.reduceLT, Int.reduceLE, Int.reduceEq, i2_le, i2_lt, i2_eq, J_0, J_1, J_2, J_3, J_5, J_7, J_8, J_9, J_10, J_13, J_15, J_30, J_60, J_99, J_100, J_999, J_n1, i2_j2, m_in, tf_0, not_true_eq_false, not_false_eq_true, m_al hm, L_15, L_40, L_100, L_101, L_190, L_200, L_999, uA_self, and_self, if_true, if_false, and_true, true_and, and_false, false_and, q2, a1, te3, e4, q5, n, m_r14 hm, a73', n']
            · rw [if_neg (fun w => e5 w.symm)] at q5
              refine OpR.op hi (opR_keep (r := i2 (-13)) c g ha ?_ ?_)
              · unfold fX11_minds
                simp -dsimp (disch := omega) only [↓B1_bp, ↓B2_bp, BP_some, BQ_some, ↓reduceIte, L_0, L_1, L_2, L_3, L_4, L_5, L_6, L_7, L_8, L_9, L_10, L_11, L_12, L_13, L_54, L_14, L_99, L_20, L_30, L_31, L_60, L_19, i2_add, i2_sub, i2_mul, i2_neg, Int.reduceAdd, Int.reduceSub, Int.reduceMul, Int.reduceNeg, Int.reduceLT, Int.reduceLE, Int.reduceEq, i2_le, i2_lt, i2_eq, uA_self, uA_ne, tf_0, not_true_eq_false, not_false_eq_true, L_15, L_40, L_100, L_101, L_200, L_999, ↓NL_bp, BNP_none, BNP_some, and_self, if_true, if_false, and_true, true_and, and_false, false_and, t_now h, d_gk (t_d1 h), q1, st, c_isWithin, te3, cnt, e4, t_sh h, q4, s2, e5]
              · unfold fX12_minds
                simp -dsimp (disch := omega) only [↓B1_bp, ↓B2_bp, BP_some, BQ_some, ↓reduceIte, gk_row, rdN_row, alN_row, alN__row, gk_m hm, rdm0 hm, rdm1 hm, rdm2 hm, rdm3 hm, L_0, L_1, L_2, L_3, L_4, L_5, L_6, L_7, L_8, L_9, L_10, L_11, L_12, L_13, L_54, L_14, L_99, L_20, L_30, L_31, L_60, L_19, i2_add, i2_sub, i2_mul, i2_neg, Int.reduceAdd, Int.reduceSub, Int.reduceMul, Int.reduceNeg, Int.reduceLT, Int.reduceLE, Int.reduceEq, i2_le, i2_lt, i2_eq, J_0, J_1, J_2, J_3, J_5, J_7, J_8, J_9, J_10, J_13, J_15, J_30, J_60, J_99, J_100, J_999, J_n1, i2_j2, m_in, tf_0, not_true_eq_false, not_false_eq_true, m_al hm, L_15, L_40, L_100, L_101, L_190, L_200, L_999, uA_self, and_self, if_true, if_false, and_true, true_and, and_false, false_and, q2, a1, te3, e4, q5]
        · refine OpR.op hi (opR_keep (r := i2 (-1)) c g ha ?_ ?_)
          · unfold fX11_minds
            simp -dsimp (disch := omega) only [↓B1_bp, ↓B2_bp, BP_some, BQ_some, ↓reduceIte, L_0, L_1, L_2, L_3, L_4, L_5, L_6, L_7, L_8, L_9, L_10, L_11, L_12, L_13, L_54, L_14, L_99, L_20, L_30, L_31, L_60, L_19, i2_add, i2_sub, i2_mul, i2_neg, Int.reduceAdd, Int.reduceSub, Int.reduceMul, Int.reduceNeg, Int.reduceLT, Int.reduceLE, Int.reduceEq, i2_le, i2_lt, i2_eq, uA_self, uA_ne, tf_0, not_true_eq_false, not_false_eq_true, L_15, L_40, L_100, L_101, L_200, L_999, ↓NL_bp, BNP_none, BNP_some, and_self, if_true, if_false, and_true, true_and, and_false, false_and, t_now h, d_gk (t_d1 h), q1, st, c_isWithin, te3, cnt, e4]
          · unfold fX12_minds
            simp -dsimp (disch := omega) only [↓B1_bp, ↓B2_bp, BP_some, BQ_some, ↓reduceIte, gk_row, rdN_row, alN_row, alN__row, gk_m hm, rdm0 hm, rdm1 hm, rdm2 hm, rdm3 hm, L_0, L_1, L_2, L_3, L_4, L_5, L_6, L_7, L_8, L_9, L_10, L_11, L_12, L_13, L_54, L_14, L_99, L_20, L_30, L_31, L_60, L_19, i2_add, i2_sub, i2_mul, i2_neg, Int.reduceAdd, Int.reduceSub, Int.reduceMul, Int.reduceNeg, Int.reduceLT, Int.reduceLE, Int.reduceEq, i2_le, i2_lt, i2_eq, J_0, J_1, J_2, J_3, J_5, J_7, J_8, J_9, J_10, J_13, J_15, J_30, J_60, J_99, J_100, J_999, J_n1, i2_j2, m_in, tf_0, not_true_eq_false, not_false_eq_true, m_al hm, L_15, L_40, L_100, L_101, L_190, L_200, L_999, uA_self, and_self, if_true, if_false, and_true, true_and, and_false, false_and, q2, a1, te3, e4]
      · have te3 : tf (0 ≤ u ∧ u ≤ 8) = 0 := tf_f e3
        refine OpR.op hi (opR_keep (r := i2 (-1)) c g ha ?_ ?_)
        · unfold fX11_minds
          simp -dsimp (disch := omega) only [↓B1_bp, ↓B2_bp, BP_some, BQ_some, ↓reduceIte, L_0, L_1, L_2, L_3, L_4, L_5, L_6, L_7, L_8, L_9, L_10, L_11, L_12, L_13, L_54, L_14, L_99, L_20, L_30, L_31, L_60, L_19, i2_add, i2_sub, i2_mul, i2_neg, Int.reduceAdd, Int.reduceSub, Int.reduceMul, Int.reduceNeg, Int.reduceLT, Int.reduceLE, Int.reduceEq, i2_le, i2_lt, i2_eq, uA_self, uA_ne, tf_0, not_true_eq_false, not_false_eq_true, L_15, L_40, L_100, L_101, L_200, L_999, ↓NL_bp, BNP_none, BNP_some, and_self, if_true, if_false, and_true, true_and, and_false, false_and, t_now h, d_gk (t_d1 h), q1, st, c_isWithin, te3]
        · unfold fX12_minds
          simp -dsimp (disch := omega) only [↓B1_bp, ↓B2_bp, BP_some, BQ_some, ↓reduceIte, gk_row, rdN_row, alN_row, alN__row, gk_m hm, rdm0 hm, rdm1 hm, rdm2 hm, rdm3 hm, L_0, L_1, L_2, L_3, L_4, L_5, L_6, L_7, L_8, L_9, L_10, L_11, L_12, L_13, L_54, L_14, L_99, L_20, L_30, L_31, L_60, L_19, i2_add, i2_sub, i2_mul, i2_neg, Int.reduceAdd, Int.reduceSub, Int.reduceMul, Int.reduceNeg, Int.reduceLT, Int.reduceLE, Int.reduceEq, i2_le, i2_lt, i2_eq, J_0, J_1, J_2, J_3, J_5, J_7, J_8, J_9, J_10, J_13, J_15, J_30, J_60, J_99, J_100, J_999, J_n1, i2_j2, m_in, tf_0, not_true_eq_false, not_false_eq_true, m_al hm, L_15, L_40, L_100, L_101, L_190, L_200, L_999, uA_self, and_self, if_true, if_false, and_true, true_and, and_false, false_and, q2, a1, te3]
    · have e2' : ¬ (0 ≤ z ∧ z ≤ A 0 - 1) := by omega
      rw [show stAt A 1 z = none from if_neg e2] at st
      rw [tf_f e2'] at a1
      refine OpR.op hi (opR_keep (r := i2 (-1)) c g ha ?_ ?_)
      · unfold fX11_minds
        simp -dsimp (disch := omega) only [↓B1_bp, ↓B2_bp, BP_some, BQ_some, ↓reduceIte, L_0, L_1, L_2, L_3, L_4, L_5, L_6, L_7, L_8, L_9, L_10, L_11, L_12, L_13, L_54, L_14, L_99, L_20, L_30, L_31, L_60, L_19, i2_add, i2_sub, i2_mul, i2_neg, Int.reduceAdd, Int.reduceSub, Int.reduceMul, Int.reduceNeg, Int.reduceLT, Int.reduceLE, Int.reduceEq, i2_le, i2_lt, i2_eq, uA_self, uA_ne, tf_0, not_true_eq_false, not_false_eq_true, L_15, L_40, L_100, L_101, L_200, L_999, ↓NL_bp, BNP_none, BNP_some, and_self, if_true, if_false, and_true, true_and, and_false, false_and, t_now h, d_gk (t_d1 h), q1, st]
      · unfold fX12_minds
        simp -dsimp (disch := omega) only [↓B1_bp, ↓B2_bp, BP_some, BQ_some, ↓reduceIte, gk_row, rdN_row, alN_row, alN__row, gk_m hm, rdm0 hm, rdm1 hm, rdm2 hm, rdm3 hm, L_0, L_1, L_2, L_3, L_4, L_5, L_6, L_7, L_8, L_9, L_10, L_11, L_12, L_13, L_54, L_14, L_99, L_20, L_30, L_31, L_60, L_19, i2_add, i2_sub, i2_mul, i2_neg, Int.reduceAdd, Int.reduceSub, Int.reduceMul, Int.reduceNeg, Int.reduceLT, Int.reduceLE, Int.reduceEq, i2_le, i2_lt, i2_eq, J_0, J_1, J_2, J_3, J_5, J_7, J_8, J_9, J_10, J_13, J_15, J_30, J_60, J_99, J_100, J_999, J_n1, i2_j2, m_in, tf_0, not_true_eq_false, not_false_eq_true, m_al hm, L_15, L_40, L_100, L_101, L_190, L_200, L_999, uA_self, and_self, if_true, if_false, and_true, true_and, and_false, false_and, q2, a1]
  · rw [tf_f e] at q1 q2
    refine OpR.op hi (opR_keep (r := i2 (-1)) c g ha ?_ ?_)
    · unfold fX11_minds
      simp -dsimp (disch := omega) only [↓B1_bp, ↓B2_bp, BP_some, BQ_some, ↓reduceIte, L_0, L_1, L_2, L_3, L_4, L_5, L_6, L_7, L_8, L_9, L_10, L_11, L_12, L_13, L_54, L_14, L_99, L_20, L_30, L_31, L_60, L_19, i2_add, i2_sub, i2_mul, i2_neg, Int.reduceAdd, Int.reduceSub, Int.reduceMul, Int.reduceNeg, Int.reduceLT, Int.reduceLE, Int.reduceEq, i2_le, i2_lt, i2_eq, uA_self, uA_ne, tf_0, not_true_eq_false, not_false_eq_true, L_15, L_40, L_100, L_101, L_200, L_999, ↓NL_bp, BNP_none, BNP_some, and_self, if_true, if_false, and_true, true_and, and_false, false_and, t_now h, d_gk (t_d1 h), q1]
    · unfold fX12_minds
      simp -dsimp (disch := omega) only [↓B1_bp, ↓B2_bp, BP_some, BQ_some, ↓reduceIte, gk_row, rdN_row, alN_row, alN__row, gk_m hm, rdm0 hm, rdm1 hm, rdm2 hm, rdm3 hm, L_0, L_1, L_2, L_3, L_4, L_5, L_6, L_7, L_8, L_9, L_10, L_11, L_12, L_13, L_54, L_14, L_99, L_20, L_30, L_31, L_60, L_19, i2_add, i2_sub, i2_mul, i2_neg, Int.reduceAdd, Int.reduceSub, Int.reduceMul, Int.reduceNeg, Int.reduceLT, Int.reduceLE, Int.reduceEq, i2_le, i2_lt, i2_eq, J_0, J_1, J_2, J_3, J_5, J_7, J_8, J_9, J_10, J_13, J_15, J_30, J_60, J_99, J_100, J_999, J_n1, i2_j2, m_in, tf_0, not_true_eq_false, not_false_eq_true, m_al hm, L_15, L_40, L_100, L_101, L_190, L_200, L_999, uA_self, and_self, if_true, if_false, and_true, true_and, and_false, false_and, q2]
end MINDS
