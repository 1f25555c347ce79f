section DAY2
variable {M : Mm} {A : Int → Int}
theorem ush_b (x : Int32) : 0 ≤ (ushI x 16).toInt ∧ (ushI x 16).toInt < 65536 := by
  have k : ((16 : Int32).toUInt32 &&& Int32.toUInt32 31) = 16 := by decide +kernel
  have lt : (x.toUInt32 >>> (16 : UInt32)).toNat < 65536 := by
    rw [UInt32.toNat_shiftRight, show ((16 : UInt32).toNat % 32) = 16 by decide +kernel, Nat.shiftRight_eq_div_pow]
    have := x.toUInt32.toNat_lt
    omega
  have e : (ushI x 16).toInt = ((x.toUInt32 >>> (16 : UInt32)).toNat : Int) := by
    show ((x.toUInt32 >>> ((16 : Int32).toUInt32 &&& Int32.toUInt32 31)).toBitVec).toInt = _
    rw [k]
    exact BitVec.toInt_eq_toNat_of_lt (by show 2 * (x.toUInt32 >>> (16 : UInt32)).toNat < 2 ^ 32; omega)
  omega
/-- a draw, and what it is over ten and over a hundred -/
def dwN (z : Int) : Nat := (dwI z).toInt.toNat
theorem dw_i2 (z : Int) : dwI z = i2 (dwN z) ∧ dwN z < 65536 := by
  have b := ush_b (i2 (zN z))
  have b2 : 0 ≤ (dwI z).toInt ∧ (dwI z).toInt < 65536 := b
  unfold dwN
  refine ⟨?_, by omega⟩
  rw [show (((dwI z).toInt.toNat : Nat) : Int) = (dwI z).toInt by omega, i2_self]
theorem dw_10 (z : Int) : dwI z - dwI z / 10 * 10 = i2 ((dwN z % 10 : Nat) : Int) := by
  obtain ⟨e, l⟩ := dw_i2 z
  rw [e, L_10, i2_div (by omega) (by omega) (by decide) (by decide), i2_mul, i2_sub, show (10 : Int) = ((10 : Nat) : Int) from rfl, nmod]
theorem dw_100 (z : Int) : dwI z - dwI z / 100 * 100 = i2 ((dwN z % 100 : Nat) : Int) := by
  obtain ⟨e, l⟩ := dw_i2 z
  rw [e, L_100, i2_div (by omega) (by omega) (by decide) (by decide), i2_mul, i2_sub, show (100 : Int) = ((100 : Nat) : Int) from rfl, nmod]
/-- the drawer behind a day with the pair l, r -/
def ddA (A : Int → Int) (l r : Int) : Int → Int := e3A (e2A A l r)
def dfA (A : Int → Int) (l r : Int) : Int → Int := if A 11 ≤ ((dwN (A 1) % 10 : Nat) : Int) then ddA A l r else e4A (e3A (ddA A l r)) l ((dwN (ddA A l r 1) % 100 : Nat) : Int)
def dzA (A : Int → Int) (l r : Int) : Int → Int := e2A (e6A (e6A (e5A (dfA A l r)) l) r) (-1) (-1)
def dyA (A : Int → Int) : Int → Int := if leA A < 0 then A else dzA A (leA A) (mateA A (leA A))
def dyR (A : Int → Int) : Int := if leA A < 0 then 0 else 1
theorem dd_lo {l r y : Int} (h1 : y ≠ 1) (h2 : y ≠ 2) (h3 : y ≠ 3) : ddA A l r y = A y := by
  show uA (e2A A l r) 1 (zN (e2A A l r 1)) y = A y
  rw [uA_ne h1]
  show uA (uA A 2 l) 3 r y = A y
  rw [uA_ne h3, uA_ne h2]
theorem e6_lo {k y : Int} (k0 : 0 ≤ k) (h : y < 54) : e6A A k y = A y := put_lo k0 h
theorem e5_lo {y : Int} (h : y < 54) : e5A A y = A y := pw_lo h
/-- what all stockings keep of being worn -/
def KW (A A' : Int → Int) (l r : Int) : Prop := A' 0 = A 0 ∧ (stA A' l 4 = stA A l 4 ∧ stA A' l 3 = stA A l 3) ∧ (stA A' r 4 = stA A r 4 ∧ stA A' r 3 = stA A r 3)
theorem e5_st (g : GA A) {k j : Int} (k0 : 0 ≤ k) (k1 : k < A 0) (j0 : 0 ≤ j) (j6 : j < 6) : stA (e5A A) k j = stA A k j := by
  have on : ∀ (P : Int → Int) (f : (Int → Int) → Int → Int) (x : Int), (∀ S, f S j = S j) → stA (onA P f x) k j = stA P k j := fun P f x hf => by
    unfold onA
    split
    · by_cases e : k = x
      · subst e
        rw [st_put j0 (by omega)]
        exact hf _
      · exact st_put_ne e j0 (by omega)
    · rfl
  unfold e5A pwA
  rw [on _ _ _ fun S => way_lo j6 _ _ S, on _ _ _ fun S => way_lo j6 _ _ S]
theorem df_facts (g : GA A) {l r : Int} (l0 : 0 ≤ l) (l1 : l < A 0) (r0 : 0 ≤ r) (r1 : r < A 0) (ne : l ≠ r) : GA (dfA A l r) ∧ KW A (dfA A l r) l r ∧ (∀ y, 4 ≤ y → y < 54 → dfA A l r y = A y) := by
  have g0 := g.1
  have g2 := e3A_ga (e2A_ga g (l := l) (r := r) (by omega) l1 (by omega) r1 (fun z => absurd z ne))
  have k2 : ∀ y : Int, 54 ≤ y → ddA A l r y = A y := fun y h => dd_lo (by omega) (by omega) (by omega)
  unfold dfA
  split
  · refine ⟨g2, ⟨dd_lo (by decide) (by decide) (by decide), ⟨k2 _ (by omega), k2 _ (by omega)⟩, ⟨k2 _ (by omega), k2 _ (by omega)⟩⟩, fun y a b => dd_lo (by omega) (by omega) (by omega)⟩
  · have g3 : GA (e3A (ddA A l r)) := e3A_ga g2
    have z0 : e3A (ddA A l r) 0 = A 0 := by
      show uA (ddA A l r) 1 _ 0 = A 0
      rw [uA_ne (by decide)]
      exact dd_lo (by decide) (by decide) (by decide)
    have k3 : ∀ y : Int, 4 ≤ y → e3A (ddA A l r) y = A y := fun y h => by
      show uA (ddA A l r) 1 _ y = A y
      rw [uA_ne (by omega)]
      exact dd_lo (by omega) (by omega) (by omega)
    have gs := e4A_gs g3 (l := l) (r := ((dwN (ddA A l r 1) % 100 : Nat) : Int)) l0 (show l < e3A (ddA A l r) 0 by rw [z0]; exact l1) (by omega) (by omega)
    have w : ∀ j : Int, 0 ≤ j → j < 6 → ∀ k : Int, 0 ≤ k → k < 8 → stA (e4A (e3A (ddA A l r)) l ((dwN (ddA A l r 1) % 100 : Nat) : Int)) k j = stA A k j := fun j j0 j6 k k0 k8 => by
      by_cases e : k = l
      · subst e
        unfold e4A
        rw [st_put j0 (by omega)]
        split
        · show uA (uA (stA (e3A (ddA A k r)) k) 6 _) 7 _ j = _
          rw [uA_ne (by omega), uA_ne (by omega)]
          exact k3 _ (by omega)
        · exact k3 _ (by omega)
      · unfold e4A
        rw [st_put_ne e j0 (by omega)]
        exact k3 _ (by omega)
    refine ⟨g3.put l0 gs, ⟨(put_lo l0 (by decide)).trans z0, ⟨w 4 (by decide) (by decide) l l0 (by omega), w 3 (by decide) (by decide) l l0 (by omega)⟩, ⟨w 4 (by decide) (by decide) r r0 (by omega), w 3 (by decide) (by decide) r r0 (by omega)⟩⟩, fun y a b => (put_lo l0 b).trans (k3 y a)⟩
/-- the rest of a day, behind the draws -/
theorem c_dayEnd {B : Nat} {X : Mm} {D : Int → Int} (h : LayD X B) (c : CR X B D) (g : GA D) {l r : Int} (l0 : 0 ≤ l) (l1 : l < D 0) (r0 : 0 ≤ r) (r1 : r < D 0) (ne : l ≠ r) (wl : stA D l 4 < stA D l 3) (wr : stA D r 4 < stA D r 3) : ∃ M1 M2 M3 M4, alN X (B + 4) 24 (i2 0) = some (B + 5) ∧ rdN X B 3 4 = some (B + 4) ∧ rdI X (B + 5) 13 0 = some (i2 (D (12 + 0))) ∧ fX0_passWay X B (B + 5) (i2 0) (i2 (D (12 + 0))) = some M1 ∧ (rdN M1 B 3 1 = some (B + 2) ∧ alN M1 (B + 2) 23 (i2 l) = some (B + 11 + 3 * l.toNat) ∧ rdI M1 (B + 11 + 3 * l.toNat) 10 4 = some (i2 (stA D l 4))) ∧ wrI M1 (B + 11 + 3 * l.toNat) 10 4 (i2 (stA D l 4 + 1)) = some M2 ∧ (rdN M2 B 3 1 = some (B + 2) ∧ alN M2 (B + 2) 23 (i2 r) = some (B + 11 + 3 * r.toNat) ∧ rdI M2 (B + 11 + 3 * r.toNat) 10 4 = some (i2 (stA D r 4))) ∧ wrI M2 (B + 11 + 3 * r.toNat) 10 4 (i2 (stA D r 4 + 1)) = some M3 ∧ gk M3 B 3 = some () ∧ fX0_takeOff M3 B = some M4 ∧ CR M4 B (e2A (e6A (e6A (e5A D) l) r) (-1) (-1)) ∧ Same X M4 B (B + 35) := by
  have g0 := g.1
  have e : (0 : Int) ≤ 0 ∧ (0 : Int) ≤ 1 := by decide
  have gc := g_wcnt g e
  have hl : ((l.toNat : Nat) : Int) = l := by omega
  have hr : ((r.toNat : Nat) : Int) = r := by omega
  have wr0 := d_wrx h c g e
  change WR X (B + 5) (D (12 + 0)) (wtA D 0) (ntA D 0) at wr0
  obtain ⟨M1, p1, c1, s1⟩ := c_dPass h c g wr0 (by omega) (fr := 0) (to := D (12 + 0)) (by omega) (by decide) (by decide)
  rw [show (min (D (12 + 0)) (D (12 + 0)) - 0).toNat = (D (12 + 0) - 0).toNat by omega] at c1
  change CR M1 B (e5A D) at c1
  have h1 := h.same s1
  have g1 : GA (e5A D) := e5A_ga g
  have z1 : e5A D 0 = D 0 := e5_lo (by decide)
  have st1 := fun (k j : Int) (k0 : 0 ≤ k) (k1 : k < D 0) (j0 : 0 ≤ j) (j6 : j < 6) => e5_st g k0 k1 j0 j6
  have wl1 : stA (e5A D) l 4 < stA (e5A D) l 3 := by rw [st1 l 4 l0 l1 (by decide) (by decide), st1 l 3 l0 l1 (by decide) (by decide)]; exact wl
  obtain ⟨M2, p2, c2, s2⟩ := c_e6 h1 c1 g1 l0 (by rw [z1]; exact l1) wl1
  rw [st1 l 4 l0 l1 (by decide) (by decide)] at p2
  have h2 := h1.same s2
  have g2 : GA (e6A (e5A D) l) := g1.put l0 (e6A_gs g1 l0 (by rw [z1]; exact l1) wl1)
  have z2 : e6A (e5A D) l 0 = D 0 := (e6_lo l0 (by decide)).trans z1
  have st2 : ∀ j : Int, 0 ≤ j → j < 6 → stA (e6A (e5A D) l) r j = stA D r j := fun j j0 j6 => (st_put_ne (Ne.symm ne) j0 (by omega)).trans (st1 r j r0 r1 j0 j6)
  have wr2 : stA (e6A (e5A D) l) r 4 < stA (e6A (e5A D) l) r 3 := by rw [st2 4 (by decide) (by decide), st2 3 (by decide) (by decide)]; exact wr
  obtain ⟨M3, p3, c3, s3⟩ := c_e6 h2 c2 g2 r0 (by rw [z2]; exact r1) wr2
  rw [st2 4 (by decide) (by decide)] at p3
  have h3 := h2.same s3
  obtain ⟨M4', M4, p4, p5, -, c4, s4⟩ := c_feet2 h3 c3 (l := -1) (r := -1) (by decide) (by decide) (by decide) (by decide)
  have f1 := (d_fld h1 c1 g1 (k := l.toNat) (by omega)).2.1.1
  have f2 := (d_fld h2 c2 g2 (k := r.toNat) (by omega)).2.1.1
  rw [hl, st1 l 4 l0 l1 (by decide) (by decide)] at f1
  rw [hr, st2 4 (by decide) (by decide)] at f2
  have to : fX0_takeOff M3 B = some M4 := by
    have s5 : Same M3 M4' B (B + 35) := by
      have q := g_asI (M := M3) (p := B + 3) (N := 2) (x := 0) (v := -1) h3.2.2.2.1 (by decide) (by decide) (by decide)
      rw [q] at p4
      cases p4
      exact (Same.row _ _ _).wide (by omega) (by omega)
    unfold fX0_takeOff
    simp -dsimp (disch := omega) only [↓B1_bp, ↓B2_bp, BP_some, BQ_some, ↓reduceIte, L_0, L_1, L_2, L_3, L_4, L_5, L_6, L_7, L_8, L_9, L_10, L_11, L_12, L_13, L_54, L_14, L_99, L_20, L_30, L_31, L_60, L_19, i2_add, i2_sub, i2_mul, i2_neg, Int.reduceAdd, Int.reduceSub, Int.reduceMul, Int.reduceNeg, Int.reduceLT, Int.reduceLE, Int.reduceEq, i2_le, i2_lt, i2_eq, uA_self, uA_ne, tf_0, not_true_eq_false, not_false_eq_true, d_feet h3, p4, d_feet (h3.same s5), p5]
  exact ⟨M1, M2, M3, M4, d_way h (by decide) (by decide), d_ways h, wr0.2.1, p1, ⟨d_sts h1, d_st h1 l0 (by omega), f1⟩, p2, ⟨d_sts h2, d_st h2 r0 (by omega), f2⟩, p3, d_gk h3, to, c4, (((s1.wide (by omega) (by omega)).tr (s2.wide (by omega) (by omega))).tr (s3.wide (by omega) (by omega))).tr s4⟩
theorem c_liveADay {B : Nat} (h : LayD M B) (c : CR M B A) (g : GA A) : ∃ M1, fX0_liveADay M B = some (i2 (dyR A), M1) ∧ CR M1 B (dyA A) ∧ Same M M1 B (B + 35) := by
  have g0 := g.1
  have lp := c_leastPaired h c g
  have gk0 := d_gk h
  unfold dyR dyA
  rcases leA_b g with z | ⟨l0, l1, l2⟩
  · rw [z] at lp ⊢
    have mn := c_mateN h c g
    rw [if_pos (by decide), if_pos (by decide)]
    refine ⟨M, ?_, c, Same.rf _ _ _⟩
    unfold fX0_liveADay
    simp -dsimp (disch := omega) only [↓B1_bp, ↓B2_bp, BP_some, BQ_some, ↓reduceIte, L_0, L_1, L_2, L_3, L_4, L_5, L_6, L_7, L_8, L_9, L_10, L_11, L_12, L_13, L_54, L_14, L_99, L_20, L_30, L_31, L_60, L_19, i2_add, i2_sub, i2_mul, i2_neg, Int.reduceAdd, Int.reduceSub, Int.reduceMul, Int.reduceNeg, Int.reduceLT, Int.reduceLE, Int.reduceEq, i2_le, i2_lt, i2_eq, uA_self, uA_ne, tf_0, not_true_eq_false, not_false_eq_true, gk0, lp, mn]
  · have nl : ¬ leA A < 0 := by omega
    rw [if_neg nl, if_neg nl]
    have mt := c_mateOf h c g l0 l1
    obtain ⟨r0, r1, pr⟩ : 0 ≤ mateA A (leA A) ∧ mateA A (leA A) < A 0 ∧ prI A (leA A) (mateA A (leA A)) = 1 := by
      rcases mateA_b g (leA A) with z | z
      · omega
      · exact z
    obtain ⟨ne, wl, wr⟩ := pr_facts pr
    obtain ⟨gD, ⟨kd0, ⟨kd1, kd2⟩, ⟨kd3, kd4⟩⟩, kd5⟩ := df_facts g l0 l1 r0 r1 ne
    generalize hl : leA A = l at *
    generalize hr : mateA A l = r at *
    obtain ⟨M1, M2, p1, p2, s1, c2, s2⟩ := c_feet2 h c (l := l) (r := r) (by omega) (by omega) (by omega) (by omega)
    have h1 := h.same s1
    have h2 := h.same s2
    have g2 := e2A_ga g (l := l) (r := r) (by omega) l1 (by omega) r1 (fun z => absurd z ne)
    obtain ⟨M3, p3, c3, s3⟩ := c_draw h2 c2 g2
    have h3 := h2.same s3
    change CR M3 B (ddA A l r) at c3
    rw [show e2A A l r 1 = A 1 from rfl] at p3
    have g3 : GA (ddA A l r) := e3A_ga g2
    have lw := d_law h3 c3 7 (by decide) (by decide)
    rw [show lwA (ddA A l r) 7 = A 11 from dd_lo (A := A) (y := 11) (by decide) (by decide) (by decide)] at lw
    have b11 : 0 ≤ A 11 ∧ A 11 ≤ 10 := g.2.2.2.2.2.1.2.2.2.2.2.2.2
    have d10 := dw_10 (A 1)
    have lt10 := Nat.mod_lt (dwN (A 1)) (show 0 < 10 by decide)
    unfold dzA
    by_cases q : A 11 ≤ ((dwN (A 1) % 10 : Nat) : Int)
    · have eD : dfA A l r = ddA A l r := if_pos q
      rw [eD] at gD kd0 kd1 kd2 kd3 kd4 ⊢
      obtain ⟨N1, N2, N3, N4, t1, t2, t3, t4, ⟨t5, t6, t7⟩, t8, ⟨t9, t10, t11⟩, t12, t13, t14, t15, t16⟩ := c_dayEnd h3 c3 gD l0 (by rw [kd0]; exact l1) r0 (by rw [kd0]; exact r1) ne (by rw [kd1, kd2]; exact wl) (by rw [kd3, kd4]; exact wr)
      rw [show (12 : Int) + 0 = 12 from rfl] at t3 t4
      rw [kd1] at t7 t8
      rw [kd3] at t11 t12
      refine ⟨N4, ?_, t15, (s2.tr s3).tr t16⟩
      clear t15 t16 c c2 c3 g g2 g3 gD
      unfold fX0_liveADay
      simp -dsimp (disch := omega) only [↓B1_bp, ↓B2_bp, BP_some, BQ_some, ↓reduceIte, L_0, L_1, L_2, L_3, L_4, L_5, L_6, L_7, L_8, L_9, L_10, L_11, L_12, L_13, L_54, L_14, L_99, L_20, L_30, L_31, L_60, L_19, i2_add, i2_sub, i2_mul, i2_neg, Int.reduceAdd, Int.reduceSub, Int.reduceMul, Int.reduceNeg, Int.reduceLT, Int.reduceLE, Int.reduceEq, i2_le, i2_lt, i2_eq, uA_self, uA_ne, tf_0, not_true_eq_false, not_false_eq_true, gk0, lp, mt, nl, if_false, if_true, r0, d_feet h, p1, d_feet h1, p2, d_gk h2, p3, d_laws h3, lw]
      rw [← L_10, d10]
      simp -dsimp (disch := omega) only [↓B1_bp, ↓B2_bp, BP_some, BQ_some, ↓reduceIte, L_0, L_1, L_2, L_3, L_4, L_5, L_6, L_7, L_8, L_9, L_10, L_11, L_12, L_13, L_54, L_14, L_99, L_20, L_30, L_31, L_60, L_19, i2_add, i2_sub, i2_mul, i2_neg, Int.reduceAdd, Int.reduceSub, Int.reduceMul, Int.reduceNeg, Int.reduceLT, Int.reduceLE, Int.reduceEq, i2_le, i2_lt, i2_eq, uA_self, uA_ne, tf_0, not_true_eq_false, not_false_eq_true, q, if_true, t1, t2, t3, t4, t5, t6, t7, t8, t9, t10, t11, t12, t13, t14, d_gk h3]
    · have eD : dfA A l r = e4A (e3A (ddA A l r)) l ((dwN (ddA A l r 1) % 100 : Nat) : Int) := if_neg q
      rw [eD] at gD kd0 kd1 kd2 kd3 kd4 ⊢
      obtain ⟨M4, p4, c4, s4⟩ := c_draw h3 c3 g3
      have h4 := h3.same s4
      have g4 : GA (e3A (ddA A l r)) := e3A_ga g3
      have z4 : e3A (ddA A l r) 0 = A 0 := by
        show uA (ddA A l r) 1 _ 0 = A 0
        rw [uA_ne (by decide)]
        exact dd_lo (by decide) (by decide) (by decide)
      have lt100 := Nat.mod_lt (dwN (ddA A l r 1)) (show 0 < 100 by decide)
      have d100 := dw_100 (ddA A l r 1)
      obtain ⟨v5, M5, p5, c5, s5⟩ := c_e4 h4 c4 g4 (l := l) (r := ((dwN (ddA A l r 1) % 100 : Nat) : Int)) l0 (by rw [z4]; exact l1) (by omega) (by omega)
      have h5 := h4.same s5
      obtain ⟨N1, N2, N3, N4, t1, t2, t3, t4, ⟨t5, t6, t7⟩, t8, ⟨t9, t10, t11⟩, t12, t13, t14, t15, t16⟩ := c_dayEnd h5 c5 gD l0 (by rw [kd0]; exact l1) r0 (by rw [kd0]; exact r1) ne (by rw [kd1, kd2]; exact wl) (by rw [kd3, kd4]; exact wr)
      rw [show (12 : Int) + 0 = 12 from rfl] at t3 t4
      rw [kd1] at t7 t8
      rw [kd3] at t11 t12
      have st3 := d_st h3 (k := l) l0 (by omega)
      have gk4 := d_gk10 h4 (k := l.toNat) (by omega)
      refine ⟨N4, ?_, t15, (((s2.tr s3).tr s4).tr s5).tr t16⟩
      clear t15 t16 c c2 c3 c4 c5 g g2 g3 g4 gD
      unfold fX0_liveADay
      simp -dsimp (disch := omega) only [↓B1_bp, ↓B2_bp, BP_some, BQ_some, ↓reduceIte, L_0, L_1, L_2, L_3, L_4, L_5, L_6, L_7, L_8, L_9, L_10, L_11, L_12, L_13, L_54, L_14, L_99, L_20, L_30, L_31, L_60, L_19, i2_add, i2_sub, i2_mul, i2_neg, Int.reduceAdd, Int.reduceSub, Int.reduceMul, Int.reduceNeg, Int.reduceLT, Int.reduceLE, Int.reduceEq, i2_le, i2_lt, i2_eq, uA_self, uA_ne, tf_0, not_true_eq_false, not_false_eq_true, gk0, lp, mt, nl, if_false, if_true, r0, d_feet h, p1, d_feet h1, p2, d_gk h2, p3, d_laws h3, lw]
      rw [← L_10, d10]
      simp -dsimp (disch := omega) only [↓B1_bp, ↓B2_bp, BP_some, BQ_some, ↓reduceIte, L_0, L_1, L_2, L_3, L_4, L_5, L_6, L_7, L_8, L_9, L_10, L_11, L_12, L_13, L_54, L_14, L_99, L_20, L_30, L_31, L_60, L_19, i2_add, i2_sub, i2_mul, i2_neg, Int.reduceAdd, Int.reduceSub, Int.reduceMul, Int.reduceNeg, Int.reduceLT, Int.reduceLE, Int.reduceEq, i2_le, i2_lt, i2_eq, uA_self, uA_ne, tf_0, not_true_eq_false, not_false_eq_true, q, if_false, d_sts h3, st3, d_gk h3, p4, gk4]
      rw [d100]
      simp -dsimp (disch := omega) only [↓B1_bp, ↓B2_bp, BP_some, BQ_some, ↓reduceIte, L_0, L_1, L_2, L_3, L_4, L_5, L_6, L_7, L_8, L_9, L_10, L_11, L_12, L_13, L_54, L_14, L_99, L_20, L_30, L_31, L_60, L_19, i2_add, i2_sub, i2_mul, i2_neg, Int.reduceAdd, Int.reduceSub, Int.reduceMul, Int.reduceNeg, Int.reduceLT, Int.reduceLE, Int.reduceEq, i2_le, i2_lt, i2_eq, uA_self, uA_ne, tf_0, not_true_eq_false, not_false_eq_true, p5, t1, t2, t3, t4, t5, t6, t7, t8, t9, t10, t11, t12, t13, t14, d_gk h5]
/-! the reference's day -/
theorem m_dayEnd {D : Int → Int} (h : LayM M) (g : GA D) {l r : Int} (l0 : 0 ≤ l) (l1 : l < D 0) (r0 : 0 ≤ r) (r1 : r < D 0) (ne : l ≠ r) : fX12_walks (M.row 165 D) 164 (i2 0) (i2 0) (i2 (D 12)) = some (M.row 165 (e5A D)) ∧ fX12_its (M.row 165 (e5A D)) 164 (i2 l) (i2 4) = some (i2 (stA D l 4)) ∧ fX12_sets (M.row 165 (e5A D)) 164 (i2 l) (i2 4) (i2 (stA D l 4 + 1)) = some (M.row 165 (e6A (e5A D) l)) ∧ fX12_its (M.row 165 (e6A (e5A D) l)) 164 (i2 r) (i2 4) = some (i2 (stA D r 4)) ∧ fX12_sets (M.row 165 (e6A (e5A D) l)) 164 (i2 r) (i2 4) (i2 (stA D r 4 + 1)) = some (M.row 165 (e6A (e6A (e5A D) l) r)) := by
  have g0 := g.1
  have e : (0 : Int) ≤ 0 ∧ (0 : Int) ≤ 1 := by decide
  have gc := g_wcnt g e
  have w := m_walks h g (w := 0) (fr := 0) (to := D (12 + 0)) (by decide) (by decide) (by decide) gc.1 (Int.le_refl _)
  have s1 : stA (e5A D) l 4 = stA D l 4 := e5_st g l0 l1 (by decide) (by decide)
  have s2 : stA (e6A (e5A D) l) r 4 = stA D r 4 := (st_put_ne (Ne.symm ne) (by decide) (by decide)).trans (e5_st g r0 r1 (by decide) (by decide))
  refine ⟨w, ?_, ?_, ?_, ?_⟩
  · rw [m_st h l0 (by omega) (by decide) (by decide), s1]
  · rw [m_setP h l0 (by omega) (by decide) (by decide)]
    unfold e6A
    rw [s1]
  · rw [m_st h r0 (by omega) (by decide) (by decide), s2]
  · rw [m_setP h r0 (by omega) (by decide) (by decide)]
    have q : e6A (e6A (e5A D) l) r = putA (e6A (e5A D) l) r (uA (stA (e6A (e5A D) l) r) 4 (stA (e6A (e5A D) l) r 4 + 1)) := rfl
    rw [q, s2]
theorem m_dayAt (h : LayM M) (g : GA A) {l r : Int} (l0 : 0 ≤ l) (l1 : l < A 0) (r0 : 0 ≤ r) (mt : mateA A l = r) (N : Nat) : fX12_aDay_L2 164 (N + 1) (i2 l) (M.row 165 A) = some (i2 1, M.row 165 (dzA A l r)) := by
  have g0 := g.1
  have mm := m_mateOf (A := A) h g l0 l1
  rw [mt] at mm
  obtain ⟨-, r1, pr⟩ : 0 ≤ mateA A l ∧ mateA A l < A 0 ∧ prI A l (mateA A l) = 1 := by
    rcases mateA_b g l with z | z
    · omega
    · exact z
  rw [mt] at r1 pr
  obtain ⟨ne, wl, wr⟩ := pr_facts pr
  obtain ⟨gD, ⟨kd0, ⟨kd1, kd2⟩, ⟨kd3, kd4⟩⟩, kd5⟩ := df_facts g l0 l1 r0 r1 ne
  have g2 := e2A_ga g (l := l) (r := r) (by omega) l1 (by omega) r1 (fun z => absurd z ne)
  have g3 : GA (ddA A l r) := e3A_ga g2
  have as1 : asI (M.row 165 A) 165 (i2 2) (i2 l) = some (M.row 165 (uA A 2 l)) := asI_row (ar_s h) (by decide) (by decide) (by decide)
  have as2 : asI (M.row 165 (uA A 2 l)) 165 (i2 3) (i2 r) = some (M.row 165 (e2A A l r)) := asI_row (ar_s h) (by decide) (by decide) (by decide)
  have d1 := m_draw (A := e2A A l r) h
  rw [show e2A A l r 1 = A 1 from rfl] at d1
  change _ = some (dwI (A 1), M.row 165 (ddA A l r)) at d1
  have l11 : alI (M.row 165 (ddA A l r)) 165 (i2 11) = some (i2 (A 11)) := by
    rw [m_al h (by decide) (by decide), dd_lo (by decide) (by decide) (by decide)]
  have b11 : 0 ≤ A 11 ∧ A 11 ≤ 10 := g.2.2.2.2.2.1.2.2.2.2.2.2.2
  have d10 := dw_10 (A 1)
  have lt10 := Nat.mod_lt (dwN (A 1)) (show 0 < 10 by decide)
  have x1 : ¬ A 0 ≤ l := by omega
  have x2 : ¬ l = A 0 := by omega
  have e1 := fun (D : Int → Int) => asI_row (M := M) (A := e6A (e6A (e5A D) l) r) (x := 2) (v := -1) (ar_s h) (by decide) (by decide) (by decide)
  have e2 := fun (D : Int → Int) => asI_row (M := M) (A := uA (e6A (e6A (e5A D) l) r) 2 (-1)) (x := 3) (v := -1) (ar_s h) (by decide) (by decide) (by decide)
  have al12 := fun (D : Int → Int) => m_al (A := D) h (show 0 ≤ (12 : Int) by decide) (show (12 : Int) < 158 by decide)
  have al0 := m_al (A := A) h (show 0 ≤ (0 : Int) by decide) (show (0 : Int) < 158 by decide)
  unfold dzA
  by_cases q : A 11 ≤ ((dwN (A 1) % 10 : Nat) : Int)
  · have eD : dfA A l r = ddA A l r := if_pos q
    rw [eD] at gD kd0 kd1 kd2 kd3 kd4 ⊢
    obtain ⟨t1, t2, t3, t4, t5⟩ := m_dayEnd h gD l0 (by rw [kd0]; exact l1) r0 (by rw [kd0]; exact r1) ne
    have e3 := e1 (ddA A l r)
    have e4 := e2 (ddA A l r)
    have e5 := al12 (ddA A l r)
    clear g g2 g3 gD e1 e2 al12
    simp -dsimp (disch := omega) only [fX12_aDay_L2, ↓B1_bp, ↓B2_bp, BP_some, BQ_some, ↓reduceIte, L_0, L_1, L_2, L_3, L_4, L_5, L_6, L_7, L_8, L_9, L_10, L_11, L_12, L_13, L_54, L_14, L_99, L_20, L_30, L_31, L_60, L_19, i2_add, i2_sub, i2_mul, i2_neg, Int.reduceAdd, Int.reduceSub, Int.reduceMul, Int.reduceNeg, Int.reduceLT, Int.reduceLE, Int.reduceEq, i2_le, i2_lt, i2_eq, uA_self, uA_ne, tf_0, not_true_eq_false, not_false_eq_true, rdN_row, rdm0 h, gk_row, gk_m h, al0, x1, x2, if_false, mm, r0, if_true, as1, as2, d1, l11]
    rw [← L_10, d10]
    simp -dsimp (disch := omega) only [↓B1_bp, ↓B2_bp, BP_some, BQ_some, ↓reduceIte, L_0, L_1, L_2, L_3, L_4, L_5, L_6, L_7, L_8, L_9, L_10, L_11, L_12, L_13, L_54, L_14, L_99, L_20, L_30, L_31, L_60, L_19, i2_add, i2_sub, i2_mul, i2_neg, Int.reduceAdd, Int.reduceSub, Int.reduceMul, Int.reduceNeg, Int.reduceLT, Int.reduceLE, Int.reduceEq, i2_le, i2_lt, i2_eq, uA_self, uA_ne, tf_0, not_true_eq_false, not_false_eq_true, q, if_true, rdN_row, rdm0 h, gk_row, gk_m h, e5, t1, t2, t3, t4, t5, e3, e4]
    rfl
  · have eD : dfA A l r = e4A (e3A (ddA A l r)) l ((dwN (ddA A l r 1) % 100 : Nat) : Int) := if_neg q
    rw [eD] at gD kd0 kd1 kd2 kd3 kd4 ⊢
    have g4 : GA (e3A (ddA A l r)) := e3A_ga g3
    have z4 : e3A (ddA A l r) 0 = A 0 := by
      show uA (ddA A l r) 1 _ 0 = A 0
      rw [uA_ne (by decide)]
      exact dd_lo (by decide) (by decide) (by decide)
    have lt100 := Nat.mod_lt (dwN (ddA A l r 1)) (show 0 < 100 by decide)
    have d100 := dw_100 (ddA A l r 1)
    have d2 := m_draw (A := ddA A l r) h
    have my := m_may (A := e3A (ddA A l r)) h g4 (l := l) (r := ((dwN (ddA A l r 1) % 100 : Nat) : Int)) l0 (by rw [z4]; exact l1) (by omega) (by omega)
    obtain ⟨t1, t2, t3, t4, t5⟩ := m_dayEnd h gD l0 (by rw [kd0]; exact l1) r0 (by rw [kd0]; exact r1) ne
    have e3 := e1 (e4A (e3A (ddA A l r)) l ((dwN (ddA A l r 1) % 100 : Nat) : Int))
    have e4 := e2 (e4A (e3A (ddA A l r)) l ((dwN (ddA A l r 1) % 100 : Nat) : Int))
    have e5 := al12 (e4A (e3A (ddA A l r)) l ((dwN (ddA A l r 1) % 100 : Nat) : Int))
    have lad := m_laddP (A := e3A (ddA A l r)) h (a := ((dwN (ddA A l r 1) % 100 : Nat) : Int)) (b := ((dwN (ddA A l r 1) % 100 : Nat) : Int)) l0 (show l < 8 by omega)
    clear g g2 g3 g4 gD e1 e2 al12
    by_cases p : ¬ 0 ≤ stA (e3A (ddA A l r)) l 6 ∧ dabC (stA (e3A (ddA A l r)) l) ((dwN (ddA A l r 1) % 100 : Nat) : Int) < 0
    · rw [tf_t p] at my
      have e6 : putA (e3A (ddA A l r)) l (uA (uA (stA (e3A (ddA A l r)) l) 6 ((dwN (ddA A l r 1) % 100 : Nat) : Int)) 7 ((dwN (ddA A l r 1) % 100 : Nat) : Int)) = e4A (e3A (ddA A l r)) l ((dwN (ddA A l r 1) % 100 : Nat) : Int) := by
        unfold e4A
        rw [if_pos p]
        rfl
      rw [e6] at lad
      clear p
      simp -dsimp (disch := omega) only [fX12_aDay_L2, ↓B1_bp, ↓B2_bp, BP_some, BQ_some, ↓reduceIte, L_0, L_1, L_2, L_3, L_4, L_5, L_6, L_7, L_8, L_9, L_10, L_11, L_12, L_13, L_54, L_14, L_99, L_20, L_30, L_31, L_60, L_19, i2_add, i2_sub, i2_mul, i2_neg, Int.reduceAdd, Int.reduceSub, Int.reduceMul, Int.reduceNeg, Int.reduceLT, Int.reduceLE, Int.reduceEq, i2_le, i2_lt, i2_eq, uA_self, uA_ne, tf_0, not_true_eq_false, not_false_eq_true, rdN_row, rdm0 h, gk_row, gk_m h, al0, x1, x2, if_false, mm, r0, if_true, as1, as2, d1, l11]
      rw [← L_10, d10]
      simp -dsimp (disch := omega) only [↓B1_bp, ↓B2_bp, BP_some, BQ_some, ↓reduceIte, L_0, L_1, L_2, L_3, L_4, L_5, L_6, L_7, L_8, L_9, L_10, L_11, L_12, L_13, L_54, L_14, L_99, L_20, L_30, L_31, L_60, L_19, i2_add, i2_sub, i2_mul, i2_neg, Int.reduceAdd, Int.reduceSub, Int.reduceMul, Int.reduceNeg, Int.reduceLT, Int.reduceLE, Int.reduceEq, i2_le, i2_lt, i2_eq, uA_self, uA_ne, tf_0, not_true_eq_false, not_false_eq_true, q, if_false, rdN_row, gk_row, gk_m h, d2]
      rw [d100]
      simp -dsimp (disch := omega) only [↓B1_bp, ↓B2_bp, BP_some, BQ_some, ↓reduceIte, L_0, L_1, L_2, L_3, L_4, L_5, L_6, L_7, L_8, L_9, L_10, L_11, L_12, L_13, L_54, L_14, L_99, L_20, L_30, L_31, L_60, L_19, i2_add, i2_sub, i2_mul, i2_neg, Int.reduceAdd, Int.reduceSub, Int.reduceMul, Int.reduceNeg, Int.reduceLT, Int.reduceLE, Int.reduceEq, i2_le, i2_lt, i2_eq, uA_self, uA_ne, tf_0, not_true_eq_false, not_false_eq_true, my, rdN_row, rdm0 h, gk_row, gk_m h, lad, e5, t1, t2, t3, t4, t5, e3, e4]
      rfl
    · rw [tf_f p] at my
      have e6 : M.row 165 (e3A (ddA A l r)) = M.row 165 (e4A (e3A (ddA A l r)) l ((dwN (ddA A l r 1) % 100 : Nat) : Int)) := by
        unfold e4A
        rw [if_neg p, put_st]
      clear p lad
      simp -dsimp (disch := omega) only [fX12_aDay_L2, ↓B1_bp, ↓B2_bp, BP_some, BQ_some, ↓reduceIte, L_0, L_1, L_2, L_3, L_4, L_5, L_6, L_7, L_8, L_9, L_10, L_11, L_12, L_13, L_54, L_14, L_99, L_20, L_30, L_31, L_60, L_19, i2_add, i2_sub, i2_mul, i2_neg, Int.reduceAdd, Int.reduceSub, Int.reduceMul, Int.reduceNeg, Int.reduceLT, Int.reduceLE, Int.reduceEq, i2_le, i2_lt, i2_eq, uA_self, uA_ne, tf_0, not_true_eq_false, not_false_eq_true, rdN_row, rdm0 h, gk_row, gk_m h, al0, x1, x2, if_false, mm, r0, if_true, as1, as2, d1, l11]
      rw [← L_10, d10]
      simp -dsimp (disch := omega) only [↓B1_bp, ↓B2_bp, BP_some, BQ_some, ↓reduceIte, L_0, L_1, L_2, L_3, L_4, L_5, L_6, L_7, L_8, L_9, L_10, L_11, L_12, L_13, L_54, L_14, L_99, L_20, L_30, L_31, L_60, L_19, i2_add, i2_sub, i2_mul, i2_neg, Int.reduceAdd, Int.reduceSub, Int.reduceMul, Int.reduceNeg, Int.reduceLT, Int.reduceLE, Int.reduceEq, i2_le, i2_lt, i2_eq, uA_self, uA_ne, tf_0, not_true_eq_false, not_false_eq_true, q, if_false, rdN_row, gk_row, gk_m h, d2]
      rw [d100]
      simp -dsimp (disch := omega) only [↓B1_bp, ↓B2_bp, BP_some, BQ_some, ↓reduceIte, L_0, L_1, L_2, L_3, L_4, L_5, L_6, L_7, L_8, L_9, L_10, L_11, L_12, L_13, L_54, L_14, L_99, L_20, L_30, L_31, L_60, L_19, i2_add, i2_sub, i2_mul, i2_neg, Int.reduceAdd, Int.reduceSub, Int.reduceMul, Int.reduceNeg, Int.reduceLT, Int.reduceLE, Int.reduceEq, i2_le, i2_lt, i2_eq, uA_self, uA_ne, tf_0, not_true_eq_false, not_false_eq_true, my, rdN_row, rdm0 h, gk_row, gk_m h]
      rw [e6]
      simp -dsimp (disch := omega) only [↓B1_bp, ↓B2_bp, BP_some, BQ_some, ↓reduceIte, L_0, L_1, L_2, L_3, L_4, L_5, L_6, L_7, L_8, L_9, L_10, L_11, L_12, L_13, L_54, L_14, L_99, L_20, L_30, L_31, L_60, L_19, i2_add, i2_sub, i2_mul, i2_neg, Int.reduceAdd, Int.reduceSub, Int.reduceMul, Int.reduceNeg, Int.reduceLT, Int.reduceLE, Int.reduceEq, i2_le, i2_lt, i2_eq, uA_self, uA_ne, tf_0, not_true_eq_false, not_false_eq_true, rdN_row, rdm0 h, gk_row, gk_m h, e5, t1, t2, t3, t4, t5, e3, e4]
      rfl
theorem m_aDay (h : LayM M) (g : GA A) : fX12_aDay (M.row 165 A) 164 = some (i2 (dyR A), M.row 165 (dyA A)) := by
  have g0 := g.1
  have k : ∀ (d N : Nat) (i : Int), d < N → 0 ≤ i → i + d = A 0 → fX12_aDay_L2 164 N (i2 i) (M.row 165 A) = some (i2 (if leF A d i < 0 then 0 else 1), M.row 165 (if leF A d i < 0 then A else dzA A (leF A d i) (mateA A (leF A d i)))) := by
    intro d
    induction d with
    | zero =>
      intro N i hN i0 hi
      obtain ⟨N, rfl⟩ : ∃ k, N = k + 1 := ⟨N - 1, by omega⟩
      have q : A 0 ≤ i := by omega
      have q2 : i = A 0 := by omega
      have al0 := m_al (A := A) h (show 0 ≤ (0 : Int) by decide) (show (0 : Int) < 158 by decide)
      rw [show leF A 0 i = -1 from rfl, if_pos (by decide), if_pos (by decide)]
      simp -dsimp (disch := omega) only [fX12_aDay_L2, ↓B1_bp, ↓B2_bp, BP_some, BQ_some, ↓reduceIte, L_0, L_1, L_2, L_3, L_4, L_5, L_6, L_7, L_8, L_9, L_10, L_11, L_12, L_13, L_54, L_14, L_99, L_20, L_30, L_31, L_60, L_19, i2_add, i2_sub, i2_mul, i2_neg, Int.reduceAdd, Int.reduceSub, Int.reduceMul, Int.reduceNeg, Int.reduceLT, Int.reduceLE, Int.reduceEq, i2_le, i2_lt, i2_eq, uA_self, uA_ne, tf_0, not_true_eq_false, not_false_eq_true, rdN_row, rdm0 h, al0, q, q2, if_true, Int.le_refl]
    | succ d ih =>
      intro N i hN i0 hi
      obtain ⟨N, rfl⟩ : ∃ k, N = k + 1 := ⟨N - 1, by omega⟩
      by_cases z : mateA A i < 0
      · have q : ¬ A 0 ≤ i := by omega
        have e : leF A (d + 1) i = leF A d (i + 1) := if_pos z
        have mb := mateA_b g i
        have z2 : ¬ 0 ≤ mateA A i := by omega
        have mm := m_mateOf (A := A) h g i0 (show i < A 0 by omega)
        have al0 := m_al (A := A) h (show 0 ≤ (0 : Int) by decide) (show (0 : Int) < 158 by decide)
        rw [e, ← ih N (i + 1) (by omega) (by omega) (by omega)]
        clear ih
        simp -dsimp (disch := omega) only [fX12_aDay_L2, ↓B1_bp, ↓B2_bp, BP_some, BQ_some, ↓reduceIte, L_0, L_1, L_2, L_3, L_4, L_5, L_6, L_7, L_8, L_9, L_10, L_11, L_12, L_13, L_54, L_14, L_99, L_20, L_30, L_31, L_60, L_19, i2_add, i2_sub, i2_mul, i2_neg, Int.reduceAdd, Int.reduceSub, Int.reduceMul, Int.reduceNeg, Int.reduceLT, Int.reduceLE, Int.reduceEq, i2_le, i2_lt, i2_eq, uA_self, uA_ne, tf_0, not_true_eq_false, not_false_eq_true, rdN_row, rdm0 h, gk_row, gk_m h, al0, q, if_false, mm, z2]
      · have e : leF A (d + 1) i = i := if_neg z
        have nl : ¬ i < 0 := by omega
        rw [e, if_neg nl, if_neg nl]
        exact m_dayAt h g i0 (by omega) (by omega) rfl N
  exact k (A 0).toNat FL 0 (by show _ < 4096; omega) (Int.le_refl _) (by omega)
theorem dyA_ga (g : GA A) : GA (dyA A) := by
  have g0 := g.1
  unfold dyA
  rcases leA_b g with z | ⟨l0, l1, l2⟩
  · rw [if_pos (by omega)]
    exact g
  · rw [if_neg (by omega)]
    obtain ⟨r0, r1, pr⟩ : 0 ≤ mateA A (leA A) ∧ mateA A (leA A) < A 0 ∧ prI A (leA A) (mateA A (leA A)) = 1 := by
      rcases mateA_b g (leA A) with z | z
      · omega
      · exact z
    obtain ⟨ne, wl, wr⟩ := pr_facts pr
    obtain ⟨gD, ⟨kd0, ⟨kd1, kd2⟩, ⟨kd3, kd4⟩⟩, kd5⟩ := df_facts g l0 l1 r0 r1 ne
    have g5 := e5A_ga gD
    have z5 : e5A (dfA A (leA A) (mateA A (leA A))) 0 = A 0 := (e5_lo (by decide)).trans kd0
    have st := fun (k j : Int) (k0 : 0 ≤ k) (k1 : k < A 0) (j0 : 0 ≤ j) (j6 : j < 6) => e5_st gD (k := k) (j := j) k0 (by rw [kd0]; exact k1) j0 j6
    have g6 : GA (e6A (e5A (dfA A (leA A) (mateA A (leA A)))) (leA A)) := g5.put l0 (e6A_gs g5 l0 (by rw [z5]; exact l1) (by rw [st _ _ l0 l1 (by decide) (by decide), st _ _ l0 l1 (by decide) (by decide), kd1, kd2]; exact wl))
    have z6 : e6A (e5A (dfA A (leA A) (mateA A (leA A)))) (leA A) 0 = A 0 := (e6_lo l0 (by decide)).trans z5
    have s6 : ∀ j : Int, 0 ≤ j → j < 6 → stA (e6A (e5A (dfA A (leA A) (mateA A (leA A)))) (leA A)) (mateA A (leA A)) j = stA (dfA A (leA A) (mateA A (leA A))) (mateA A (leA A)) j := fun j j0 j6 => (st_put_ne (Ne.symm ne) j0 (by omega)).trans (st _ _ r0 r1 j0 j6)
    have g7 : GA (e6A (e6A (e5A (dfA A (leA A) (mateA A (leA A)))) (leA A)) (mateA A (leA A))) := g6.put r0 (e6A_gs g6 r0 (by rw [z6]; exact r1) (by rw [s6 4 (by decide) (by decide), s6 3 (by decide) (by decide), kd3, kd4]; exact wr))
    exact e2A_ga g7 (by decide) (by have := g7.1; omega) (by decide) (by have := g7.1; omega) (fun _ => rfl)
theorem dyR_01 : dyR A = 0 ∨ dyR A = 1 := by
  unfold dyR
  split
  · exact Or.inl rfl
  · exact Or.inr rfl
theorem op_day (h : LayC M) (hm : LayM M) (c : CR M 1 A) (g : GA A) (ha : M.g 165 = rI A) : OpR M A (fun M => fX11_day M 0) (fun M => fX12_day M 164) := by
  obtain ⟨M1, p1, c1, s1⟩ := c_liveADay (t_d1 h) c g
  have h1 := h.same s1
  rcases dyR_01 (A := A) with z | z
  · rw [z] at p1
    refine opR_mk (r := i2 0) hm ha ?_ (s1.wide (by decide) (by decide)) c1 (dyA_ga g) fun X hX => ?_
    · unfold fX11_day
      simp -dsimp (disch := omega) only [↓B1_bp, ↓B2_bp, BP_some, BQ_some, ↓reduceIte, L_0, L_1, L_2, L_3, L_4, L_5, L_6, L_7, L_8, L_9, L_10, L_11, L_12, L_13, L_54, L_14, L_99, L_20, L_30, L_31, L_60, L_19, i2_add, i2_sub, i2_mul, i2_neg, Int.reduceAdd, Int.reduceSub, Int.reduceMul, Int.reduceNeg, Int.reduceLT, Int.reduceLE, Int.reduceEq, i2_le, i2_lt, i2_eq, uA_self, uA_ne, tf_0, not_true_eq_false, not_false_eq_true, L_15, L_40, L_100, L_101, L_200, L_999, ↓NL_bp, BNP_none, BNP_some, and_self, if_true, if_false, and_true, true_and, and_false, false_and, t_now h, d_gk (t_d1 h), p1]
    · have k := m_aDay (A := A) hX g
      rw [z] at k
      unfold fX12_day
      simp -dsimp (disch := omega) only [↓B1_bp, ↓B2_bp, BP_some, BQ_some, ↓reduceIte, gk_row, rdN_row, alN_row, alN__row, gk_m hX, rdm0 hX, rdm1 hX, rdm2 hX, rdm3 hX, L_0, L_1, L_2, L_3, L_4, L_5, L_6, L_7, L_8, L_9, L_10, L_11, L_12, L_13, L_54, L_14, L_99, L_20, L_30, L_31, L_60, L_19, i2_add, i2_sub, i2_mul, i2_neg, Int.reduceAdd, Int.reduceSub, Int.reduceMul, Int.reduceNeg, Int.reduceLT, Int.reduceLE, Int.reduceEq, i2_le, i2_lt, i2_eq, J_0, J_1, J_2, J_3, J_5, J_7, J_8, J_9, J_10, J_13, J_15, J_30, J_60, J_99, J_100, J_999, J_n1, i2_j2, m_in, tf_0, not_true_eq_false, not_false_eq_true, m_al hX, L_15, L_40, L_100, L_101, L_190, L_200, L_999, uA_self, and_self, if_true, if_false, and_true, true_and, and_false, false_and, k]
  · rw [z] at p1
    refine opR_mk (r := i2 1) hm ha ?_ (s1.wide (by decide) (by decide)) c1 (dyA_ga g) fun X hX => ?_
    · unfold fX11_day
      simp -dsimp (disch := omega) only [↓B1_bp, ↓B2_bp, BP_some, BQ_some, ↓reduceIte, L_0, L_1, L_2, L_3, L_4, L_5, L_6, L_7, L_8, L_9, L_10, L_11, L_12, L_13, L_54, L_14, L_99, L_20, L_30, L_31, L_60, L_19, i2_add, i2_sub, i2_mul, i2_neg, Int.reduceAdd, Int.reduceSub, Int.reduceMul, Int.reduceNeg, Int.reduceLT, Int.reduceLE, Int.reduceEq, i2_le, i2_lt, i2_eq, uA_self, uA_ne, tf_0, not_true_eq_false, not_false_eq_true, L_15, L_40, L_100, L_101, L_200, L_999, ↓NL_bp, BNP_none, BNP_some, and_self, if_true, if_false, and_true, true_and, and_false, false_and, t_now h, d_gk (t_d1 h), p1]
    · have k := m_aDay (A := A) hX g
      rw [z] at k
      unfold fX12_day
      simp -dsimp (disch := omega) only [↓B1_bp, ↓B2_bp, BP_some, BQ_some, ↓reduceIte, gk_row, rdN_row, alN_row, alN__row, gk_m hX, rdm0 hX, rdm1 hX, rdm2 hX, rdm3 hX, L_0, L_1, L_2, L_3, L_4, L_5, L_6, L_7, L_8, L_9, L_10, L_11, L_12, L_13, L_54, L_14, L_99, L_20, L_30, L_31, L_60, L_19, i2_add, i2_sub, i2_mul, i2_neg, Int.reduceAdd, Int.reduceSub, Int.reduceMul, Int.reduceNeg, Int.reduceLT, Int.reduceLE, Int.reduceEq, i2_le, i2_lt, i2_eq, J_0, J_1, J_2, J_3, J_5, J_7, J_8, J_9, J_10, J_13, J_15, J_30, J_60, J_99, J_100, J_999, J_n1, i2_j2, m_in, tf_0, not_true_eq_false, not_false_eq_true, m_al hX, L_15, L_40, L_100, L_101, L_190, L_200, L_999, uA_self, and_self, if_true, if_false, and_true, true_and, and_false, false_and, k]
end DAY2
