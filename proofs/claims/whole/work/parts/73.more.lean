section MORE
variable {M : Mm} {A : Int → Int}
/-- one stocking more -/
def morA (A : Int → Int) (S : Int → Int) : Int → Int := uA (putA A (A 0) S) 0 (A 0 + 1)
theorem morA_lo {S : Int → Int} {y : Int} (k0 : 0 ≤ A 0) (h : y < 54) (h0 : y ≠ 0) : morA A S y = A y := by
  unfold morA
  rw [uA_ne h0, put_lo k0 h]
theorem CR.more {B : Nat} {C R W S : Int → Int} (c : CR M B A) (g : GA A) (n : A 0 < 8) (r : SR C R W S) (gs : GS S) : CR ((stM M (B + 11 + 3 * (A 0).toNat) C R W).row B (uA (gI M B) 2 (A 0 + 1))) B (morA A S) := by
  have g0 := g.1
  have hs := Same.st M (B + 11 + 3 * (A 0).toNat) C R W
  have e1 : ∀ p, p ≠ B → gI ((stM M (B + 11 + 3 * (A 0).toNat) C R W).row B (uA (gI M B) 2 (A 0 + 1))) p = gI (stM M (B + 11 + 3 * (A 0).toNat) C R W) p := fun p hp => gI_ne _ hp
  have e : ∀ p, p ≠ B → ¬ (B + 11 + 3 * (A 0).toNat ≤ p ∧ p < B + 11 + 3 * (A 0).toNat + 3) → gI ((stM M (B + 11 + 3 * (A 0).toNat) C R W).row B (uA (gI M B) 2 (A 0 + 1))) p = gI M p := fun p hp hq => (e1 p hp).trans (gI_of (hs.2 p hq))
  have el : ∀ y : Int, y < 54 → y ≠ 0 → morA A S y = A y := fun y h h0 => morA_lo g0.1 h h0
  have e0 : morA A S 0 = A 0 + 1 := uA_self _ _ _
  obtain ⟨h1, h2, h3, h4, h5⟩ := c
  refine ⟨fun j a b => ?_, ⟨?_, ?_⟩, ?_, fun w hw => ?_, fun q hq => ?_⟩
  · rw [e _ (by omega) (by omega), el _ (by omega) (by omega)]; exact h1 j a b
  · rw [gI_row _ _ _ (by decide), nrI_id (by rw [uA_self]; omega) (by rw [uA_self]; omega), uA_self, e0]
  · have hb := gI_b M B 5
    rw [gI_row _ _ _ (by decide), nrI_id (by rw [uA_ne (by decide)]; omega) (by rw [uA_ne (by decide)]; omega), uA_ne (by decide), el _ (by decide) (by decide)]
    exact h2.2
  · rw [e _ (by omega) (by omega), el _ (by omega) (by omega), el _ (by omega) (by omega)]; exact h3
  · have hc := (g.2.2.2.2.2.2.1 w (by omega) (by omega)).1
    rw [e _ (by omega) (by omega), e _ (by omega) (by omega), e _ (by omega) (by omega), el _ (by omega) (by omega)]
    refine ⟨(h4 w hw).1, fun i i0 i1 => ?_⟩
    rw [el _ (by omega) (by omega), el _ (by omega) (by omega)]
    exact (h4 w hw).2 i i0 i1
  · rw [e0] at hq
    have st : ∀ j : Int, stA (morA A S) q j = stA (putA A (A 0) S) q j ∨ 54 + 13 * (q : Int) + j = 0 := fun j => by
      by_cases z : 54 + 13 * (q : Int) + j = 0
      · exact Or.inr z
      · exact Or.inl (uA_ne z)
    by_cases e2 : (q : Int) = A 0
    · have e3 : q = (A 0).toNat := by omega
      have k1 : SRm (stM M (B + 11 + 3 * (A 0).toNat) C R W) (B + 11 + 3 * q) S := by
        rw [e3]
        exact SRm.st r gs
      exact k1.cg (e1 _ (by omega)) (e1 _ (by omega)) (e1 _ (by omega)) fun j a b => by
        rcases st j with z | z
        · rw [z, e2]
          exact st_put a b
        · omega
    · exact SRm.cg (h5 q (by omega)) (e _ (by omega) (by omega)) (e _ (by omega) (by omega)) (e _ (by omega) (by omega)) fun j a b => by
        rcases st j with z | z
        · rw [z]
          exact st_put_ne (by omega) a b
        · omega
theorem GA.more {S : Int → Int} (g : GA A) (n : A 0 < 8) (gs : GS S) : GA (morA A S) := by
  have k0 := g.1.1
  have el : ∀ y : Int, y < 54 → y ≠ 0 → morA A S y = A y := fun y h h0 => morA_lo k0 h h0
  have e0 : morA A S 0 = A 0 + 1 := uA_self _ _ _
  obtain ⟨g0, g1, g2, g3, g4, g5, g6, g7⟩ := g
  refine ⟨?_, ?_, ?_, ?_, ?_, ?_, fun w w0 w1 => ?_, fun q q0 q1 => ?_⟩
  · rw [e0]; omega
  · rw [el _ (by decide) (by decide)]; exact g1
  · rw [el _ (by decide) (by decide), e0]; omega
  · rw [el _ (by decide) (by decide), e0]; omega
  · rw [el _ (by decide) (by decide), el _ (by decide) (by decide)]; exact g4
  · have q2 : ∀ j : Int, 0 ≤ j → j < 8 → lwA (morA A S) j = lwA A j := fun j hj hk => el _ (by omega) (by omega)
    unfold GL
    rw [q2 0 (by decide) (by decide), q2 1 (by decide) (by decide), q2 2 (by decide) (by decide), q2 3 (by decide) (by decide), q2 4 (by decide) (by decide), q2 5 (by decide) (by decide), q2 6 (by decide) (by decide), q2 7 (by decide) (by decide)]
    exact g5
  · have hc := g6 w w0 w1
    rw [el _ (by omega) (by omega)]
    refine ⟨hc.1, fun i i0 i1 => ?_⟩
    rw [el _ (by omega) (by omega), el _ (by omega) (by omega)]
    exact hc.2 i i0 i1
  · rw [e0] at q1
    have st : ∀ j : Int, 0 ≤ j → stA (morA A S) q j = stA (putA A (A 0) S) q j := fun j hj => uA_ne (by omega)
    by_cases e : q = A 0
    · rw [e] at st ⊢
      exact gs.cgS fun j a b => by rw [st j a]; exact st_put a b
    · exact (g7 q q0 (by omega)).cgS fun j a b => by rw [st j a]; exact st_put_ne e a b
/-- the reference's new stocking, in the row at p -/
def zeS (S : Int → Int) (i : Int) : Int → Int := fun j => if 0 ≤ j ∧ j < i then 0 else S j
theorem zeS_up (S : Int → Int) {i : Int} (i0 : 0 ≤ i) : uA (zeS S i) i 0 = zeS S (i + 1) := by
  funext y
  unfold uA zeS
  by_cases e : y = i
  · rw [if_pos e, if_pos (by omega)]
  · rw [if_neg e]
    by_cases e2 : 0 ≤ y ∧ y < i
    · rw [if_pos e2, if_pos (by omega)]
    · rw [if_neg e2, if_neg (by omega)]
theorem m_comes_L {p : Nat} (hp : Ar M p 158) {kd a sh la : Int} (k0 : 0 ≤ A 0) (k8 : A 0 < 8) {S : Int → Int} : ∀ (d N : Nat) (i : Int), d < N → 0 ≤ i → i + d = 13 → fX12_comes_L14 p (i2 kd) (i2 a) (i2 sh) (i2 la) (i2 (54 + 13 * A 0)) N (i2 i) (M.row p (putA A (A 0) (zeS S i))) = some (i2 (A 0), M.row p (morA A (newS kd a sh la))) := by
  intro d
  induction d with
  | zero =>
    intro N i hN i0 hi
    obtain ⟨N, rfl⟩ : ∃ k, N = k + 1 := ⟨N - 1, by omega⟩
    have e : i = 13 := by omega
    subst e
    have lo : ∀ S : Int → Int, putA A (A 0) S 0 = A 0 := fun S => put_lo k0 (by decide)
    have fin : putA A (A 0) (uA (uA (uA (uA (uA (uA (zeS S 13) 0 kd) 1 a) 2 sh) 3 la) 6 (-1)) 7 (-1)) = putA A (A 0) (newS kd a sh la) := put_cg fun j a b => by
      have q : j = 0 ∨ j = 1 ∨ j = 2 ∨ j = 3 ∨ j = 4 ∨ j = 5 ∨ j = 6 ∨ j = 7 ∨ j = 8 ∨ j = 9 ∨ j = 10 ∨ j = 11 ∨ j = 12 := by omega
      rcases q with rfl | rfl | rfl | rfl | rfl | rfl | rfl | rfl | rfl | rfl | rfl | rfl | rfl <;> rfl
    have pu : ∀ (w v : Int) (S : Int → Int), 0 ≤ w → w < 13 → uA (putA A (A 0) S) (54 + 13 * A 0 + w) v = putA A (A 0) (uA S w v) := fun w v S a b => put_uA a b
    have wr : ∀ (w v : Int) (S : Int → Int), 0 ≤ w → w < 13 → asI (M.row p (putA A (A 0) S)) p (i2 (54 + 13 * A 0 + w)) (i2 v) = some (M.row p (putA A (A 0) (uA S w v))) := fun w v S a b => by
      rw [asI_row hp (by omega) (by omega) (by omega), pu w v S a b]
    have w0 := fun v S => wr 0 v S (by decide) (by decide)
    simp -dsimp (disch := omega) only [fX12_comes_L14, ↓B1_bp, BP_some, L_13, L_0, L_1, L_2, L_3, L_6, L_7, i2_le, i2_add, i2_neg, i2_sub, Int.reduceLE, ↓reduceIte, wr, fin, alI_row hp, asI_row hp, lo, uA_self]
    rw [show A 0 + 1 - 1 = A 0 by omega]
    rfl
  | succ d ih =>
    intro N i hN i0 hi
    obtain ⟨N, rfl⟩ : ∃ k, N = k + 1 := ⟨N - 1, by omega⟩
    have k := ih N (i + 1) (by omega) (by omega) (by omega)
    have u : ∀ (K : Nat) (v : Int32) (M : Mm), ¬ 13 ≤ v → fX12_comes_L14 p (i2 kd) (i2 a) (i2 sh) (i2 la) (i2 (54 + 13 * A 0)) (K + 1) v M = B1 (asI M p (i2 (54 + 13 * A 0) + v) 0) fun M' => fX12_comes_L14 p (i2 kd) (i2 a) (i2 sh) (i2 la) (i2 (54 + 13 * A 0)) K (v + 1) M' := fun K v M h => if_neg h
    rw [u _ _ _ (by rw [L_13, i2_le (by decide) (by decide) (by omega) (by omega)]; omega), L_0, i2_add, asI_row hp (by omega) (by omega) (by omega), B1_some, put_uA i0 (by omega), zeS_up S i0, L_1, i2_add]
    exact k
theorem m_comes {p : Nat} (hp : Ar M p 158) {kd a sh la : Int} (k0 : 0 ≤ A 0) (k8 : A 0 < 8) : fX12_comes (M.row p A) p (i2 kd) (i2 a) (i2 sh) (i2 la) = some (i2 (A 0), M.row p (morA A (newS kd a sh la))) := by
  have k := m_comes_L (S := stA A (A 0)) (kd := kd) (a := a) (sh := sh) (la := la) hp k0 k8 13 FL 0 (by decide) (by decide) (by decide)
  have z : zeS (stA A (A 0)) 0 = stA A (A 0) := by
    funext y
    unfold zeS
    rw [if_neg (by omega)]
  rw [z, put_st] at k
  unfold fX12_comes
  rw [show (0 : Int32) = i2 0 from L_0, alI_row hp (by decide) (by decide) (by decide), B1_some, L_13, L_54, i2_mul, i2_add]
  exact k
/-- the reference's new leg, in the row at p -/
theorem m_goes {p : Nat} (hp : Ar M p 158) {w a b : Int} (w0 : 0 ≤ w) (w2 : w < 2) (n0 : 0 ≤ A (12 + w)) (n : A (12 + w) < 10) : fX12_goes (M.row p A) p (i2 w) (i2 a) (i2 b) = some (M.row p (legA A w a b)) := by
  have r1 : uA A (14 + 20 * w + 2 * A (12 + w)) a (12 + w) = A (12 + w) := uA_ne (by omega)
  have r2 : uA (uA A (14 + 20 * w + 2 * A (12 + w)) a) (14 + 20 * w + 2 * A (12 + w) + 1) b (12 + w) = A (12 + w) := by rw [uA_ne (by omega), r1]
  unfold fX12_goes
  simp -dsimp (disch := omega) only [↓B1_bp, BP_some, L_12, L_14, L_20, L_2, L_1, i2_add, i2_mul, alI_row hp, asI_row hp, r1, r2]
  rfl
theorem c_addStocking {B : Nat} (h : LayD M B) (c : CR M B A) (g : GA A) (n : A 0 < 8) {kd a sh la : Int} (h0 : 0 ≤ kd ∧ kd ≤ 5) (h1 : 0 ≤ a ∧ a ≤ 9) (h2 : 0 ≤ sh ∧ sh ≤ 3) (h3 : 1 ≤ la ∧ la ≤ 30) : ∃ M1, fX0_addStocking M B (i2 kd) (i2 a) (i2 sh) (i2 la) = some (i2 1, M1) ∧ CR M1 B (morA A (newS kd a sh la)) ∧ Same M M1 B (B + 35) := by
  have g0 := g.1
  have hl := d_lay h (k := (A 0).toNat) (by omega)
  obtain ⟨C', b1, b2, -⟩ := c_begin (C := gI M (B + 11 + 3 * (A 0).toNat)) (R := gI M (B + 11 + 3 * (A 0).toNat + 1)) (W := gI M (B + 11 + 3 * (A 0).toNat + 2)) hl (kd := kd) (a := a) (sh := sh) (la := la)
  rw [st_self] at b1
  have gk1 := d_gk10 h (k := (A 0).toNat) (by omega)
  have s1 := Same.st M (B + 11 + 3 * (A 0).toNat) C' (gI M (B + 11 + 3 * (A 0).toNat + 1)) (gI M (B + 11 + 3 * (A 0).toNat + 2))
  have hh := h.same s1
  have c2 := c.more (C := C') (R := gI M (B + 11 + 3 * (A 0).toNat + 1)) (W := gI M (B + 11 + 3 * (A 0).toNat + 2)) g n b2 (GS.new h0 h1 h2 h3)
  have eB : gI (stM M (B + 11 + 3 * (A 0).toNat) C' (gI M (B + 11 + 3 * (A 0).toNat + 1)) (gI M (B + 11 + 3 * (A 0).toNat + 2))) B = gI M B := gI_of (s1.2 B (by omega))
  have rd : rdI (stM M (B + 11 + 3 * (A 0).toNat) C' (gI M (B + 11 + 3 * (A 0).toNat + 1)) (gI M (B + 11 + 3 * (A 0).toNat + 2))) B 3 2 = some (i2 (A 0)) := by
    rw [g_rdI hh.1.1, eB, ← c.2.1.1]
    rfl
  have wr := g_wrI (M := stM M (B + 11 + 3 * (A 0).toNat) C' (gI M (B + 11 + 3 * (A 0).toNat + 1)) (gI M (B + 11 + 3 * (A 0).toNat + 2))) (p := B) (kd := 3) (j := 2) (v := A 0 + 1) hh.1.1 (by decide)
  rw [eB] at wr
  have s2 : Same M _ B (B + 35) := (s1.wide (by omega) (by omega)).tr ((Same.row _ B (uA (gI M B) 2 (A 0 + 1))).wide (by omega) (by omega))
  have cnt := d_cnt h c
  refine ⟨_, ?_, c2, s2⟩
  generalize stM M (B + 11 + 3 * (A 0).toNat) C' (gI M (B + 11 + 3 * (A 0).toNat + 1)) (gI M (B + 11 + 3 * (A 0).toNat + 2)) = X at b1 rd wr
  clear c2 s2 c
  unfold fX0_addStocking
  rw [show ((2 : Nat) : Int) = 2 from rfl] at wr
  simp -dsimp (disch := omega) only [↓B1_bp, ↓B2_bp, BP_some, BQ_some, ↓reduceIte, L_0, L_1, L_2, L_3, L_4, L_5, L_6, L_7, L_8, L_9, L_10, L_11, L_12, L_13, L_54, L_14, L_99, L_20, L_30, L_31, L_60, L_19, i2_add, i2_sub, i2_mul, i2_neg, Int.reduceAdd, Int.reduceSub, Int.reduceMul, Int.reduceNeg, Int.reduceLT, Int.reduceLE, Int.reduceEq, i2_le, i2_lt, i2_eq, uA_self, uA_ne, tf_0, not_true_eq_false, not_false_eq_true, cnt, n, if_true, d_sts h, d_st h, gk1, b1, rd, wr]
theorem c_addLeg {B w : Nat} (h : LayD M B) (c : CR M B A) (g : GA A) (w2 : w < 2) (n : A (12 + w) < 10) {a b : Int} (a0 : 0 ≤ a) (a1 : a ≤ 3) (b0 : 0 ≤ b) (b1 : b ≤ 60) : ∃ M1, fX10_addLeg M (B + 5 + 3 * w) (i2 a) (i2 b) = some (i2 1, M1) ∧ CR M1 B (legA A w a b) ∧ Same M M1 B (B + 11) := by
  have hc := (g.2.2.2.2.2.2.1 w (by omega) (by omega)).1
  obtain ⟨l1, l2, l3, l4, l5, l6, l7⟩ := (h.2.2.2.2.2.1 w w2).2
  have c2 := c.leg (a := a) (b := b) g w2 n a0 a1 b0 b1
  have rd : ∀ X Y, rdI ((M.row (B + 5 + 3 * w + 1) X).row (B + 5 + 3 * w + 2) Y) (B + 5 + 3 * w) 13 0 = some (i2 (A (12 + w))) := fun X Y => by
    rw [rdI_row (by omega), rdI_row (by omega), g_rdI l1, ← (c.2.2.2.1 w w2).1]
    rfl
  have rd0 : ∀ X, rdI (M.row (B + 5 + 3 * w + 1) X) (B + 5 + 3 * w) 13 0 = some (i2 (A (12 + w))) := fun X => by
    rw [rdI_row (by omega), g_rdI l1, ← (c.2.2.2.1 w w2).1]
    rfl
  have rd1 : rdI M (B + 5 + 3 * w) 13 0 = some (i2 (A (12 + w))) := by
    rw [g_rdI l1, ← (c.2.2.2.1 w w2).1]
    rfl
  have rN1 : rdN M (B + 5 + 3 * w) 13 1 = some (B + 5 + 3 * w + 1) := by unfold rdN; rw [if_pos l1]; exact l2
  have rN2 : rdN M (B + 5 + 3 * w) 13 2 = some (B + 5 + 3 * w + 2) := by unfold rdN; rw [if_pos l1]; exact l3
  have as1 : asI M (B + 5 + 3 * w + 1) (i2 (A (12 + w))) (i2 a) = some (M.row (B + 5 + 3 * w + 1) (uA (gI M (B + 5 + 3 * w + 1)) (A (12 + w)) a)) := by
    have e := asI_row (A := gI M (B + 5 + 3 * w + 1)) (p := B + 5 + 3 * w + 1) (M := M) (N := 10) (x := A (12 + w)) (v := a) ⟨l4, l5⟩ hc.1 (by omega) (by omega)
    rwa [row_gI] at e
  have as2 : ∀ X, asI (M.row (B + 5 + 3 * w + 1) X) (B + 5 + 3 * w + 2) (i2 (A (12 + w))) (i2 b) = some ((M.row (B + 5 + 3 * w + 1) X).row (B + 5 + 3 * w + 2) (uA (gI M (B + 5 + 3 * w + 2)) (A (12 + w)) b)) := fun X => by
    have e := asI_row (A := gI (M.row (B + 5 + 3 * w + 1) X) (B + 5 + 3 * w + 2)) (p := B + 5 + 3 * w + 2) (M := M.row (B + 5 + 3 * w + 1) X) (N := 10) (x := A (12 + w)) (v := b) ⟨l6, l7⟩ hc.1 (by omega) (by omega)
    rw [row_gI, gI_ne _ (by omega)] at e
    exact e
  have wr : ∀ X Y, wrI ((M.row (B + 5 + 3 * w + 1) X).row (B + 5 + 3 * w + 2) Y) (B + 5 + 3 * w) 13 0 (i2 (A (12 + w) + 1)) = some (((M.row (B + 5 + 3 * w + 1) X).row (B + 5 + 3 * w + 2) Y).row (B + 5 + 3 * w) (uA (gI M (B + 5 + 3 * w)) 0 (A (12 + w) + 1))) := fun X Y => by
    have e := g_wrI (M := (M.row (B + 5 + 3 * w + 1) X).row (B + 5 + 3 * w + 2) Y) (p := B + 5 + 3 * w) (kd := 13) (j := 0) (v := A (12 + w) + 1) l1 (by decide)
    rw [gI_ne _ (by omega), gI_ne _ (by omega)] at e
    exact e
  refine ⟨_, ?_, c2, ((((Same.row _ _ _).wide (by omega) (by omega)).tr ((Same.row _ _ _).wide (by omega) (by omega))).tr ((Same.row _ _ _).wide (by omega) (by omega)))⟩
  clear c2 c
  unfold fX10_addLeg
  simp -dsimp (disch := omega) only [↓B1_bp, ↓B2_bp, BP_some, BQ_some, ↓reduceIte, L_0, L_1, L_2, L_3, L_4, L_5, L_6, L_7, L_8, L_9, L_10, L_11, L_12, L_13, L_54, L_14, L_99, L_20, L_30, L_31, L_60, L_19, i2_add, i2_sub, i2_mul, i2_neg, Int.reduceAdd, Int.reduceSub, Int.reduceMul, Int.reduceNeg, Int.reduceLT, Int.reduceLE, Int.reduceEq, i2_le, i2_lt, i2_eq, uA_self, uA_ne, tf_0, not_true_eq_false, not_false_eq_true, rd1, n, if_true, rdN_row, rN1, rN2, as1, as2, rd0, rd, wr]
end MORE
