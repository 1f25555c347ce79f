section DAY
variable {M : Mm} {A : Int → Int}
theorem mv_lo {L S : Int → Int} {mv j : Int} (h : j < 6) : mvS L mv S j = S j := by
  have l : lwS S j = S j := lwS_at S (by omega) (by omega) (by omega)
  unfold mvS
  split
  · unfold dryS
    rw [if_neg (by omega)]
  · split
    · unfold ladS
      rw [uA_ne (by omega), uA_ne (by omega), l]
    · exact l
theorem it_lo {L S : Int → Int} {mv j : Int} (h : j < 6) : ∀ n : Nat, it (mvS L mv) n S j = S j := by
  intro n
  induction n generalizing S with
  | zero => rfl
  | succ n ih => exact (ih (S := mvS L mv S)).trans (mv_lo h)
theorem way_lo {L wt nt : Int → Int} {j : Int} (h : j < 6) : ∀ (d : Nat) (i : Int) (S : Int → Int), wayS L wt nt i d S j = S j
  | 0, _, _ => rfl
  | d + 1, i, S => (way_lo h d (i + 1) _).trans (it_lo h _)
/-! the least one that has a mate -/
def leF (A : Int → Int) : Nat → Int → Int
  | 0, _ => -1
  | d + 1, i => if mateA A i < 0 then leF A d (i + 1) else i
def leA (A : Int → Int) : Int := leF A (A 0).toNat 0
theorem mateF_b (A : Int → Int) (k : Int) : ∀ (d : Nat) (i : Int), 0 ≤ i → mateF A k d i = -1 ∨ (i ≤ mateF A k d i ∧ mateF A k d i < i + d ∧ prI A k (mateF A k d i) = 1)
  | 0, _, _ => Or.inl rfl
  | d + 1, i, h => by
    show (if prI A k i = 1 then i else mateF A k d (i + 1)) = -1 ∨ _
    by_cases q : prI A k i = 1
    · refine Or.inr ?_
      show i ≤ (if prI A k i = 1 then i else mateF A k d (i + 1)) ∧ (if prI A k i = 1 then i else mateF A k d (i + 1)) < _ ∧ prI A k (if prI A k i = 1 then i else mateF A k d (i + 1)) = 1
      rw [if_pos q]
      exact ⟨Int.le_refl _, by omega, q⟩
    · rw [if_neg q]
      rcases mateF_b A k d (i + 1) (by omega) with z | z
      · exact Or.inl z
      · refine Or.inr ?_
        show i ≤ (if prI A k i = 1 then i else mateF A k d (i + 1)) ∧ (if prI A k i = 1 then i else mateF A k d (i + 1)) < _ ∧ prI A k (if prI A k i = 1 then i else mateF A k d (i + 1)) = 1
        rw [if_neg q]
        exact ⟨by omega, by omega, z.2.2⟩
theorem mateA_b (g : GA A) (k : Int) : mateA A k = -1 ∨ (0 ≤ mateA A k ∧ mateA A k < A 0 ∧ prI A k (mateA A k) = 1) := by
  have g0 := g.1
  rcases mateF_b A k (A 0).toNat 0 (Int.le_refl _) with z | z
  · exact Or.inl z
  · exact Or.inr ⟨z.1, by have := z.2.1; unfold mateA; omega, z.2.2⟩
theorem pr_facts {k o : Int} (h : prI A k o = 1) : k ≠ o ∧ stA A k 4 < stA A k 3 ∧ stA A o 4 < stA A o 3 := by
  unfold prI at h
  split at h
  · rename_i q
    obtain ⟨q1, q2, q3, -⟩ := q
    unfold goI at q2 q3
    split at q2
    · rename_i a
      split at q3
      · rename_i b
        exact ⟨q1, a.1, b.1⟩
      · exact absurd q3 (by decide)
    · exact absurd q2 (by decide)
  · exact absurd h (by decide)
theorem leF_b (g : GA A) : ∀ (d : Nat) (i : Int), 0 ≤ i → i + d = A 0 → leF A d i = -1 ∨ (i ≤ leF A d i ∧ leF A d i < A 0 ∧ 0 ≤ mateA A (leF A d i))
  | 0, _, _, _ => Or.inl rfl
  | d + 1, i, h, e => by
    by_cases q : mateA A i < 0
    · have z : leF A (d + 1) i = leF A d (i + 1) := if_pos q
      rw [z]
      rcases leF_b g d (i + 1) (by omega) (by omega) with y | y
      · exact Or.inl y
      · exact Or.inr ⟨by omega, y.2⟩
    · have z : leF A (d + 1) i = i := if_neg q
      rw [z]
      exact Or.inr ⟨Int.le_refl _, by omega, by omega⟩
theorem leA_b (g : GA A) : leA A = -1 ∨ (0 ≤ leA A ∧ leA A < A 0 ∧ 0 ≤ mateA A (leA A)) := leF_b g (A 0).toNat 0 (Int.le_refl _) (by have := g.1; omega)
theorem c_leastPaired {B : Nat} (h : LayD M B) (c : CR M B A) (g : GA A) : fX0_leastPaired M B = some (i2 (leA A)) := by
  have g0 := g.1
  have k : ∀ (d N : Nat) (i : Int), d < N → 0 ≤ i → i + d = A 0 → fX0_leastPaired_L2 M B N (i2 i) = some (i2 (leF A d i)) := by
    intro d
    induction d with
    | zero =>
      intro N i hN i0 hi
      obtain ⟨N, rfl⟩ : ∃ k, N = k + 1 := ⟨N - 1, by omega⟩
      have q : A 0 ≤ i := by omega
      simp -dsimp (disch := omega) only [fX0_leastPaired_L2, ↓B1_bp, ↓B2_bp, BP_some, BQ_some, ↓reduceIte, L_0, L_1, L_2, L_3, L_4, L_5, L_6, L_7, L_8, L_9, L_10, L_11, L_12, L_13, L_54, L_14, L_99, L_20, L_30, L_31, L_60, L_19, i2_add, i2_sub, i2_mul, i2_neg, Int.reduceAdd, Int.reduceSub, Int.reduceMul, Int.reduceNeg, Int.reduceLT, Int.reduceLE, Int.reduceEq, i2_le, i2_lt, i2_eq, uA_self, uA_ne, tf_0, not_true_eq_false, not_false_eq_true, d_cnt h c, q, if_true]
      rfl
    | succ d ih =>
      intro N i hN i0 hi
      obtain ⟨N, rfl⟩ : ∃ k, N = k + 1 := ⟨N - 1, by omega⟩
      have q : ¬ A 0 ≤ i := by omega
      have m := c_mateOf h c g i0 (show i < A 0 by omega)
      have mb := mateA_b g i
      have j := ih N (i + 1) (by omega) (by omega) (by omega)
      show _ = some (i2 (if mateA A i < 0 then leF A d (i + 1) else i))
      by_cases z : mateA A i < 0
      · rw [if_pos z, ← j]
        simp -dsimp (disch := omega) only [fX0_leastPaired_L2, ↓B1_bp, ↓B2_bp, BP_some, BQ_some, ↓reduceIte, L_0, L_1, L_2, L_3, L_4, L_5, L_6, L_7, L_8, L_9, L_10, L_11, L_12, L_13, L_54, L_14, L_99, L_20, L_30, L_31, L_60, L_19, i2_add, i2_sub, i2_mul, i2_neg, Int.reduceAdd, Int.reduceSub, Int.reduceMul, Int.reduceNeg, Int.reduceLT, Int.reduceLE, Int.reduceEq, i2_le, i2_lt, i2_eq, uA_self, uA_ne, tf_0, not_true_eq_false, not_false_eq_true, d_cnt h c, q, if_false, d_gk h, m, z, if_true]
      · rw [if_neg z]
        simp -dsimp (disch := omega) only [fX0_leastPaired_L2, ↓B1_bp, ↓B2_bp, BP_some, BQ_some, ↓reduceIte, L_0, L_1, L_2, L_3, L_4, L_5, L_6, L_7, L_8, L_9, L_10, L_11, L_12, L_13, L_54, L_14, L_99, L_20, L_30, L_31, L_60, L_19, i2_add, i2_sub, i2_mul, i2_neg, Int.reduceAdd, Int.reduceSub, Int.reduceMul, Int.reduceNeg, Int.reduceLT, Int.reduceLE, Int.reduceEq, i2_le, i2_lt, i2_eq, uA_self, uA_ne, tf_0, not_true_eq_false, not_false_eq_true, d_cnt h c, q, if_false, d_gk h, m, z]
  exact k (A 0).toNat FL 0 (by show _ < 4096; omega) (Int.le_refl _) (by omega)
theorem c_mateN {B : Nat} (h : LayD M B) (c : CR M B A) (g : GA A) : fX0_mateOf M B (i2 (-1)) = some (i2 (-1)) := by
  have g0 := g.1
  have sa := c_stockingAt h c g (x := -1) (by decide) (by decide)
  rw [show stAt A B (-1) = none from if_neg (fun z => absurd z.1 (by decide))] at sa
  have ng : fX0_isGood M B (i2 (-1)) = some (i2 0) := by
    unfold fX0_isGood
    simp -dsimp (disch := omega) only [↓B1_bp, ↓B2_bp, BP_some, BQ_some, ↓reduceIte, L_0, L_1, L_2, L_3, L_4, L_5, L_6, L_7, L_8, L_9, L_10, L_11, L_12, L_13, L_54, L_14, L_99, L_20, L_30, L_31, L_60, L_19, i2_add, i2_sub, i2_mul, i2_neg, Int.reduceAdd, Int.reduceSub, Int.reduceMul, Int.reduceNeg, Int.reduceLT, Int.reduceLE, Int.reduceEq, i2_le, i2_lt, i2_eq, uA_self, uA_ne, tf_0, not_true_eq_false, not_false_eq_true, ↓NL_bp, BNP_none, BNP_some, d_gk h, sa]
  have k : ∀ (d N : Nat) (i : Int), d < N → 0 ≤ i → i + d = A 0 → fX0_mateOf_L2 M B (i2 (-1)) N (i2 i) = some (i2 (-1)) := by
    intro d
    induction d with
    | zero =>
      intro N i hN i0 hi
      obtain ⟨N, rfl⟩ : ∃ k, N = k + 1 := ⟨N - 1, by omega⟩
      have q : A 0 ≤ i := by omega
      simp -dsimp (disch := omega) only [fX0_mateOf_L2, ↓B1_bp, ↓B2_bp, BP_some, BQ_some, ↓reduceIte, L_0, L_1, L_2, L_3, L_4, L_5, L_6, L_7, L_8, L_9, L_10, L_11, L_12, L_13, L_54, L_14, L_99, L_20, L_30, L_31, L_60, L_19, i2_add, i2_sub, i2_mul, i2_neg, Int.reduceAdd, Int.reduceSub, Int.reduceMul, Int.reduceNeg, Int.reduceLT, Int.reduceLE, Int.reduceEq, i2_le, i2_lt, i2_eq, uA_self, uA_ne, tf_0, not_true_eq_false, not_false_eq_true, d_cnt h c, q, if_true]
    | succ d ih =>
      intro N i hN i0 hi
      obtain ⟨N, rfl⟩ : ∃ k, N = k + 1 := ⟨N - 1, by omega⟩
      have q : ¬ A 0 ≤ i := by omega
      have ne : ¬ (-1 : Int) = i := by omega
      have ip : fX0_isPair M B (i2 (-1)) (i2 i) = some (i2 0) := by
        unfold fX0_isPair
        simp -dsimp (disch := omega) only [↓B1_bp, ↓B2_bp, BP_some, BQ_some, ↓reduceIte, L_0, L_1, L_2, L_3, L_4, L_5, L_6, L_7, L_8, L_9, L_10, L_11, L_12, L_13, L_54, L_14, L_99, L_20, L_30, L_31, L_60, L_19, i2_add, i2_sub, i2_mul, i2_neg, Int.reduceAdd, Int.reduceSub, Int.reduceMul, Int.reduceNeg, Int.reduceLT, Int.reduceLE, Int.reduceEq, i2_le, i2_lt, i2_eq, uA_self, uA_ne, tf_0, not_true_eq_false, not_false_eq_true, ne, if_false, d_gk h, ng]
      have j := ih N (i + 1) (by omega) (by omega) (by omega)
      rw [← j]
      simp -dsimp (disch := omega) only [fX0_mateOf_L2, ↓B1_bp, ↓B2_bp, BP_some, BQ_some, ↓reduceIte, L_0, L_1, L_2, L_3, L_4, L_5, L_6, L_7, L_8, L_9, L_10, L_11, L_12, L_13, L_54, L_14, L_99, L_20, L_30, L_31, L_60, L_19, i2_add, i2_sub, i2_mul, i2_neg, Int.reduceAdd, Int.reduceSub, Int.reduceMul, Int.reduceNeg, Int.reduceLT, Int.reduceLE, Int.reduceEq, i2_le, i2_lt, i2_eq, uA_self, uA_ne, tf_0, not_true_eq_false, not_false_eq_true, d_cnt h c, q, if_false, d_gk h, ip]
  exact k (A 0).toNat FL 0 (by show _ < 4096; omega) (Int.le_refl _) (by omega)
/-! the steps of a day -/
def zN (z : Int) : Int := (i2 (z * 1103515245 + 12345)).toInt
theorem zN_b (z : Int) : -2147483648 ≤ zN z ∧ zN z < 2147483648 := i2_range _
def dwI (z : Int) : Int32 := ushI (i2 (zN z)) 16
def e2A (A : Int → Int) (l r : Int) : Int → Int := uA (uA A 2 l) 3 r
def e3A (A : Int → Int) : Int → Int := uA A 1 (zN (A 1))
def e4A (A : Int → Int) (l r : Int) : Int → Int := putA A l (if ¬ 0 ≤ stA A l 6 ∧ dabC (stA A l) r < 0 then snagS r (stA A l) else stA A l)
def e5A (A : Int → Int) : Int → Int := pwA A (wayS (lwA A) (wtA A 0) (ntA A 0) 0 (A (12 + 0) - 0).toNat)
def e6A (A : Int → Int) (k : Int) : Int → Int := putA A k (uA (stA A k) 4 (stA A k 4 + 1))
theorem e2A_ga (g : GA A) {l r : Int} (l0 : -1 ≤ l) (l1 : l < A 0) (r0 : -1 ≤ r) (r1 : r < A 0) (ne : l = r → l = -1) : GA (e2A A l r) := by
  have a1 := g.foot (x := 0) (v := -1) (by decide) (by decide) (by decide) (by have := g.1; omega) (Or.inl rfl)
  have a2 := a1.foot (x := 1) (v := -1) (by decide) (by decide) (by decide) (by show -1 < A 0; have := g.1; omega) (Or.inl rfl)
  have a3 := a2.foot (x := 0) (v := l) (by decide) (by decide) l0 l1 (by
    by_cases z : l = -1
    · exact Or.inl z
    · exact Or.inr (fun w => z (show (-1 : Int) = l from w).symm))
  have a4 := a3.foot (x := 1) (v := r) (by decide) (by decide) r0 r1 (by
    by_cases z : r = -1
    · exact Or.inl z
    · exact Or.inr (fun w => z (by
        have w2 : l = r := w
        rw [← w2]
        exact ne w2)))
  have e : uA (uA (uA (uA A (2 + 0) (-1)) (2 + 1) (-1)) (2 + 0) l) (2 + 1) r = e2A A l r := by
    funext y
    show (if y = 3 then r else if y = 2 then l else if y = 3 then -1 else if y = 2 then -1 else A y) = (if y = 3 then r else if y = 2 then l else A y)
    repeat' split
    all_goals first | rfl | omega
  rw [e] at a4
  exact a4
theorem c_feet2 {B : Nat} (h : LayD M B) (c : CR M B A) {l r : Int} (l0 : -1 ≤ l) (l1 : l < 8) (r0 : -1 ≤ r) (r1 : r < 8) : ∃ M1 M2, asI M (B + 3) (i2 0) (i2 l) = some M1 ∧ asI M1 (B + 3) (i2 1) (i2 r) = some M2 ∧ Same M M1 B (B + 35) ∧ CR M2 B (e2A A l r) ∧ Same M M2 B (B + 35) := by
  have s1 := Same.row M (B + 3) (uA (gI M (B + 3)) 0 l)
  have c1 := c.foot (x := 0) (v := l) (by decide) (by decide) (by omega) (by omega)
  have h1 := h.same s1
  have c2 := c1.foot (x := 1) (v := r) (by decide) (by decide) (by omega) (by omega)
  have s2 := Same.row (M.row (B + 3) (uA (gI M (B + 3)) 0 l)) (B + 3) (uA (gI (M.row (B + 3) (uA (gI M (B + 3)) 0 l)) (B + 3)) 1 r)
  exact ⟨_, _, g_asI (N := 2) h.2.2.2.1 (by decide) (by decide) (by decide), g_asI (N := 2) h1.2.2.2.1 (by decide) (by decide) (by decide), s1.wide (by omega) (by omega), c2, (s1.wide (by omega) (by omega)).tr (s2.wide (by omega) (by omega))⟩
theorem e3A_ga (g : GA A) : GA (e3A A) := g.seed (zN_b _).1 (zN_b _).2
theorem i2_zN (z : Int) : i2 z * 1103515245 + 12345 = i2 (zN z) := by
  unfold zN
  rw [i2_self, show (1103515245 : Int32) = i2 1103515245 by decide +kernel, show (12345 : Int32) = i2 12345 by decide +kernel, i2_mul, i2_add]
theorem c_draw {B : Nat} (h : LayD M B) (c : CR M B A) (g : GA A) : ∃ M1, fX0_draw M B = some (dwI (A 1), M1) ∧ CR M1 B (e3A A) ∧ Same M M1 B (B + 35) := by
  have zb := zN_b (A 1)
  have s1 := Same.row M B (uA (gI M B) 5 (zN (A 1)))
  have c1 := c.seed (v := zN (A 1)) g zb.1 zb.2
  have h1 := h.same s1
  have wr := g_wrI (M := M) (p := B) (kd := 3) (j := 5) (v := zN (A 1)) h.1.1 (by decide)
  rw [show ((5 : Nat) : Int) = 5 from rfl] at wr
  have rd : rdI (M.row B (uA (gI M B) 5 (zN (A 1)))) B 3 5 = some (i2 (zN (A 1))) := d_z h1 c1
  refine ⟨_, ?_, c1, s1.wide (by omega) (by omega)⟩
  unfold fX0_draw
  rw [d_z h c, B1_some, i2_zN, wr, B1_some, rd, B1_some]
  rfl
theorem m_draw (h : LayM M) : fX12_draw (M.row 165 A) 164 = some (dwI (A 1), M.row 165 (e3A A)) := by
  have e : e3A A 1 = zN (A 1) := uA_self _ _ _
  have as1 : asI (M.row 165 A) 165 (i2 1) (i2 (zN (A 1))) = some (M.row 165 (e3A A)) := asI_row (ar_s h) (by decide) (by decide) (by decide)
  unfold fX12_draw
  rw [rdN_row, rdm0 h, B1_some, B1_some, L_1, m_al h (by decide) (by decide), B1_some, i2_zN, as1, B1_some, rdN_row, rdm0 h, B1_some, m_al h (by decide) (by decide), B1_some, e]
  rfl
theorem e4A_gs (g : GA A) {l r : Int} (l0 : 0 ≤ l) (l1 : l < A 0) (r0 : 0 ≤ r) (r9 : r ≤ 99) : GS (if ¬ 0 ≤ stA A l 6 ∧ dabC (stA A l) r < 0 then snagS r (stA A l) else stA A l) := by
  have gs := g.2.2.2.2.2.2.2 l l0 l1
  split
  · exact gs.snag r0 r9
  · exact gs
theorem c_e4 {B : Nat} (h : LayD M B) (c : CR M B A) (g : GA A) {l r : Int} (l0 : 0 ≤ l) (l1 : l < A 0) (r0 : 0 ≤ r) (r9 : r ≤ 99) : ∃ v M1, fX7_beginLadder M (B + 11 + 3 * l.toNat) (i2 r) = some (v, M1) ∧ CR M1 B (e4A A l r) ∧ Same M M1 B (B + 35) := by
  have g0 := g.1
  have hx : ((l.toNat : Nat) : Int) = l := by omega
  have gs := g.2.2.2.2.2.2.2 l l0 l1
  have sr := c.2.2.2.2 l.toNat (by omega)
  rw [hx] at sr
  obtain ⟨C', p, q⟩ := c_beginLadder (C := gI M (B + 11 + 3 * l.toNat)) (R := gI M (B + 11 + 3 * l.toNat + 1)) (W := gI M (B + 11 + 3 * l.toNat + 2)) (d_lay h (k := l.toNat) (by omega)) sr gs r0 r9
  rw [st_self] at p
  have c1 := c.put g (k := l.toNat) (by omega) q (e4A_gs g l0 l1 r0 r9)
  rw [hx] at c1
  exact ⟨_, _, p, c1, (Same.st M _ _ _ _).wide (by omega) (by omega)⟩
theorem m_may (h : LayM M) (g : GA A) {l r : Int} (l0 : 0 ≤ l) (l1 : l < A 0) (r0 : 0 ≤ r) (r9 : r ≤ 99) : fX12_maySnag (M.row 165 A) 164 (i2 l) (i2 r) = some (i2 (tf (¬ 0 ≤ stA A l 6 ∧ dabC (stA A l) r < 0))) := by
  have a3 := m_hasL (A := A) h g l0 l1
  have a4 := m_dabAt (A := A) h g l0 l1 (x := r) (by omega) (by omega)
  have db := dabC_b (stA A l) r
  have hm := h
  unfold fX12_maySnag
  by_cases p : 0 ≤ stA A l 6
  · rw [tf_t p] at a3
    rw [tf_f (fun z => z.1 p)]
    simp -dsimp (disch := omega) only [↓B1_bp, ↓B2_bp, BP_some, BQ_some, ↓reduceIte, gk_row, rdN_row, alN_row, alN__row, gk_m hm, rdm0 hm, rdm1 hm, rdm2 hm, rdm3 hm, L_0, L_1, L_2, L_3, L_4, L_5, L_6, L_7, L_8, L_9, L_10, L_11, L_12, L_13, L_54, L_14, L_99, L_20, L_30, L_31, L_60, L_19, i2_add, i2_sub, i2_mul, i2_neg, Int.reduceAdd, Int.reduceSub, Int.reduceMul, Int.reduceNeg, Int.reduceLT, Int.reduceLE, Int.reduceEq, i2_le, i2_lt, i2_eq, J_0, J_1, J_2, J_3, J_5, J_7, J_8, J_9, J_10, J_13, J_15, J_30, J_60, J_99, J_100, J_999, J_n1, i2_j2, m_in, tf_0, not_true_eq_false, not_false_eq_true, m_al hm, L_15, L_40, L_100, L_101, L_190, L_200, L_999, uA_self, and_self, if_true, if_false, and_true, true_and, and_false, false_and, a3]
  · rw [tf_f p] at a3
    by_cases q : dabC (stA A l) r < 0
    · have q2 : ¬ 0 ≤ dabC (stA A l) r := by omega
      rw [tf_t ⟨p, q⟩]
      simp -dsimp (disch := omega) only [↓B1_bp, ↓B2_bp, BP_some, BQ_some, ↓reduceIte, gk_row, rdN_row, alN_row, alN__row, gk_m hm, rdm0 hm, rdm1 hm, rdm2 hm, rdm3 hm, L_0, L_1, L_2, L_3, L_4, L_5, L_6, L_7, L_8, L_9, L_10, L_11, L_12, L_13, L_54, L_14, L_99, L_20, L_30, L_31, L_60, L_19, i2_add, i2_sub, i2_mul, i2_neg, Int.reduceAdd, Int.reduceSub, Int.reduceMul, Int.reduceNeg, Int.reduceLT, Int.reduceLE, Int.reduceEq, i2_le, i2_lt, i2_eq, J_0, J_1, J_2, J_3, J_5, J_7, J_8, J_9, J_10, J_13, J_15, J_30, J_60, J_99, J_100, J_999, J_n1, i2_j2, m_in, tf_0, not_true_eq_false, not_false_eq_true, m_al hm, L_15, L_40, L_100, L_101, L_190, L_200, L_999, uA_self, and_self, if_true, if_false, and_true, true_and, and_false, false_and, a3, a4, q2]
    · have q2 : 0 ≤ dabC (stA A l) r := by omega
      rw [tf_f (fun z => q z.2)]
      simp -dsimp (disch := omega) only [↓B1_bp, ↓B2_bp, BP_some, BQ_some, ↓reduceIte, gk_row, rdN_row, alN_row, alN__row, gk_m hm, rdm0 hm, rdm1 hm, rdm2 hm, rdm3 hm, L_0, L_1, L_2, L_3, L_4, L_5, L_6, L_7, L_8, L_9, L_10, L_11, L_12, L_13, L_54, L_14, L_99, L_20, L_30, L_31, L_60, L_19, i2_add, i2_sub, i2_mul, i2_neg, Int.reduceAdd, Int.reduceSub, Int.reduceMul, Int.reduceNeg, Int.reduceLT, Int.reduceLE, Int.reduceEq, i2_le, i2_lt, i2_eq, J_0, J_1, J_2, J_3, J_5, J_7, J_8, J_9, J_10, J_13, J_15, J_30, J_60, J_99, J_100, J_999, J_n1, i2_j2, m_in, tf_0, not_true_eq_false, not_false_eq_true, m_al hm, L_15, L_40, L_100, L_101, L_190, L_200, L_999, uA_self, and_self, if_true, if_false, and_true, true_and, and_false, false_and, a3, a4, q2]
theorem e5A_ga (g : GA A) : GA (e5A A) := g.pw fun S q => q.way g.2.2.2.2.2.1 _ _
theorem e6A_gs (g : GA A) {k : Int} (k0 : 0 ≤ k) (k1 : k < A 0) (w : stA A k 4 < stA A k 3) : GS (uA (stA A k) 4 (stA A k 4 + 1)) := by
  obtain ⟨a0, a1, a2, a3, a4, a⟩ := g.2.2.2.2.2.2.2 k k0 k1
  exact ⟨a0, a1, a2, a3, ⟨(by omega : 0 ≤ stA A k 4 + 1), (by omega : stA A k 4 + 1 ≤ stA A k 3)⟩, a⟩
theorem c_e6 {B : Nat} (h : LayD M B) (c : CR M B A) (g : GA A) {k : Int} (k0 : 0 ≤ k) (k1 : k < A 0) (w : stA A k 4 < stA A k 3) : ∃ M1, wrI M (B + 11 + 3 * k.toNat) 10 4 (i2 (stA A k 4 + 1)) = some M1 ∧ CR M1 B (e6A A k) ∧ Same M M1 (B + 11) (B + 35) := by
  have hk : ((k.toNat : Nat) : Int) = k := by omega
  have sr := c.2.2.2.2 k.toNat (by omega)
  rw [hk] at sr
  obtain ⟨⟨r0, r1, r2, r3, r4, r5⟩, r6, r8, r9⟩ := sr
  have e := c_putI h c g (k := k.toNat) (j := 4) (v := stA A k 4 + 1) (S := uA (stA A k) 4 (stA A k 4 + 1)) (by omega) ⟨⟨r0, r1, r2, r3, rfl, r5⟩, r6, r8, r9⟩ (e6A_gs g k0 k1 w)
  rw [hk] at e
  exact e
end DAY
