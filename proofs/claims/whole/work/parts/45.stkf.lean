/-! what the component does with one stocking -/
theorem c_isWithin (M : Mm) {a b c : Int} (h1 : -2147483648 ≤ a) (h2 : a < 2147483648) (h3 : -2147483648 ≤ b) (h4 : b < 2147483648) (h5 : -2147483648 ≤ c) (h6 : c < 2147483648) : fX11_isWithin M (i2 a) (i2 b) (i2 c) = some (i2 (tf (b ≤ a ∧ a ≤ c))) := by
  unfold fX11_isWithin
  simp only [i2_lt h1 h2 h3 h4, i2_lt h5 h6 h1 h2]
  by_cases q : b ≤ a ∧ a ≤ c
  · rw [tf_t q, if_neg (by omega), if_neg (by omega)]; rfl
  · rw [tf_f q]
    by_cases q1 : a < b
    · rw [if_pos q1]; rfl
    · rw [if_neg q1, if_pos (by omega)]; rfl
theorem cl_b {x : Int} (h : x = -1 ∨ (0 ≤ x ∧ x ≤ 99)) : (x = -1 ∧ cl x = -9) ∨ (0 ≤ x ∧ x ≤ 99 ∧ cl x = x) := by
  unfold cl
  split <;> omega
theorem cl_n (x : Int) (h : 0 ≤ x) : cl x = x := if_neg (by omega)
section STF
variable {M : Mm} {o : Nat} {C R W S L : Int → Int}
theorem c_hasLadder (h : LayS M o) (r : SR C R W S) (g : GS S) : fX7_hasLadder (stM M o C R W) o = some (i2 (tf (0 ≤ S 6))) := by
  obtain ⟨g0, g1, g2, g3, g4, g5, g6, g8, g9, g10, g11, g12, gd⟩ := g
  obtain ⟨⟨r0, r1, r2, r3, r4, r5⟩, ⟨r6, r7⟩, r8, rA, rB⟩ := r
  have hc := cl_b (x := S 6) (by omega)
  unfold fX7_hasLadder
  simp -dsimp (disch := omega) only [↓B1_bp, ↓B2_bp, BP_some, BQ_some, ↓reduceIte, L_0, L_1, L_2, L_3, L_4, L_5, L_6, L_7, L_8, L_9, L_10, L_11, L_12, L_13, L_54, L_14, L_99, L_20, L_30, L_31, L_60, L_19, i2_add, i2_sub, i2_mul, i2_neg, Int.reduceAdd, Int.reduceSub, Int.reduceMul, Int.reduceNeg, Int.reduceLT, Int.reduceLE, Int.reduceEq, i2_le, i2_lt, i2_eq, uA_self, uA_ne, tf_0, not_true_eq_false, not_false_eq_true, gk_st h, st_rd0 h, st_rd1 h, st_rd2 h, st_rd3 h, st_rd4 h, st_rd5 h, st_rd6 h, st_rd7 h, st_rd8 h, st_wr0 h, st_wr1 h, st_wr2 h, st_wr3 h, st_wr4 h, st_wr5 h, st_wr6 h, st_wr7 h, st_wr8 h, st_nR h, st_nW h, st_alR h, st_alW h, st_asR h, st_asW h, r6]
  by_cases q : 0 ≤ S 6
  · rw [tf_t q, if_neg (by omega)]
  · rw [tf_f q, if_pos (by omega)]
def dabC (S : Int → Int) (r : Int) : Int := if 1 ≤ S 8 ∧ S 9 = r then 0 else if 2 ≤ S 8 ∧ S 10 = r then 1 else -1
theorem c_dabAt (h : LayS M o) (r : SR C R W S) (g : GS S) {x : Int} (x0 : -2147483648 ≤ x) (x1 : x < 2147483648) : fX7_dabAt (stM M o C R W) o (i2 x) = some (i2 (dabC S x)) := by
  obtain ⟨n, hn⟩ := FL3
  obtain ⟨g0, g1, g2, g3, g4, g5, g6, g8, g9, g10, g11, g12, gd⟩ := g
  obtain ⟨⟨r0, r1, r2, r3, r4, r5⟩, ⟨r6, r7⟩, r8, rA, rB⟩ := r
  unfold fX7_dabAt
  rw [hn]
  rcases (by omega : S 8 = 0 ∨ S 8 = 1 ∨ S 8 = 2) with e | e | e
  · simp -dsimp (disch := omega) only [fX7_dabAt_L2, ↓B1_bp, ↓B2_bp, BP_some, BQ_some, ↓reduceIte, L_0, L_1, L_2, L_3, L_4, L_5, L_6, L_7, L_8, L_9, L_10, L_11, L_12, L_13, L_54, L_14, L_99, L_20, L_30, L_31, L_60, L_19, i2_add, i2_sub, i2_mul, i2_neg, Int.reduceAdd, Int.reduceSub, Int.reduceMul, Int.reduceNeg, Int.reduceLT, Int.reduceLE, Int.reduceEq, i2_le, i2_lt, i2_eq, uA_self, uA_ne, tf_0, not_true_eq_false, not_false_eq_true, gk_st h, st_rd0 h, st_rd1 h, st_rd2 h, st_rd3 h, st_rd4 h, st_rd5 h, st_rd6 h, st_rd7 h, st_rd8 h, st_wr0 h, st_wr1 h, st_wr2 h, st_wr3 h, st_wr4 h, st_wr5 h, st_wr6 h, st_wr7 h, st_wr8 h, st_nR h, st_nW h, st_alR h, st_alW h, st_asR h, st_asW h, r8, e]
    simp only [dabC, e]
    rfl
  · have q := rA (by omega)
    simp -dsimp (disch := omega) only [fX7_dabAt_L2, ↓B1_bp, ↓B2_bp, BP_some, BQ_some, ↓reduceIte, L_0, L_1, L_2, L_3, L_4, L_5, L_6, L_7, L_8, L_9, L_10, L_11, L_12, L_13, L_54, L_14, L_99, L_20, L_30, L_31, L_60, L_19, i2_add, i2_sub, i2_mul, i2_neg, Int.reduceAdd, Int.reduceSub, Int.reduceMul, Int.reduceNeg, Int.reduceLT, Int.reduceLE, Int.reduceEq, i2_le, i2_lt, i2_eq, uA_self, uA_ne, tf_0, not_true_eq_false, not_false_eq_true, gk_st h, st_rd0 h, st_rd1 h, st_rd2 h, st_rd3 h, st_rd4 h, st_rd5 h, st_rd6 h, st_rd7 h, st_rd8 h, st_wr0 h, st_wr1 h, st_wr2 h, st_wr3 h, st_wr4 h, st_wr5 h, st_wr6 h, st_wr7 h, st_wr8 h, st_nR h, st_nW h, st_alR h, st_alW h, st_asR h, st_asW h, r8, e, q.1]
    simp only [dabC, e]
    (repeat' split) <;> first | rfl | omega
  · have q := rA (by omega)
    have q2 := rB (by omega)
    simp -dsimp (disch := omega) only [fX7_dabAt_L2, ↓B1_bp, ↓B2_bp, BP_some, BQ_some, ↓reduceIte, L_0, L_1, L_2, L_3, L_4, L_5, L_6, L_7, L_8, L_9, L_10, L_11, L_12, L_13, L_54, L_14, L_99, L_20, L_30, L_31, L_60, L_19, i2_add, i2_sub, i2_mul, i2_neg, Int.reduceAdd, Int.reduceSub, Int.reduceMul, Int.reduceNeg, Int.reduceLT, Int.reduceLE, Int.reduceEq, i2_le, i2_lt, i2_eq, uA_self, uA_ne, tf_0, not_true_eq_false, not_false_eq_true, gk_st h, st_rd0 h, st_rd1 h, st_rd2 h, st_rd3 h, st_rd4 h, st_rd5 h, st_rd6 h, st_rd7 h, st_rd8 h, st_wr0 h, st_wr1 h, st_wr2 h, st_wr3 h, st_wr4 h, st_wr5 h, st_wr6 h, st_wr7 h, st_wr8 h, st_nR h, st_nW h, st_alR h, st_alW h, st_asR h, st_asW h, r8, e, q.1, q2.1]
    simp only [dabC, e]
    (repeat' split) <;> first | rfl | omega
theorem c_loseWet (h : LayS M o) (r : SR C R W S) (g : GS S) : ∃ C' R' W', fX7_loseWetDabs (stM M o C R W) o = some (stM M o C' R' W') ∧ SR C' R' W' (lwS S) := by
  obtain ⟨n, hn⟩ := FL3
  obtain ⟨g0, g1, g2, g3, g4, g5, g6, g8, g9, g10, g11, g12, gd⟩ := g
  obtain ⟨⟨r0, r1, r2, r3, r4, r5⟩, ⟨r6, r7⟩, r8, rA, rB⟩ := r
  unfold fX7_loseWetDabs
  rw [hn]
  have fin : ∀ C' R' W' : Int → Int, (∀ j : Int, j ≠ 8 → C' j = C j) → (C' 8 = lwS S 8) → (1 ≤ lwS S 8 → R' 0 = lwS S 9 ∧ W' 0 = lwS S 11) → (2 ≤ lwS S 8 → R' 1 = lwS S 10 ∧ W' 1 = lwS S 12) → SR C' R' W' (lwS S) := fun C' R' W' e1 e2 e3 e4 => ⟨⟨by rw [e1 _ (by decide)]; exact r0, by rw [e1 _ (by decide)]; exact r1, by rw [e1 _ (by decide)]; exact r2, by rw [e1 _ (by decide)]; exact r3, by rw [e1 _ (by decide)]; exact r4, by rw [e1 _ (by decide)]; exact r5⟩, ⟨by rw [e1 _ (by decide)]; exact r6, by rw [e1 _ (by decide)]; exact r7⟩, e2, e3, e4⟩
  rcases (by omega : S 8 = 0 ∨ S 8 = 1 ∨ S 8 = 2) with e | e | e
  · simp -dsimp (disch := omega) only [fX7_loseWetDabs_L4, ↓B1_bp, ↓B2_bp, BP_some, BQ_some, ↓reduceIte, L_0, L_1, L_2, L_3, L_4, L_5, L_6, L_7, L_8, L_9, L_10, L_11, L_12, L_13, L_54, L_14, L_99, L_20, L_30, L_31, L_60, L_19, i2_add, i2_sub, i2_mul, i2_neg, Int.reduceAdd, Int.reduceSub, Int.reduceMul, Int.reduceNeg, Int.reduceLT, Int.reduceLE, Int.reduceEq, i2_le, i2_lt, i2_eq, uA_self, uA_ne, tf_0, not_true_eq_false, not_false_eq_true, gk_st h, st_rd0 h, st_rd1 h, st_rd2 h, st_rd3 h, st_rd4 h, st_rd5 h, st_rd6 h, st_rd7 h, st_rd8 h, st_wr0 h, st_wr1 h, st_wr2 h, st_wr3 h, st_wr4 h, st_wr5 h, st_wr6 h, st_wr7 h, st_wr8 h, st_nR h, st_nW h, st_alR h, st_alW h, st_asR h, st_asW h, r8, e]
    refine ⟨_, _, _, rfl, fin _ _ _ (fun j hj => uA_ne hj) ?_ ?_ ?_⟩ <;> simp [lwS, uA, e, tf]
  · have q := rA (by omega)
    by_cases a : S 11 = 0
    · simp -dsimp (disch := omega) only [fX7_loseWetDabs_L4, ↓B1_bp, ↓B2_bp, BP_some, BQ_some, ↓reduceIte, L_0, L_1, L_2, L_3, L_4, L_5, L_6, L_7, L_8, L_9, L_10, L_11, L_12, L_13, L_54, L_14, L_99, L_20, L_30, L_31, L_60, L_19, i2_add, i2_sub, i2_mul, i2_neg, Int.reduceAdd, Int.reduceSub, Int.reduceMul, Int.reduceNeg, Int.reduceLT, Int.reduceLE, Int.reduceEq, i2_le, i2_lt, i2_eq, uA_self, uA_ne, tf_0, not_true_eq_false, not_false_eq_true, gk_st h, st_rd0 h, st_rd1 h, st_rd2 h, st_rd3 h, st_rd4 h, st_rd5 h, st_rd6 h, st_rd7 h, st_rd8 h, st_wr0 h, st_wr1 h, st_wr2 h, st_wr3 h, st_wr4 h, st_wr5 h, st_wr6 h, st_wr7 h, st_wr8 h, st_nR h, st_nW h, st_alR h, st_alW h, st_asR h, st_asW h, r8, e, q.1, q.2, a]
      refine ⟨_, _, _, rfl, fin _ _ _ (fun j hj => uA_ne hj) ?_ ?_ ?_⟩ <;> simp [lwS, uA, e, tf, a, q.1, q.2]
    · simp -dsimp (disch := omega) only [fX7_loseWetDabs_L4, ↓B1_bp, ↓B2_bp, BP_some, BQ_some, ↓reduceIte, L_0, L_1, L_2, L_3, L_4, L_5, L_6, L_7, L_8, L_9, L_10, L_11, L_12, L_13, L_54, L_14, L_99, L_20, L_30, L_31, L_60, L_19, i2_add, i2_sub, i2_mul, i2_neg, Int.reduceAdd, Int.reduceSub, Int.reduceMul, Int.reduceNeg, Int.reduceLT, Int.reduceLE, Int.reduceEq, i2_le, i2_lt, i2_eq, uA_self, uA_ne, tf_0, not_true_eq_false, not_false_eq_true, gk_st h, st_rd0 h, st_rd1 h, st_rd2 h, st_rd3 h, st_rd4 h, st_rd5 h, st_rd6 h, st_rd7 h, st_rd8 h, st_wr0 h, st_wr1 h, st_wr2 h, st_wr3 h, st_wr4 h, st_wr5 h, st_wr6 h, st_wr7 h, st_wr8 h, st_nR h, st_nW h, st_alR h, st_alW h, st_asR h, st_asW h, r8, e, q.1, q.2, a]
      refine ⟨_, _, _, rfl, fin _ _ _ (fun j hj => uA_ne hj) ?_ ?_ ?_⟩ <;> simp [lwS, uA, e, tf, a, q.1, q.2]
  · have q := rA (by omega)
    have q2 := rB (by omega)
    by_cases a : S 11 = 0 <;> by_cases b : S 12 = 0 <;>
    · simp -dsimp (disch := omega) only [fX7_loseWetDabs_L4, ↓B1_bp, ↓B2_bp, BP_some, BQ_some, ↓reduceIte, L_0, L_1, L_2, L_3, L_4, L_5, L_6, L_7, L_8, L_9, L_10, L_11, L_12, L_13, L_54, L_14, L_99, L_20, L_30, L_31, L_60, L_19, i2_add, i2_sub, i2_mul, i2_neg, Int.reduceAdd, Int.reduceSub, Int.reduceMul, Int.reduceNeg, Int.reduceLT, Int.reduceLE, Int.reduceEq, i2_le, i2_lt, i2_eq, uA_self, uA_ne, tf_0, not_true_eq_false, not_false_eq_true, gk_st h, st_rd0 h, st_rd1 h, st_rd2 h, st_rd3 h, st_rd4 h, st_rd5 h, st_rd6 h, st_rd7 h, st_rd8 h, st_wr0 h, st_wr1 h, st_wr2 h, st_wr3 h, st_wr4 h, st_wr5 h, st_wr6 h, st_wr7 h, st_wr8 h, st_nR h, st_nW h, st_alR h, st_alW h, st_asR h, st_asW h, r8, e, q.1, q.2, q2.1, q2.2, a, b]
      refine ⟨_, _, _, rfl, fin _ _ _ (fun j hj => uA_ne hj) ?_ ?_ ?_⟩ <;> simp [lwS, uA, e, tf, a, b, q.1, q.2, q2.1, q2.2]
theorem c_byKind (h : LayS M o) (r : SR C R W S) (g : GS S) {p : Int} (p0 : 0 ≤ p) (p1 : p ≤ 20) : fX7_byKind (stM M o C R W) o (i2 p) = some (i2 (byK (S 0) (S 1) p)) := by
  obtain ⟨g0, g1, g2, g3, g4, g5, g6, g8, g9, g10, g11, g12, gd⟩ := g
  obtain ⟨⟨r0, r1, r2, r3, r4, r5⟩, ⟨r6, r7⟩, r8, rA, rB⟩ := r
  unfold fX7_byKind byK
  simp -dsimp (disch := omega) only [↓B1_bp, ↓B2_bp, BP_some, BQ_some, ↓reduceIte, L_0, L_1, L_2, L_3, L_4, L_5, L_6, L_7, L_8, L_9, L_10, L_11, L_12, L_13, L_54, L_14, L_99, L_20, L_30, L_31, L_60, L_19, i2_add, i2_sub, i2_mul, i2_neg, Int.reduceAdd, Int.reduceSub, Int.reduceMul, Int.reduceNeg, Int.reduceLT, Int.reduceLE, Int.reduceEq, i2_le, i2_lt, i2_eq, uA_self, uA_ne, tf_0, not_true_eq_false, not_false_eq_true, gk_st h, st_rd0 h, st_rd1 h, st_rd2 h, st_rd3 h, st_rd4 h, st_rd5 h, st_rd6 h, st_rd7 h, st_rd8 h, st_wr0 h, st_wr1 h, st_wr2 h, st_wr3 h, st_wr4 h, st_wr5 h, st_wr6 h, st_wr7 h, st_wr8 h, st_nR h, st_nW h, st_alR h, st_alW h, st_asR h, st_asW h, r0, r1, i2_min]
  (repeat' split) <;> first | rfl | omega | (congr 2; omega)
theorem c_lowest (h : LayS M o) (r : SR C R W S) (g : GS S) (gl : GL L) (h6 : 0 ≤ S 6) : ∃ v : Int, fX7_lowest (stM M o C R W) o = some (i2 v) ∧ 0 ≤ v ∧ v ≤ 99 ∧ ∀ mv, max (S 6 - byK (S 0) (S 1) (dnP L mv)) v = lowS L mv S := by
  obtain ⟨n, hn⟩ := FL3
  have hb : ∀ mv, 0 ≤ byK (S 0) (S 1) (dnP L mv) := fun mv => (byK_b (kd := S 0) g.2.1.1 g.2.1.2 (dnP_b gl mv).1 (dnP_b gl mv).2).1
  obtain ⟨g0, g1, g2, g3, g4, g5, g6, g8, g9, g10, g11, g12, gd⟩ := g
  obtain ⟨⟨r0, r1, r2, r3, r4, r5⟩, ⟨r6, r7⟩, r8, rA, rB⟩ := r
  have r6' : C 6 = S 6 := r6.trans (cl_n _ h6)
  have ht : ((S 6 - 1).tdiv 10) * 10 = if S 6 = 0 then 0 else (S 6 - 1) / 10 * 10 := by
    split
    · rename_i e; rw [e]; rfl
    · rw [Int.tdiv_eq_ediv_of_nonneg (by omega)]
  have ht2 : 0 ≤ (if S 6 = 0 then 0 else (S 6 - 1) / 10 * 10) ∧ (if S 6 = 0 then 0 else (S 6 - 1) / 10 * 10) ≤ S 6 := by
    split <;> omega
  unfold fX7_lowest
  rw [hn]
  generalize hT : (if S 6 = 0 then 0 else (S 6 - 1) / 10 * 10) = T at ht ht2
  obtain ⟨P, hP⟩ : ∃ P : Int → Prop, ∀ v, P v = (0 ≤ v ∧ v ≤ 99 ∧ ∀ mv, max (S 6 - byK (S 0) (S 1) (dnP L mv)) v = lowS L mv S) := ⟨_, fun _ => rfl⟩
  simp only [← hP]
  have fin : ∀ v : Int, (0 ≤ v ∧ v ≤ 99 ∧ ∀ mv, max (S 6 - byK (S 0) (S 1) (dnP L mv)) v = lowS L mv S) → ∃ w : Int, some (i2 v) = some (i2 w) ∧ P w := fun v e => ⟨v, rfl, by rw [hP]; exact e⟩
  by_cases e0 : S 0 = 3 <;> rcases (by omega : S 8 = 0 ∨ S 8 = 1 ∨ S 8 = 2) with e | e | e
  · simp -dsimp (disch := omega) only [fX7_lowest_L27, ↓B1_bp, ↓B2_bp, BP_some, BQ_some, ↓reduceIte, L_0, L_1, L_2, L_3, L_4, L_5, L_6, L_7, L_8, L_9, L_10, L_11, L_12, L_13, L_54, L_14, L_99, L_20, L_30, L_31, L_60, L_19, i2_add, i2_sub, i2_mul, i2_neg, Int.reduceAdd, Int.reduceSub, Int.reduceMul, Int.reduceNeg, Int.reduceLT, Int.reduceLE, Int.reduceEq, i2_le, i2_lt, i2_eq, uA_self, uA_ne, tf_0, not_true_eq_false, not_false_eq_true, gk_st h, st_rd0 h, st_rd1 h, st_rd2 h, st_rd3 h, st_rd4 h, st_rd5 h, st_rd6 h, st_rd7 h, st_rd8 h, st_wr0 h, st_wr1 h, st_wr2 h, st_wr3 h, st_wr4 h, st_wr5 h, st_wr6 h, st_wr7 h, st_wr8 h, st_nR h, st_nW h, st_alR h, st_alW h, st_asR h, st_asW h, r8, e, r0, e0, r6', i2_div, ht]
    refine fin _ ⟨by omega, by omega, fun mv => ?_⟩
    have := hb mv
    simp only [lowS, lo1, lo0, e, e0, hT, if_true]
    omega
  · have q := rA (by omega)
    simp -dsimp (disch := omega) only [fX7_lowest_L27, ↓B1_bp, ↓B2_bp, BP_some, BQ_some, ↓reduceIte, L_0, L_1, L_2, L_3, L_4, L_5, L_6, L_7, L_8, L_9, L_10, L_11, L_12, L_13, L_54, L_14, L_99, L_20, L_30, L_31, L_60, L_19, i2_add, i2_sub, i2_mul, i2_neg, Int.reduceAdd, Int.reduceSub, Int.reduceMul, Int.reduceNeg, Int.reduceLT, Int.reduceLE, Int.reduceEq, i2_le, i2_lt, i2_eq, uA_self, uA_ne, tf_0, not_true_eq_false, not_false_eq_true, gk_st h, st_rd0 h, st_rd1 h, st_rd2 h, st_rd3 h, st_rd4 h, st_rd5 h, st_rd6 h, st_rd7 h, st_rd8 h, st_wr0 h, st_wr1 h, st_wr2 h, st_wr3 h, st_wr4 h, st_wr5 h, st_wr6 h, st_wr7 h, st_wr8 h, st_nR h, st_nW h, st_alR h, st_alW h, st_asR h, st_asW h, r8, e, r0, e0, r6', i2_div, ht, q.1, i2_max]
    (repeat' split) <;> refine fin _ ⟨by omega, by omega, fun mv => ?_⟩ <;> have := hb mv <;> simp only [lowS, lo1, lo0, e, e0, hT, if_true] <;> (repeat' split) <;> omega
  · have q := rA (by omega)
    have q2 := rB (by omega)
    simp -dsimp (disch := omega) only [fX7_lowest_L27, ↓B1_bp, ↓B2_bp, BP_some, BQ_some, ↓reduceIte, L_0, L_1, L_2, L_3, L_4, L_5, L_6, L_7, L_8, L_9, L_10, L_11, L_12, L_13, L_54, L_14, L_99, L_20, L_30, L_31, L_60, L_19, i2_add, i2_sub, i2_mul, i2_neg, Int.reduceAdd, Int.reduceSub, Int.reduceMul, Int.reduceNeg, Int.reduceLT, Int.reduceLE, Int.reduceEq, i2_le, i2_lt, i2_eq, uA_self, uA_ne, tf_0, not_true_eq_false, not_false_eq_true, gk_st h, st_rd0 h, st_rd1 h, st_rd2 h, st_rd3 h, st_rd4 h, st_rd5 h, st_rd6 h, st_rd7 h, st_rd8 h, st_wr0 h, st_wr1 h, st_wr2 h, st_wr3 h, st_wr4 h, st_wr5 h, st_wr6 h, st_wr7 h, st_wr8 h, st_nR h, st_nW h, st_alR h, st_alW h, st_asR h, st_asW h, r8, e, r0, e0, r6', i2_div, ht, q.1, q2.1, i2_max]
    (repeat' split) <;> refine fin _ ⟨by omega, by omega, fun mv => ?_⟩ <;> have := hb mv <;> simp only [lowS, lo1, lo0, e, e0, hT, if_true] <;> (repeat' split) <;> omega
  · simp -dsimp (disch := omega) only [fX7_lowest_L27, ↓B1_bp, ↓B2_bp, BP_some, BQ_some, ↓reduceIte, L_0, L_1, L_2, L_3, L_4, L_5, L_6, L_7, L_8, L_9, L_10, L_11, L_12, L_13, L_54, L_14, L_99, L_20, L_30, L_31, L_60, L_19, i2_add, i2_sub, i2_mul, i2_neg, Int.reduceAdd, Int.reduceSub, Int.reduceMul, Int.reduceNeg, Int.reduceLT, Int.reduceLE, Int.reduceEq, i2_le, i2_lt, i2_eq, uA_self, uA_ne, tf_0, not_true_eq_false, not_false_eq_true, gk_st h, st_rd0 h, st_rd1 h, st_rd2 h, st_rd3 h, st_rd4 h, st_rd5 h, st_rd6 h, st_rd7 h, st_rd8 h, st_wr0 h, st_wr1 h, st_wr2 h, st_wr3 h, st_wr4 h, st_wr5 h, st_wr6 h, st_wr7 h, st_wr8 h, st_nR h, st_nW h, st_alR h, st_alW h, st_asR h, st_asW h, r8, e, r0, e0, r6']
    refine fin _ ⟨by omega, by omega, fun mv => ?_⟩
    have := hb mv
    simp only [lowS, lo1, lo0, e, e0, if_false]
    omega
  · have q := rA (by omega)
    simp -dsimp (disch := omega) only [fX7_lowest_L27, ↓B1_bp, ↓B2_bp, BP_some, BQ_some, ↓reduceIte, L_0, L_1, L_2, L_3, L_4, L_5, L_6, L_7, L_8, L_9, L_10, L_11, L_12, L_13, L_54, L_14, L_99, L_20, L_30, L_31, L_60, L_19, i2_add, i2_sub, i2_mul, i2_neg, Int.reduceAdd, Int.reduceSub, Int.reduceMul, Int.reduceNeg, Int.reduceLT, Int.reduceLE, Int.reduceEq, i2_le, i2_lt, i2_eq, uA_self, uA_ne, tf_0, not_true_eq_false, not_false_eq_true, gk_st h, st_rd0 h, st_rd1 h, st_rd2 h, st_rd3 h, st_rd4 h, st_rd5 h, st_rd6 h, st_rd7 h, st_rd8 h, st_wr0 h, st_wr1 h, st_wr2 h, st_wr3 h, st_wr4 h, st_wr5 h, st_wr6 h, st_wr7 h, st_wr8 h, st_nR h, st_nW h, st_alR h, st_alW h, st_asR h, st_asW h, r8, e, r0, e0, r6', q.1, i2_max]
    (repeat' split) <;> refine fin _ ⟨by omega, by omega, fun mv => ?_⟩ <;> have := hb mv <;> simp only [lowS, lo1, lo0, e, e0, if_false] <;> (repeat' split) <;> omega
  · have q := rA (by omega)
    have q2 := rB (by omega)
    simp -dsimp (disch := omega) only [fX7_lowest_L27, ↓B1_bp, ↓B2_bp, BP_some, BQ_some, ↓reduceIte, L_0, L_1, L_2, L_3, L_4, L_5, L_6, L_7, L_8, L_9, L_10, L_11, L_12, L_13, L_54, L_14, L_99, L_20, L_30, L_31, L_60, L_19, i2_add, i2_sub, i2_mul, i2_neg, Int.reduceAdd, Int.reduceSub, Int.reduceMul, Int.reduceNeg, Int.reduceLT, Int.reduceLE, Int.reduceEq, i2_le, i2_lt, i2_eq, uA_self, uA_ne, tf_0, not_true_eq_false, not_false_eq_true, gk_st h, st_rd0 h, st_rd1 h, st_rd2 h, st_rd3 h, st_rd4 h, st_rd5 h, st_rd6 h, st_rd7 h, st_rd8 h, st_wr0 h, st_wr1 h, st_wr2 h, st_wr3 h, st_wr4 h, st_wr5 h, st_wr6 h, st_wr7 h, st_wr8 h, st_nR h, st_nW h, st_alR h, st_alW h, st_asR h, st_asW h, r8, e, r0, e0, r6', q.1, q2.1, i2_max]
    (repeat' split) <;> refine fin _ ⟨by omega, by omega, fun mv => ?_⟩ <;> have := hb mv <;> simp only [lowS, lo1, lo0, e, e0, if_false] <;> (repeat' split) <;> omega
theorem c_highest (h : LayS M o) (r : SR C R W S) (g : GS S) (gl : GL L) (h6 : 0 ≤ S 6) : ∃ v : Int, fX7_highest (stM M o C R W) o = some (i2 v) ∧ 0 ≤ v ∧ v ≤ 99 ∧ ∀ mv, min (S 7 + byK (S 0) (S 1) (upP L mv)) v = higS L mv S := by
  obtain ⟨n, hn⟩ := FL3
  have hb : ∀ mv, 0 ≤ byK (S 0) (S 1) (upP L mv) := fun mv => (byK_b (kd := S 0) g.2.1.1 g.2.1.2 (upP_b gl mv).1 (upP_b gl mv).2).1
  obtain ⟨g0, g1, g2, g3, g4, g5, g6, g8, g9, g10, g11, g12, gd⟩ := g
  obtain ⟨⟨r0, r1, r2, r3, r4, r5⟩, ⟨r6, r7⟩, r8, rA, rB⟩ := r
  have r7' : C 7 = S 7 := r7.trans (cl_n _ (by omega))
  unfold fX7_highest
  rw [hn]
  obtain ⟨P, hP⟩ : ∃ P : Int → Prop, ∀ v, P v = (0 ≤ v ∧ v ≤ 99 ∧ ∀ mv, min (S 7 + byK (S 0) (S 1) (upP L mv)) v = higS L mv S) := ⟨_, fun _ => rfl⟩
  simp only [← hP]
  have fin : ∀ v : Int, (0 ≤ v ∧ v ≤ 99 ∧ ∀ mv, min (S 7 + byK (S 0) (S 1) (upP L mv)) v = higS L mv S) → ∃ w : Int, some (i2 v) = some (i2 w) ∧ P w := fun v e => ⟨v, rfl, by rw [hP]; exact e⟩
  by_cases e0 : S 0 = 3 <;> rcases (by omega : S 8 = 0 ∨ S 8 = 1 ∨ S 8 = 2) with e | e | e
  · simp -dsimp (disch := omega) only [fX7_highest_L33, ↓B1_bp, ↓B2_bp, BP_some, BQ_some, ↓reduceIte, L_0, L_1, L_2, L_3, L_4, L_5, L_6, L_7, L_8, L_9, L_10, L_11, L_12, L_13, L_54, L_14, L_99, L_20, L_30, L_31, L_60, L_19, i2_add, i2_sub, i2_mul, i2_neg, Int.reduceAdd, Int.reduceSub, Int.reduceMul, Int.reduceNeg, Int.reduceLT, Int.reduceLE, Int.reduceEq, i2_le, i2_lt, i2_eq, uA_self, uA_ne, tf_0, not_true_eq_false, not_false_eq_true, gk_st h, st_rd0 h, st_rd1 h, st_rd2 h, st_rd3 h, st_rd4 h, st_rd5 h, st_rd6 h, st_rd7 h, st_rd8 h, st_wr0 h, st_wr1 h, st_wr2 h, st_wr3 h, st_wr4 h, st_wr5 h, st_wr6 h, st_wr7 h, st_wr8 h, st_nR h, st_nW h, st_alR h, st_alW h, st_asR h, st_asW h, r8, e, r0, e0, r7', i2_div, Int.tdiv_eq_ediv_of_nonneg, i2_min]
    refine fin _ ⟨by omega, by omega, fun mv => ?_⟩
    have := hb mv
    simp only [higS, hi1, hi0, e, e0, if_true] at this ⊢
    omega
  · have q := rA (by omega)
    simp -dsimp (disch := omega) only [fX7_highest_L33, ↓B1_bp, ↓B2_bp, BP_some, BQ_some, ↓reduceIte, L_0, L_1, L_2, L_3, L_4, L_5, L_6, L_7, L_8, L_9, L_10, L_11, L_12, L_13, L_54, L_14, L_99, L_20, L_30, L_31, L_60, L_19, i2_add, i2_sub, i2_mul, i2_neg, Int.reduceAdd, Int.reduceSub, Int.reduceMul, Int.reduceNeg, Int.reduceLT, Int.reduceLE, Int.reduceEq, i2_le, i2_lt, i2_eq, uA_self, uA_ne, tf_0, not_true_eq_false, not_false_eq_true, gk_st h, st_rd0 h, st_rd1 h, st_rd2 h, st_rd3 h, st_rd4 h, st_rd5 h, st_rd6 h, st_rd7 h, st_rd8 h, st_wr0 h, st_wr1 h, st_wr2 h, st_wr3 h, st_wr4 h, st_wr5 h, st_wr6 h, st_wr7 h, st_wr8 h, st_nR h, st_nW h, st_alR h, st_alW h, st_asR h, st_asW h, r8, e, r0, e0, r7', i2_div, Int.tdiv_eq_ediv_of_nonneg, q.1, i2_min]
    (repeat' split) <;> refine fin _ ⟨by omega, by omega, fun mv => ?_⟩ <;> have := hb mv <;> simp only [higS, hi1, hi0, e, e0, if_true] at this ⊢ <;> (repeat' split) <;> omega
  · have q := rA (by omega)
    have q2 := rB (by omega)
    simp -dsimp (disch := omega) only [fX7_highest_L33, ↓B1_bp, ↓B2_bp, BP_some, BQ_some, ↓reduceIte, L_0, L_1, L_2, L_3, L_4, L_5, L_6, L_7, L_8, L_9, L_10, L_11, L_12, L_13, L_54, L_14, L_99, L_20, L_30, L_31, L_60, L_19, i2_add, i2_sub, i2_mul, i2_neg, Int.reduceAdd, Int.reduceSub, Int.reduceMul, Int.reduceNeg, Int.reduceLT, Int.reduceLE, Int.reduceEq, i2_le, i2_lt, i2_eq, uA_self, uA_ne, tf_0, not_true_eq_false, not_false_eq_true, gk_st h, st_rd0 h, st_rd1 h, st_rd2 h, st_rd3 h, st_rd4 h, st_rd5 h, st_rd6 h, st_rd7 h, st_rd8 h, st_wr0 h, st_wr1 h, st_wr2 h, st_wr3 h, st_wr4 h, st_wr5 h, st_wr6 h, st_wr7 h, st_wr8 h, st_nR h, st_nW h, st_alR h, st_alW h, st_asR h, st_asW h, r8, e, r0, e0, r7', i2_div, Int.tdiv_eq_ediv_of_nonneg, q.1, q2.1, i2_min]
    (repeat' split) <;> refine fin _ ⟨by omega, by omega, fun mv => ?_⟩ <;> have := hb mv <;> simp only [higS, hi1, hi0, e, e0, if_true] at this ⊢ <;> (repeat' split) <;> omega
  · simp -dsimp (disch := omega) only [fX7_highest_L33, ↓B1_bp, ↓B2_bp, BP_some, BQ_some, ↓reduceIte, L_0, L_1, L_2, L_3, L_4, L_5, L_6, L_7, L_8, L_9, L_10, L_11, L_12, L_13, L_54, L_14, L_99, L_20, L_30, L_31, L_60, L_19, i2_add, i2_sub, i2_mul, i2_neg, Int.reduceAdd, Int.reduceSub, Int.reduceMul, Int.reduceNeg, Int.reduceLT, Int.reduceLE, Int.reduceEq, i2_le, i2_lt, i2_eq, uA_self, uA_ne, tf_0, not_true_eq_false, not_false_eq_true, gk_st h, st_rd0 h, st_rd1 h, st_rd2 h, st_rd3 h, st_rd4 h, st_rd5 h, st_rd6 h, st_rd7 h, st_rd8 h, st_wr0 h, st_wr1 h, st_wr2 h, st_wr3 h, st_wr4 h, st_wr5 h, st_wr6 h, st_wr7 h, st_wr8 h, st_nR h, st_nW h, st_alR h, st_alW h, st_asR h, st_asW h, r8, e, r0, e0, r7']
    refine fin _ ⟨by omega, by omega, fun mv => ?_⟩
    have := hb mv
    simp only [higS, hi1, hi0, e, e0, if_false]
    omega
  · have q := rA (by omega)
    simp -dsimp (disch := omega) only [fX7_highest_L33, ↓B1_bp, ↓B2_bp, BP_some, BQ_some, ↓reduceIte, L_0, L_1, L_2, L_3, L_4, L_5, L_6, L_7, L_8, L_9, L_10, L_11, L_12, L_13, L_54, L_14, L_99, L_20, L_30, L_31, L_60, L_19, i2_add, i2_sub, i2_mul, i2_neg, Int.reduceAdd, Int.reduceSub, Int.reduceMul, Int.reduceNeg, Int.reduceLT, Int.reduceLE, Int.reduceEq, i2_le, i2_lt, i2_eq, uA_self, uA_ne, tf_0, not_true_eq_false, not_false_eq_true, gk_st h, st_rd0 h, st_rd1 h, st_rd2 h, st_rd3 h, st_rd4 h, st_rd5 h, st_rd6 h, st_rd7 h, st_rd8 h, st_wr0 h, st_wr1 h, st_wr2 h, st_wr3 h, st_wr4 h, st_wr5 h, st_wr6 h, st_wr7 h, st_wr8 h, st_nR h, st_nW h, st_alR h, st_alW h, st_asR h, st_asW h, r8, e, r0, e0, r7', q.1, i2_min]
    (repeat' split) <;> refine fin _ ⟨by omega, by omega, fun mv => ?_⟩ <;> have := hb mv <;> simp only [higS, hi1, hi0, e, e0, if_false] <;> (repeat' split) <;> omega
  · have q := rA (by omega)
    have q2 := rB (by omega)
    simp -dsimp (disch := omega) only [fX7_highest_L33, ↓B1_bp, ↓B2_bp, BP_some, BQ_some, ↓reduceIte, L_0, L_1, L_2, L_3, L_4, L_5, L_6, L_7, L_8, L_9, L_10, L_11, L_12, L_13, L_54, L_14, L_99, L_20, L_30, L_31, L_60, L_19, i2_add, i2_sub, i2_mul, i2_neg, Int.reduceAdd, Int.reduceSub, Int.reduceMul, Int.reduceNeg, Int.reduceLT, Int.reduceLE, Int.reduceEq, i2_le, i2_lt, i2_eq, uA_self, uA_ne, tf_0, not_true_eq_false, not_false_eq_true, gk_st h, st_rd0 h, st_rd1 h, st_rd2 h, st_rd3 h, st_rd4 h, st_rd5 h, st_rd6 h, st_rd7 h, st_rd8 h, st_wr0 h, st_wr1 h, st_wr2 h, st_wr3 h, st_wr4 h, st_wr5 h, st_wr6 h, st_wr7 h, st_wr8 h, st_nR h, st_nW h, st_alR h, st_alW h, st_asR h, st_asW h, r8, e, r0, e0, r7', q.1, q2.1, i2_min]
    (repeat' split) <;> refine fin _ ⟨by omega, by omega, fun mv => ?_⟩ <;> have := hb mv <;> simp only [higS, hi1, hi0, e, e0, if_false] <;> (repeat' split) <;> omega
end STF
