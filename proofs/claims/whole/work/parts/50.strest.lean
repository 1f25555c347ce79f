/-! the rest of what the component does with one stocking -/
def opS (S : Int → Int) : Int := if 0 ≤ S 6 then S 7 - S 6 + 1 else 0
def baS (L S : Int → Int) : Int := if 0 ≤ S 6 then max 0 (min (S 7) (L 4 - 1) - max (S 6) (L 3) + 1) else 0
def sdS (foot : Int) (S : Int → Int) : Int := if S 5 % 2 = 0 then S 5 else if foot = 0 then S 5 else 4 - S 5
def snagS (r : Int) (S : Int → Int) : Int → Int := uA (uA S 6 r) 7 r
def newS (kd a sh la : Int) : Int → Int := fun j => if j = 0 then kd else if j = 1 then a else if j = 2 then sh else if j = 3 then la else if j = 6 ∨ j = 7 then -1 else 0
def adB (r : Int) (S : Int → Int) : Int := if ¬ (0 ≤ r ∧ r ≤ 99) then -1 else if (0 ≤ S 6 ∧ S 6 ≤ r ∧ r ≤ S 7) ∨ 0 ≤ dabC S r then -4 else if S 8 = 2 then -2 else S 8 + 1
def adS (w r : Int) (S : Int → Int) : Int → Int := if adB r S < 0 then S else uA (uA (uA S (9 + S 8) r) (11 + S 8) w) 8 (S 8 + 1)
theorem opS_b {S : Int → Int} (g : GS S) : 0 ≤ opS S ∧ opS S ≤ 100 := by
  obtain ⟨g0, g1, g2, g3, g4, g5, g6, g8, g9, g10, g11, g12, gd⟩ := g
  unfold opS
  split <;> omega
theorem baS_b {L S : Int → Int} (g : GS S) : 0 ≤ baS L S ∧ baS L S ≤ 100 := by
  obtain ⟨g0, g1, g2, g3, g4, g5, g6, g8, g9, g10, g11, g12, gd⟩ := g
  unfold baS
  split <;> omega
theorem dabC_b (S : Int → Int) (r : Int) : -1 ≤ dabC S r ∧ dabC S r ≤ 1 := by
  unfold dabC
  repeat' split
  all_goals omega
theorem adB_b {S : Int → Int} (g : GS S) (r : Int) : -4 ≤ adB r S ∧ adB r S ≤ 2 := by
  obtain ⟨g0, g1, g2, g3, g4, g5, g6, g8, g9, g10, g11, g12, gd⟩ := g
  unfold adB
  repeat' split
  all_goals omega
theorem GS.snag {S : Int → Int} {r : Int} (g : GS S) (r0 : 0 ≤ r) (r9 : r ≤ 99) : GS (snagS r S) := by
  obtain ⟨g0, g1, g2, g3, g4, g5, g6, g8, g9, g10, g11, g12, gd⟩ := g
  exact ⟨g0, g1, g2, g3, g4, g5, Or.inr ⟨r0, Int.le_refl _, r9⟩, g8, g9, g10, g11, g12, gd⟩
theorem GS.new {kd a sh la : Int} (h0 : 0 ≤ kd ∧ kd ≤ 5) (h1 : 0 ≤ a ∧ a ≤ 9) (h2 : 0 ≤ sh ∧ sh ≤ 3) (h3 : 1 ≤ la ∧ la ≤ 30) : GS (newS kd a sh la) := by
  refine ⟨h0, h1, h2, h3, ?_, ?_, Or.inl ⟨rfl, rfl⟩, ?_, ?_, ?_, ?_, ?_, ?_⟩
  · show 0 ≤ (0 : Int) ∧ (0 : Int) ≤ la
    omega
  all_goals simp [newS]
theorem GS.ad {S : Int → Int} {w r : Int} (g : GS S) (w0 : 0 ≤ w) (w5 : w ≤ 5) : GS (adS w r S) := by
  have hb := adB_b g r
  unfold adS
  split
  · exact g
  · rename_i hn
    have hr : (0 ≤ r ∧ r ≤ 99) ∧ ¬ 0 ≤ dabC S r ∧ S 8 ≠ 2 := by
      unfold adB at hn
      (repeat' split at hn) <;> first | omega | (refine ⟨?_, ?_, ?_⟩ <;> omega)
    obtain ⟨g0, g1, g2, g3, g4, g5, g6, g8, g9, g10, g11, g12, gd⟩ := g
    have hd : S 8 = 1 → S 9 ≠ r := fun e q => hr.2.1 (by unfold dabC; rw [if_pos ⟨by omega, q⟩]; decide)
    rcases (by omega : S 8 = 0 ∨ S 8 = 1) with e | e
    · rw [e]
      refine ⟨g0, g1, g2, g3, g4, g5, g6, ?_, ?_, g10, ?_, g12, ?_⟩ <;> simp [uA] <;> omega
    · rw [e]
      have hd := hd e
      refine ⟨g0, g1, g2, g3, g4, g5, g6, ?_, g9, ?_, g11, ?_, ?_⟩ <;> simp [uA] <;> omega
section STF
variable {M : Mm} {o : Nat} {C R W S L : Int → Int}
theorem c_isRung (M : Mm) {x : Int} (x0 : -2147483648 ≤ x) (x1 : x < 2147483648) : fX11_isRung M (i2 x) = some (i2 (tf (0 ≤ x ∧ x ≤ 99))) := by
  unfold fX11_isRung
  simp -dsimp (disch := omega) only [↓B1_bp, ↓B2_bp, BP_some, BQ_some, ↓reduceIte, L_0, L_1, L_2, L_3, L_4, L_5, L_6, L_7, L_8, L_9, L_10, L_11, L_12, L_13, L_54, L_14, L_99, L_20, L_30, L_31, L_60, L_19, i2_add, i2_sub, i2_mul, i2_neg, Int.reduceAdd, Int.reduceSub, Int.reduceMul, Int.reduceNeg, Int.reduceLT, Int.reduceLE, Int.reduceEq, i2_le, i2_lt, i2_eq, uA_self, uA_ne, tf_0, not_true_eq_false, not_false_eq_true, c_isWithin, tf_bz]
theorem c_openRungs (h : LayS M o) (r : SR C R W S) (g : GS S) : fX7_openRungs (stM M o C R W) o = some (i2 (opS S)) := by
  have hh := c_hasLadder h r g
  obtain ⟨g0, g1, g2, g3, g4, g5, g6, g8, g9, g10, g11, g12, gd⟩ := g
  obtain ⟨-, ⟨r6, r7⟩, -⟩ := r
  unfold fX7_openRungs opS
  by_cases e : 0 ≤ S 6
  · have r6' : C 6 = S 6 := r6.trans (cl_n _ e)
    have r7' : C 7 = S 7 := r7.trans (cl_n _ (by omega))
    simp -dsimp (disch := omega) only [↓B1_bp, ↓B2_bp, BP_some, BQ_some, ↓reduceIte, L_0, L_1, L_2, L_3, L_4, L_5, L_6, L_7, L_8, L_9, L_10, L_11, L_12, L_13, L_54, L_14, L_99, L_20, L_30, L_31, L_60, L_19, i2_add, i2_sub, i2_mul, i2_neg, Int.reduceAdd, Int.reduceSub, Int.reduceMul, Int.reduceNeg, Int.reduceLT, Int.reduceLE, Int.reduceEq, i2_le, i2_lt, i2_eq, uA_self, uA_ne, tf_0, not_true_eq_false, not_false_eq_true, gk_st h, st_rd0 h, st_rd1 h, st_rd2 h, st_rd3 h, st_rd4 h, st_rd5 h, st_rd6 h, st_rd7 h, st_rd8 h, st_wr0 h, st_wr1 h, st_wr2 h, st_wr3 h, st_wr4 h, st_wr5 h, st_wr6 h, st_wr7 h, st_wr8 h, st_nR h, st_nW h, st_alR h, st_alW h, st_asR h, st_asW h, hh, e, r6', r7']
  · simp -dsimp (disch := omega) only [↓B1_bp, ↓B2_bp, BP_some, BQ_some, ↓reduceIte, L_0, L_1, L_2, L_3, L_4, L_5, L_6, L_7, L_8, L_9, L_10, L_11, L_12, L_13, L_54, L_14, L_99, L_20, L_30, L_31, L_60, L_19, i2_add, i2_sub, i2_mul, i2_neg, Int.reduceAdd, Int.reduceSub, Int.reduceMul, Int.reduceNeg, Int.reduceLT, Int.reduceLE, Int.reduceEq, i2_le, i2_lt, i2_eq, uA_self, uA_ne, tf_0, not_true_eq_false, not_false_eq_true, gk_st h, st_rd0 h, st_rd1 h, st_rd2 h, st_rd3 h, st_rd4 h, st_rd5 h, st_rd6 h, st_rd7 h, st_rd8 h, st_wr0 h, st_wr1 h, st_wr2 h, st_wr3 h, st_wr4 h, st_wr5 h, st_wr6 h, st_wr7 h, st_wr8 h, st_nR h, st_nW h, st_alR h, st_alW h, st_asR h, st_asW h, hh, e]
theorem c_openAboveShoe (h : LayS M o) (r : SR C R W S) (g : GS S) (gl : GL L) {q : Nat} (hq : Off q o) (hL : LR M q L) : fX7_openAboveShoe (stM M o C R W) o q = some (i2 (baS L S)) := by
  have hL3 := hL 3 (by decide) (by decide)
  have hL4 := hL 4 (by decide) (by decide)
  obtain ⟨g0, g1, g2, g3, g4, g5, g6, g8, g9, g10, g11, g12, gd⟩ := g
  obtain ⟨-, ⟨r6, r7⟩, -⟩ := r
  obtain ⟨-, -, -, l3, l4, -⟩ := gl
  have b6 := cl_b (x := S 6) (by omega)
  have b7 := cl_b (x := S 7) (by omega)
  unfold fX7_openAboveShoe baS
  simp -dsimp (disch := omega) only [↓B1_bp, ↓B2_bp, BP_some, BQ_some, ↓reduceIte, L_0, L_1, L_2, L_3, L_4, L_5, L_6, L_7, L_8, L_9, L_10, L_11, L_12, L_13, L_54, L_14, L_99, L_20, L_30, L_31, L_60, L_19, i2_add, i2_sub, i2_mul, i2_neg, Int.reduceAdd, Int.reduceSub, Int.reduceMul, Int.reduceNeg, Int.reduceLT, Int.reduceLE, Int.reduceEq, i2_le, i2_lt, i2_eq, uA_self, uA_ne, tf_0, not_true_eq_false, not_false_eq_true, gk_st h, st_rd0 h, st_rd1 h, st_rd2 h, st_rd3 h, st_rd4 h, st_rd5 h, st_rd6 h, st_rd7 h, st_rd8 h, st_wr0 h, st_wr1 h, st_wr2 h, st_wr3 h, st_wr4 h, st_wr5 h, st_wr6 h, st_wr7 h, st_wr8 h, st_nR h, st_nW h, st_alR h, st_alW h, st_asR h, st_asW h, st_alo hq, hL3, hL4, r6, r7, i2_max, i2_min]
  split <;> · congr 2; omega
theorem c_isLasting (h : LayS M o) (r : SR C R W S) (g : GS S) : fX7_isLasting (stM M o C R W) o = some (i2 (tf (S 4 < S 3))) := by
  obtain ⟨g0, g1, g2, g3, g4, g5, g6, g8, g9, g10, g11, g12, gd⟩ := g
  obtain ⟨⟨r0, r1, r2, r3, r4, r5⟩, -⟩ := r
  unfold fX7_isLasting
  simp -dsimp (disch := omega) only [↓B1_bp, ↓B2_bp, BP_some, BQ_some, ↓reduceIte, L_0, L_1, L_2, L_3, L_4, L_5, L_6, L_7, L_8, L_9, L_10, L_11, L_12, L_13, L_54, L_14, L_99, L_20, L_30, L_31, L_60, L_19, i2_add, i2_sub, i2_mul, i2_neg, Int.reduceAdd, Int.reduceSub, Int.reduceMul, Int.reduceNeg, Int.reduceLT, Int.reduceLE, Int.reduceEq, i2_le, i2_lt, i2_eq, uA_self, uA_ne, tf_0, not_true_eq_false, not_false_eq_true, gk_st h, st_rd0 h, st_rd1 h, st_rd2 h, st_rd3 h, st_rd4 h, st_rd5 h, st_rd6 h, st_rd7 h, st_rd8 h, st_wr0 h, st_wr1 h, st_wr2 h, st_wr3 h, st_wr4 h, st_wr5 h, st_wr6 h, st_wr7 h, st_wr8 h, st_nR h, st_nW h, st_alR h, st_alW h, st_asR h, st_asW h, r3, r4]
  by_cases e : S 4 < S 3
  · rw [if_neg (by omega), tf_t e]
  · rw [if_pos (by omega), tf_f e]
theorem c_mendingCosts (h : LayS M o) (r : SR C R W S) (g : GS S) {q : Nat} (hq : Off q o) (hL : LR M q L) : fX7_mendingCosts (stM M o C R W) o q = some (i2 (L 5 * opS S)) := by
  have hL5 := hL 5 (by decide) (by decide)
  have ho := c_openRungs h r g
  unfold fX7_mendingCosts
  simp -dsimp (disch := omega) only [↓B1_bp, ↓B2_bp, BP_some, BQ_some, ↓reduceIte, L_0, L_1, L_2, L_3, L_4, L_5, L_6, L_7, L_8, L_9, L_10, L_11, L_12, L_13, L_54, L_14, L_99, L_20, L_30, L_31, L_60, L_19, i2_add, i2_sub, i2_mul, i2_neg, Int.reduceAdd, Int.reduceSub, Int.reduceMul, Int.reduceNeg, Int.reduceLT, Int.reduceLE, Int.reduceEq, i2_le, i2_lt, i2_eq, uA_self, uA_ne, tf_0, not_true_eq_false, not_false_eq_true, gk_st h, st_rd0 h, st_rd1 h, st_rd2 h, st_rd3 h, st_rd4 h, st_rd5 h, st_rd6 h, st_rd7 h, st_rd8 h, st_wr0 h, st_wr1 h, st_wr2 h, st_wr3 h, st_wr4 h, st_wr5 h, st_wr6 h, st_wr7 h, st_wr8 h, st_nR h, st_nW h, st_alR h, st_alW h, st_asR h, st_asW h, st_alo hq, hL5, ho]
theorem c_sideShown (h : LayS M o) (r : SR C R W S) (g : GS S) {foot : Int} (f : foot = 0 ∨ foot = 1) : fX7_sideShown (stM M o C R W) o (i2 foot) = some (i2 (sdS foot S)) := by
  obtain ⟨g0, g1, g2, g3, g4, g5, g6, g8, g9, g10, g11, g12, gd⟩ := g
  obtain ⟨⟨r0, r1, r2, r3, r4, r5⟩, -⟩ := r
  unfold fX7_sideShown sdS
  rcases f with rfl | rfl
  · simp -dsimp (disch := omega) only [↓B1_bp, ↓B2_bp, BP_some, BQ_some, ↓reduceIte, L_0, L_1, L_2, L_3, L_4, L_5, L_6, L_7, L_8, L_9, L_10, L_11, L_12, L_13, L_54, L_14, L_99, L_20, L_30, L_31, L_60, L_19, i2_add, i2_sub, i2_mul, i2_neg, Int.reduceAdd, Int.reduceSub, Int.reduceMul, Int.reduceNeg, Int.reduceLT, Int.reduceLE, Int.reduceEq, i2_le, i2_lt, i2_eq, uA_self, uA_ne, tf_0, not_true_eq_false, not_false_eq_true, gk_st h, st_rd0 h, st_rd1 h, st_rd2 h, st_rd3 h, st_rd4 h, st_rd5 h, st_rd6 h, st_rd7 h, st_rd8 h, st_wr0 h, st_wr1 h, st_wr2 h, st_wr3 h, st_wr4 h, st_wr5 h, st_wr6 h, st_wr7 h, st_wr8 h, st_nR h, st_nW h, st_alR h, st_alW h, st_asR h, st_asW h, r5, if_true]
    split <;> rfl
  · simp -dsimp (disch := omega) only [↓B1_bp, ↓B2_bp, BP_some, BQ_some, ↓reduceIte, L_0, L_1, L_2, L_3, L_4, L_5, L_6, L_7, L_8, L_9, L_10, L_11, L_12, L_13, L_54, L_14, L_99, L_20, L_30, L_31, L_60, L_19, i2_add, i2_sub, i2_mul, i2_neg, Int.reduceAdd, Int.reduceSub, Int.reduceMul, Int.reduceNeg, Int.reduceLT, Int.reduceLE, Int.reduceEq, i2_le, i2_lt, i2_eq, uA_self, uA_ne, tf_0, not_true_eq_false, not_false_eq_true, gk_st h, st_rd0 h, st_rd1 h, st_rd2 h, st_rd3 h, st_rd4 h, st_rd5 h, st_rd6 h, st_rd7 h, st_rd8 h, st_wr0 h, st_wr1 h, st_wr2 h, st_wr3 h, st_wr4 h, st_wr5 h, st_wr6 h, st_wr7 h, st_wr8 h, st_nR h, st_nW h, st_alR h, st_alW h, st_asR h, st_asW h, r5, i2_div, Int.tdiv_eq_ediv_of_nonneg]
    (repeat' split) <;> first | rfl | omega
theorem c_beginLadder (h : LayS M o) (r : SR C R W S) (g : GS S) {x : Int} (x0 : 0 ≤ x) (x9 : x ≤ 99) : ∃ C', fX7_beginLadder (stM M o C R W) o (i2 x) = some (i2 (tf (¬ 0 ≤ S 6 ∧ dabC S x < 0)), stM M o C' R W) ∧ SR C' R W (if ¬ 0 ≤ S 6 ∧ dabC S x < 0 then snagS x S else S) := by
  have hh := c_hasLadder h r g
  have hd := c_dabAt h r g (x := x) (by omega) (by omega)
  have hb := dabC_b S x
  unfold fX7_beginLadder
  by_cases e : 0 ≤ S 6
  · rw [tf_f (fun q => q.1 e), if_neg (fun q => q.1 e)]
    simp -dsimp (disch := omega) only [↓B1_bp, ↓B2_bp, BP_some, BQ_some, ↓reduceIte, L_0, L_1, L_2, L_3, L_4, L_5, L_6, L_7, L_8, L_9, L_10, L_11, L_12, L_13, L_54, L_14, L_99, L_20, L_30, L_31, L_60, L_19, i2_add, i2_sub, i2_mul, i2_neg, Int.reduceAdd, Int.reduceSub, Int.reduceMul, Int.reduceNeg, Int.reduceLT, Int.reduceLE, Int.reduceEq, i2_le, i2_lt, i2_eq, uA_self, uA_ne, tf_0, not_true_eq_false, not_false_eq_true, gk_st h, st_rd0 h, st_rd1 h, st_rd2 h, st_rd3 h, st_rd4 h, st_rd5 h, st_rd6 h, st_rd7 h, st_rd8 h, st_wr0 h, st_wr1 h, st_wr2 h, st_wr3 h, st_wr4 h, st_wr5 h, st_wr6 h, st_wr7 h, st_wr8 h, st_nR h, st_nW h, st_alR h, st_alW h, st_asR h, st_asW h, hh, e]
    exact ⟨C, rfl, r⟩
  · by_cases e2 : dabC S x < 0
    · rw [tf_t ⟨e, e2⟩, if_pos ⟨e, e2⟩]
      simp -dsimp (disch := omega) only [↓B1_bp, ↓B2_bp, BP_some, BQ_some, ↓reduceIte, L_0, L_1, L_2, L_3, L_4, L_5, L_6, L_7, L_8, L_9, L_10, L_11, L_12, L_13, L_54, L_14, L_99, L_20, L_30, L_31, L_60, L_19, i2_add, i2_sub, i2_mul, i2_neg, Int.reduceAdd, Int.reduceSub, Int.reduceMul, Int.reduceNeg, Int.reduceLT, Int.reduceLE, Int.reduceEq, i2_le, i2_lt, i2_eq, uA_self, uA_ne, tf_0, not_true_eq_false, not_false_eq_true, gk_st h, st_rd0 h, st_rd1 h, st_rd2 h, st_rd3 h, st_rd4 h, st_rd5 h, st_rd6 h, st_rd7 h, st_rd8 h, st_wr0 h, st_wr1 h, st_wr2 h, st_wr3 h, st_wr4 h, st_wr5 h, st_wr6 h, st_wr7 h, st_wr8 h, st_nR h, st_nW h, st_alR h, st_alW h, st_asR h, st_asW h, hh, e, hd, e2]
      obtain ⟨⟨r0, r1, r2, r3, r4, r5⟩, ⟨r6, r7⟩, r8, rA, rB⟩ := r
      exact ⟨_, rfl, ⟨r0, r1, r2, r3, r4, r5⟩, ⟨(cl_n _ x0).symm, (cl_n _ x0).symm⟩, r8, rA, rB⟩
    · rw [tf_f (fun q => e2 q.2), if_neg (fun q => e2 q.2)]
      simp -dsimp (disch := omega) only [↓B1_bp, ↓B2_bp, BP_some, BQ_some, ↓reduceIte, L_0, L_1, L_2, L_3, L_4, L_5, L_6, L_7, L_8, L_9, L_10, L_11, L_12, L_13, L_54, L_14, L_99, L_20, L_30, L_31, L_60, L_19, i2_add, i2_sub, i2_mul, i2_neg, Int.reduceAdd, Int.reduceSub, Int.reduceMul, Int.reduceNeg, Int.reduceLT, Int.reduceLE, Int.reduceEq, i2_le, i2_lt, i2_eq, uA_self, uA_ne, tf_0, not_true_eq_false, not_false_eq_true, gk_st h, st_rd0 h, st_rd1 h, st_rd2 h, st_rd3 h, st_rd4 h, st_rd5 h, st_rd6 h, st_rd7 h, st_rd8 h, st_wr0 h, st_wr1 h, st_wr2 h, st_wr3 h, st_wr4 h, st_wr5 h, st_wr6 h, st_wr7 h, st_wr8 h, st_nR h, st_nW h, st_alR h, st_alW h, st_asR h, st_asW h, hh, e, hd, e2]
      exact ⟨C, rfl, r⟩
theorem c_addDab (h : LayS M o) (r : SR C R W S) (g : GS S) {x w : Int} (x0 : -2147483648 ≤ x) (x9 : x < 2147483648) : ∃ C' R' W', fX7_addDab (stM M o C R W) o (i2 x) (i2 w) = some (i2 (adB x S), stM M o C' R' W') ∧ SR C' R' W' (adS w x S) := by
  have hr := c_isRung (stM M o C R W) x0 x9
  have hd := c_dabAt h r g (x := x) x0 x9
  have hb := dabC_b S x
  have r' := r
  obtain ⟨⟨r0, r1, r2, r3, r4, r5⟩, ⟨r6, r7⟩, r8, rA, rB⟩ := r
  obtain ⟨g0, g1, g2, g3, g4, g5, g6, g8, g9, g10, g11, g12, gd⟩ := g
  have b6 := cl_b (x := S 6) (by omega)
  have b7 := cl_b (x := S 7) (by omega)
  unfold fX7_addDab
  by_cases e1 : 0 ≤ x ∧ x ≤ 99
  · by_cases e2 : 0 ≤ S 6 ∧ S 6 ≤ x ∧ x ≤ S 7
    · have q1 : adB x S = -4 := by unfold adB; rw [if_neg (by omega), if_pos (Or.inl e2)]
      have q2 : adS w x S = S := by unfold adS; rw [if_pos (by omega)]
      have k1 : ¬ x < cl (S 6) := by omega
      have k2 : x ≤ cl (S 7) := by omega
      simp -dsimp (disch := omega) only [↓B1_bp, ↓B2_bp, BP_some, BQ_some, ↓reduceIte, L_0, L_1, L_2, L_3, L_4, L_5, L_6, L_7, L_8, L_9, L_10, L_11, L_12, L_13, L_54, L_14, L_99, L_20, L_30, L_31, L_60, L_19, i2_add, i2_sub, i2_mul, i2_neg, Int.reduceAdd, Int.reduceSub, Int.reduceMul, Int.reduceNeg, Int.reduceLT, Int.reduceLE, Int.reduceEq, i2_le, i2_lt, i2_eq, uA_self, uA_ne, tf_0, not_true_eq_false, not_false_eq_true, gk_st h, st_rd0 h, st_rd1 h, st_rd2 h, st_rd3 h, st_rd4 h, st_rd5 h, st_rd6 h, st_rd7 h, st_rd8 h, st_wr0 h, st_wr1 h, st_wr2 h, st_wr3 h, st_wr4 h, st_wr5 h, st_wr6 h, st_wr7 h, st_wr8 h, st_nR h, st_nW h, st_alR h, st_alW h, st_asR h, st_asW h, hr, e1, and_self, r6, r7, k1, k2, q1, q2]
      exact ⟨C, R, W, rfl, r'⟩
    · by_cases e3 : dabC S x < 0
      · have q1 : adB x S = if S 8 = 2 then -2 else S 8 + 1 := by unfold adB; rw [if_neg (by omega), if_neg (by omega)]
        have q2 : adS w x S = if S 8 = 2 then S else uA (uA (uA S (9 + S 8) x) (11 + S 8) w) 8 (S 8 + 1) := by
          unfold adS
          rw [q1]
          split <;> split <;> first | rfl | omega
        rcases (by omega : S 8 = 0 ∨ S 8 = 1 ∨ S 8 = 2) with e | e | e
        all_goals
          rw [q1, q2]
          simp only [e, Int.reduceEq, if_true, if_false, Int.reduceAdd]
          clear q1 q2
        · by_cases k1 : x < cl (S 6)
          · simp -dsimp (disch := omega) only [↓B1_bp, ↓B2_bp, BP_some, BQ_some, ↓reduceIte, L_0, L_1, L_2, L_3, L_4, L_5, L_6, L_7, L_8, L_9, L_10, L_11, L_12, L_13, L_54, L_14, L_99, L_20, L_30, L_31, L_60, L_19, i2_add, i2_sub, i2_mul, i2_neg, Int.reduceAdd, Int.reduceSub, Int.reduceMul, Int.reduceNeg, Int.reduceLT, Int.reduceLE, Int.reduceEq, i2_le, i2_lt, i2_eq, uA_self, uA_ne, tf_0, not_true_eq_false, not_false_eq_true, gk_st h, st_rd0 h, st_rd1 h, st_rd2 h, st_rd3 h, st_rd4 h, st_rd5 h, st_rd6 h, st_rd7 h, st_rd8 h, st_wr0 h, st_wr1 h, st_wr2 h, st_wr3 h, st_wr4 h, st_wr5 h, st_wr6 h, st_wr7 h, st_wr8 h, st_nR h, st_nW h, st_alR h, st_alW h, st_asR h, st_asW h, hr, e1, and_self, r6, r7, k1, hd, e3, r8, e]
            exact ⟨_, _, _, rfl, ⟨r0, r1, r2, r3, r4, r5⟩, ⟨r6, r7⟩, rfl, fun _ => ⟨rfl, rfl⟩, fun q => absurd q (by simp [uA])⟩
          · have k2 : ¬ x ≤ cl (S 7) := by omega
            simp -dsimp (disch := omega) only [↓B1_bp, ↓B2_bp, BP_some, BQ_some, ↓reduceIte, L_0, L_1, L_2, L_3, L_4, L_5, L_6, L_7, L_8, L_9, L_10, L_11, L_12, L_13, L_54, L_14, L_99, L_20, L_30, L_31, L_60, L_19, i2_add, i2_sub, i2_mul, i2_neg, Int.reduceAdd, Int.reduceSub, Int.reduceMul, Int.reduceNeg, Int.reduceLT, Int.reduceLE, Int.reduceEq, i2_le, i2_lt, i2_eq, uA_self, uA_ne, tf_0, not_true_eq_false, not_false_eq_true, gk_st h, st_rd0 h, st_rd1 h, st_rd2 h, st_rd3 h, st_rd4 h, st_rd5 h, st_rd6 h, st_rd7 h, st_rd8 h, st_wr0 h, st_wr1 h, st_wr2 h, st_wr3 h, st_wr4 h, st_wr5 h, st_wr6 h, st_wr7 h, st_wr8 h, st_nR h, st_nW h, st_alR h, st_alW h, st_asR h, st_asW h, hr, e1, and_self, r6, r7, k1, k2, hd, e3, r8, e]
            exact ⟨_, _, _, rfl, ⟨r0, r1, r2, r3, r4, r5⟩, ⟨r6, r7⟩, rfl, fun _ => ⟨rfl, rfl⟩, fun q => absurd q (by simp [uA])⟩
        · have qa := rA (by omega)
          by_cases k1 : x < cl (S 6)
          · simp -dsimp (disch := omega) only [↓B1_bp, ↓B2_bp, BP_some, BQ_some, ↓reduceIte, L_0, L_1, L_2, L_3, L_4, L_5, L_6, L_7, L_8, L_9, L_10, L_11, L_12, L_13, L_54, L_14, L_99, L_20, L_30, L_31, L_60, L_19, i2_add, i2_sub, i2_mul, i2_neg, Int.reduceAdd, Int.reduceSub, Int.reduceMul, Int.reduceNeg, Int.reduceLT, Int.reduceLE, Int.reduceEq, i2_le, i2_lt, i2_eq, uA_self, uA_ne, tf_0, not_true_eq_false, not_false_eq_true, gk_st h, st_rd0 h, st_rd1 h, st_rd2 h, st_rd3 h, st_rd4 h, st_rd5 h, st_rd6 h, st_rd7 h, st_rd8 h, st_wr0 h, st_wr1 h, st_wr2 h, st_wr3 h, st_wr4 h, st_wr5 h, st_wr6 h, st_wr7 h, st_wr8 h, st_nR h, st_nW h, st_alR h, st_alW h, st_asR h, st_asW h, hr, e1, and_self, r6, r7, k1, hd, e3, r8, e]
            exact ⟨_, _, _, rfl, ⟨r0, r1, r2, r3, r4, r5⟩, ⟨r6, r7⟩, rfl, fun _ => qa, fun _ => ⟨rfl, rfl⟩⟩
          · have k2 : ¬ x ≤ cl (S 7) := by omega
            simp -dsimp (disch := omega) only [↓B1_bp, ↓B2_bp, BP_some, BQ_some, ↓reduceIte, L_0, L_1, L_2, L_3, L_4, L_5, L_6, L_7, L_8, L_9, L_10, L_11, L_12, L_13, L_54, L_14, L_99, L_20, L_30, L_31, L_60, L_19, i2_add, i2_sub, i2_mul, i2_neg, Int.reduceAdd, Int.reduceSub, Int.reduceMul, Int.reduceNeg, Int.reduceLT, Int.reduceLE, Int.reduceEq, i2_le, i2_lt, i2_eq, uA_self, uA_ne, tf_0, not_true_eq_false, not_false_eq_true, gk_st h, st_rd0 h, st_rd1 h, st_rd2 h, st_rd3 h, st_rd4 h, st_rd5 h, st_rd6 h, st_rd7 h, st_rd8 h, st_wr0 h, st_wr1 h, st_wr2 h, st_wr3 h, st_wr4 h, st_wr5 h, st_wr6 h, st_wr7 h, st_wr8 h, st_nR h, st_nW h, st_alR h, st_alW h, st_asR h, st_asW h, hr, e1, and_self, r6, r7, k1, k2, hd, e3, r8, e]
            exact ⟨_, _, _, rfl, ⟨r0, r1, r2, r3, r4, r5⟩, ⟨r6, r7⟩, rfl, fun _ => qa, fun _ => ⟨rfl, rfl⟩⟩
        · by_cases k1 : x < cl (S 6)
          · simp -dsimp (disch := omega) only [↓B1_bp, ↓B2_bp, BP_some, BQ_some, ↓reduceIte, L_0, L_1, L_2, L_3, L_4, L_5, L_6, L_7, L_8, L_9, L_10, L_11, L_12, L_13, L_54, L_14, L_99, L_20, L_30, L_31, L_60, L_19, i2_add, i2_sub, i2_mul, i2_neg, Int.reduceAdd, Int.reduceSub, Int.reduceMul, Int.reduceNeg, Int.reduceLT, Int.reduceLE, Int.reduceEq, i2_le, i2_lt, i2_eq, uA_self, uA_ne, tf_0, not_true_eq_false, not_false_eq_true, gk_st h, st_rd0 h, st_rd1 h, st_rd2 h, st_rd3 h, st_rd4 h, st_rd5 h, st_rd6 h, st_rd7 h, st_rd8 h, st_wr0 h, st_wr1 h, st_wr2 h, st_wr3 h, st_wr4 h, st_wr5 h, st_wr6 h, st_wr7 h, st_wr8 h, st_nR h, st_nW h, st_alR h, st_alW h, st_asR h, st_asW h, hr, e1, and_self, r6, r7, k1, hd, e3, r8, e]
            exact ⟨C, R, W, rfl, r'⟩
          · have k2 : ¬ x ≤ cl (S 7) := by omega
            simp -dsimp (disch := omega) only [↓B1_bp, ↓B2_bp, BP_some, BQ_some, ↓reduceIte, L_0, L_1, L_2, L_3, L_4, L_5, L_6, L_7, L_8, L_9, L_10, L_11, L_12, L_13, L_54, L_14, L_99, L_20, L_30, L_31, L_60, L_19, i2_add, i2_sub, i2_mul, i2_neg, Int.reduceAdd, Int.reduceSub, Int.reduceMul, Int.reduceNeg, Int.reduceLT, Int.reduceLE, Int.reduceEq, i2_le, i2_lt, i2_eq, uA_self, uA_ne, tf_0, not_true_eq_false, not_false_eq_true, gk_st h, st_rd0 h, st_rd1 h, st_rd2 h, st_rd3 h, st_rd4 h, st_rd5 h, st_rd6 h, st_rd7 h, st_rd8 h, st_wr0 h, st_wr1 h, st_wr2 h, st_wr3 h, st_wr4 h, st_wr5 h, st_wr6 h, st_wr7 h, st_wr8 h, st_nR h, st_nW h, st_alR h, st_alW h, st_asR h, st_asW h, hr, e1, and_self, r6, r7, k1, k2, hd, e3, r8, e]
            exact ⟨C, R, W, rfl, r'⟩
      · have q1 : adB x S = -4 := by unfold adB; rw [if_neg (by omega), if_pos (Or.inr (by omega))]
        have q2 : adS w x S = S := by unfold adS; rw [if_pos (by omega)]
        rw [q1, q2]
        clear q1 q2
        by_cases k1 : x < cl (S 6)
        · simp -dsimp (disch := omega) only [↓B1_bp, ↓B2_bp, BP_some, BQ_some, ↓reduceIte, L_0, L_1, L_2, L_3, L_4, L_5, L_6, L_7, L_8, L_9, L_10, L_11, L_12, L_13, L_54, L_14, L_99, L_20, L_30, L_31, L_60, L_19, i2_add, i2_sub, i2_mul, i2_neg, Int.reduceAdd, Int.reduceSub, Int.reduceMul, Int.reduceNeg, Int.reduceLT, Int.reduceLE, Int.reduceEq, i2_le, i2_lt, i2_eq, uA_self, uA_ne, tf_0, not_true_eq_false, not_false_eq_true, gk_st h, st_rd0 h, st_rd1 h, st_rd2 h, st_rd3 h, st_rd4 h, st_rd5 h, st_rd6 h, st_rd7 h, st_rd8 h, st_wr0 h, st_wr1 h, st_wr2 h, st_wr3 h, st_wr4 h, st_wr5 h, st_wr6 h, st_wr7 h, st_wr8 h, st_nR h, st_nW h, st_alR h, st_alW h, st_asR h, st_asW h, hr, e1, and_self, r6, r7, k1, hd, e3]
          exact ⟨C, R, W, rfl, r'⟩
        · have k2 : ¬ x ≤ cl (S 7) := by omega
          simp -dsimp (disch := omega) only [↓B1_bp, ↓B2_bp, BP_some, BQ_some, ↓reduceIte, L_0, L_1, L_2, L_3, L_4, L_5, L_6, L_7, L_8, L_9, L_10, L_11, L_12, L_13, L_54, L_14, L_99, L_20, L_30, L_31, L_60, L_19, i2_add, i2_sub, i2_mul, i2_neg, Int.reduceAdd, Int.reduceSub, Int.reduceMul, Int.reduceNeg, Int.reduceLT, Int.reduceLE, Int.reduceEq, i2_le, i2_lt, i2_eq, uA_self, uA_ne, tf_0, not_true_eq_false, not_false_eq_true, gk_st h, st_rd0 h, st_rd1 h, st_rd2 h, st_rd3 h, st_rd4 h, st_rd5 h, st_rd6 h, st_rd7 h, st_rd8 h, st_wr0 h, st_wr1 h, st_wr2 h, st_wr3 h, st_wr4 h, st_wr5 h, st_wr6 h, st_wr7 h, st_wr8 h, st_nR h, st_nW h, st_alR h, st_alW h, st_asR h, st_asW h, hr, e1, and_self, r6, r7, k1, k2, hd, e3]
          exact ⟨C, R, W, rfl, r'⟩
  · have q1 : adB x S = -1 := by unfold adB; rw [if_pos e1]
    have q2 : adS w x S = S := by unfold adS; rw [if_pos (by omega)]
    simp -dsimp (disch := omega) only [↓B1_bp, ↓B2_bp, BP_some, BQ_some, ↓reduceIte, L_0, L_1, L_2, L_3, L_4, L_5, L_6, L_7, L_8, L_9, L_10, L_11, L_12, L_13, L_54, L_14, L_99, L_20, L_30, L_31, L_60, L_19, i2_add, i2_sub, i2_mul, i2_neg, Int.reduceAdd, Int.reduceSub, Int.reduceMul, Int.reduceNeg, Int.reduceLT, Int.reduceLE, Int.reduceEq, i2_le, i2_lt, i2_eq, uA_self, uA_ne, tf_0, not_true_eq_false, not_false_eq_true, gk_st h, st_rd0 h, st_rd1 h, st_rd2 h, st_rd3 h, st_rd4 h, st_rd5 h, st_rd6 h, st_rd7 h, st_rd8 h, st_wr0 h, st_wr1 h, st_wr2 h, st_wr3 h, st_wr4 h, st_wr5 h, st_wr6 h, st_wr7 h, st_wr8 h, st_nR h, st_nW h, st_alR h, st_alW h, st_asR h, st_asW h, hr, e1, q1, q2]
    exact ⟨C, R, W, rfl, r'⟩
theorem c_loseLadder (h : LayS M o) : fX7_loseLadder (stM M o C R W) o = some (stM M o (uA (uA C 6 (-9)) 7 (-9)) R W) := by
  unfold fX7_loseLadder
  simp -dsimp (disch := omega) only [↓B1_bp, ↓B2_bp, BP_some, BQ_some, ↓reduceIte, L_0, L_1, L_2, L_3, L_4, L_5, L_6, L_7, L_8, L_9, L_10, L_11, L_12, L_13, L_54, L_14, L_99, L_20, L_30, L_31, L_60, L_19, i2_add, i2_sub, i2_mul, i2_neg, Int.reduceAdd, Int.reduceSub, Int.reduceMul, Int.reduceNeg, Int.reduceLT, Int.reduceLE, Int.reduceEq, i2_le, i2_lt, i2_eq, uA_self, uA_ne, tf_0, not_true_eq_false, not_false_eq_true, gk_st h, st_rd0 h, st_rd1 h, st_rd2 h, st_rd3 h, st_rd4 h, st_rd5 h, st_rd6 h, st_rd7 h, st_rd8 h, st_wr0 h, st_wr1 h, st_wr2 h, st_wr3 h, st_wr4 h, st_wr5 h, st_wr6 h, st_wr7 h, st_wr8 h, st_nR h, st_nW h, st_alR h, st_alW h, st_asR h, st_asW h]
theorem c_begin (h : LayS M o) {kd a sh la : Int} : ∃ C', fX7_begin (stM M o C R W) o (i2 kd) (i2 a) (i2 sh) (i2 la) = some (stM M o C' R W) ∧ SR C' R W (newS kd a sh la) ∧ (∀ j : Int, 9 ≤ j → C' j = C j) := by
  unfold fX7_begin
  simp -dsimp (disch := omega) only [↓B1_bp, ↓B2_bp, BP_some, BQ_some, ↓reduceIte, L_0, L_1, L_2, L_3, L_4, L_5, L_6, L_7, L_8, L_9, L_10, L_11, L_12, L_13, L_54, L_14, L_99, L_20, L_30, L_31, L_60, L_19, i2_add, i2_sub, i2_mul, i2_neg, Int.reduceAdd, Int.reduceSub, Int.reduceMul, Int.reduceNeg, Int.reduceLT, Int.reduceLE, Int.reduceEq, i2_le, i2_lt, i2_eq, uA_self, uA_ne, tf_0, not_true_eq_false, not_false_eq_true, gk_st h, st_rd0 h, st_rd1 h, st_rd2 h, st_rd3 h, st_rd4 h, st_rd5 h, st_rd6 h, st_rd7 h, st_rd8 h, st_wr0 h, st_wr1 h, st_wr2 h, st_wr3 h, st_wr4 h, st_wr5 h, st_wr6 h, st_wr7 h, st_wr8 h, st_nR h, st_nW h, st_alR h, st_alW h, st_asR h, st_asW h, c_loseLadder h]
  refine ⟨_, rfl, ?_, fun j hj => ?_⟩
  · refine ⟨⟨?_, ?_, ?_, ?_, ?_, ?_⟩, ⟨?_, ?_⟩, ?_, fun q => absurd (show (1 : Int) ≤ 0 from q) (by decide), fun q => absurd (show (2 : Int) ≤ 0 from q) (by decide)⟩ <;> rfl
  · simp -dsimp (disch := omega) only [uA_ne]
end STF
