/-! legs and ways, of one stocking -/
def it {α : Type} (f : α → α) : Nat → α → α
  | 0, x => x
  | n + 1, x => it f n (f x)
theorem it_fix {α : Type} {f : α → α} {x : α} (h : f x = x) : ∀ n : Nat, it f n x = x
  | 0 => rfl
  | n + 1 => by show it f n (f x) = x; rw [h]; exact it_fix h n
def legS (L : Int → Int) (what n : Int) (S : Int → Int) : Int → Int := it (mvS L what) (if what = 2 then 1 else n.toNat) S
def wayS (L wt nt : Int → Int) : Int → Nat → (Int → Int) → Int → Int
  | _, 0, S => S
  | i, d + 1, S => wayS L wt nt (i + 1) d (legS L (wt i) (nt i) S)
theorem GS.it {L S : Int → Int} {mv : Int} (gl : GL L) (g : GS S) : ∀ n : Nat, GS (it (mvS L mv) n S) := by
  intro n
  induction n generalizing S with
  | zero => exact g
  | succ n ih => exact ih (g.mv gl)
theorem GS.leg {L S : Int → Int} {what n : Int} (gl : GL L) (g : GS S) : GS (legS L what n S) := g.it gl _
theorem GS.way {L S wt nt : Int → Int} (gl : GL L) (g : GS S) (i : Int) (d : Nat) : GS (wayS L wt nt i d S) := by
  induction d generalizing i S with
  | zero => exact g
  | succ d ih => exact ih (g.leg gl) (i + 1)
theorem dry_dry {S : Int → Int} (m : Int) (m0 : 0 ≤ m) : dryS 1 (dryS m S) = dryS (m + 1) S := by
  funext j
  have e8 : dryS m S 8 = S 8 := by unfold dryS; rw [if_neg (by omega)]
  show (if (j = 11 ∧ 1 ≤ dryS m S 8) ∨ (j = 12 ∧ 2 ≤ dryS m S 8) then max 0 (dryS m S j - 1) else dryS m S j) = _
  rw [e8]
  unfold dryS
  split <;> omega
theorem dry_0 {S : Int → Int} (g : GS S) : dryS 0 S = S := by
  obtain ⟨g0, g1, g2, g3, g4, g5, g6, g8, g9, g10, g11, g12, gd⟩ := g
  funext j
  unfold dryS
  split
  · rename_i h
    rcases h with ⟨rfl, -⟩ | ⟨rfl, -⟩ <;> omega
  · rfl
theorem it_dry {L S : Int → Int} (m : Int) (m0 : 0 ≤ m) : ∀ n : Nat, it (mvS L 3) n (dryS m S) = dryS (m + n) S := by
  intro n
  induction n generalizing m with
  | zero => show dryS m S = _; congr 1; omega
  | succ n ih =>
    show it (mvS L 3) n (mvS L 3 (dryS m S)) = _
    have e : mvS L 3 (dryS m S) = dryS (m + 1) S := by
      unfold mvS
      rw [if_pos rfl, dry_dry m m0]
    rw [e, ih (m + 1) (by omega)]
    congr 1
    omega
theorem leg_3 {L S : Int → Int} {n : Int} (g : GS S) (n0 : 0 ≤ n) : legS L 3 n S = dryS n S := by
  unfold legS
  rw [if_neg (by decide)]
  have := it_dry (L := L) (S := S) 0 (by decide) n.toNat
  rw [dry_0 g] at this
  rw [this]
  congr 1
  omega
section STF
variable {M : Mm} {o : Nat} {C R W S L : Int → Int}
theorem c_stand (h : LayS M o) (r : SR C R W S) (g : GS S) {m : Int} (m0 : 0 ≤ m) (m9 : m ≤ 60) : ∃ C' R' W', fX7_stand (stM M o C R W) o (i2 m) = some (stM M o C' R' W') ∧ SR C' R' W' (dryS m S) := by
  obtain ⟨n, hn⟩ := FL3
  obtain ⟨g0, g1, g2, g3, g4, g5, g6, g8, g9, g10, g11, g12, gd⟩ := g
  obtain ⟨⟨r0, r1, r2, r3, r4, r5⟩, ⟨r6, r7⟩, r8, rA, rB⟩ := r
  have e8 : dryS m S 8 = S 8 := by unfold dryS; rw [if_neg (by omega)]
  have fin : ∀ R' W' : Int → Int, (1 ≤ S 8 → R' 0 = S 9 ∧ W' 0 = dryS m S 11) → (2 ≤ S 8 → R' 1 = S 10 ∧ W' 1 = dryS m S 12) → SR C R' W' (dryS m S) := fun R' W' e3 e4 => ⟨⟨r0, r1, r2, r3, r4, r5⟩, ⟨r6, r7⟩, r8, fun q => e3 (by rw [← e8]; exact q), fun q => e4 (by rw [← e8]; exact q)⟩
  unfold fX7_stand
  rw [hn]
  rcases (by omega : S 8 = 0 ∨ S 8 = 1 ∨ S 8 = 2) with e | e | e
  · simp -dsimp (disch := omega) only [fX7_stand_L2, ↓B1_bp, ↓B2_bp, BP_some, BQ_some, ↓reduceIte, L_0, L_1, L_2, L_3, L_4, L_5, L_6, L_7, L_8, L_9, L_10, L_11, L_12, L_13, L_54, L_14, L_99, L_20, L_30, L_31, L_60, L_19, i2_add, i2_sub, i2_mul, i2_neg, Int.reduceAdd, Int.reduceSub, Int.reduceMul, Int.reduceNeg, Int.reduceLT, Int.reduceLE, Int.reduceEq, i2_le, i2_lt, i2_eq, uA_self, uA_ne, tf_0, not_true_eq_false, not_false_eq_true, gk_st h, st_rd0 h, st_rd1 h, st_rd2 h, st_rd3 h, st_rd4 h, st_rd5 h, st_rd6 h, st_rd7 h, st_rd8 h, st_wr0 h, st_wr1 h, st_wr2 h, st_wr3 h, st_wr4 h, st_wr5 h, st_wr6 h, st_wr7 h, st_wr8 h, st_nR h, st_nW h, st_alR h, st_alW h, st_asR h, st_asW h, r8, e]
    exact ⟨_, _, _, rfl, fin _ _ (fun q => by omega) (fun q => by omega)⟩
  · have q := rA (by omega)
    simp -dsimp (disch := omega) only [fX7_stand_L2, ↓B1_bp, ↓B2_bp, BP_some, BQ_some, ↓reduceIte, L_0, L_1, L_2, L_3, L_4, L_5, L_6, L_7, L_8, L_9, L_10, L_11, L_12, L_13, L_54, L_14, L_99, L_20, L_30, L_31, L_60, L_19, i2_add, i2_sub, i2_mul, i2_neg, Int.reduceAdd, Int.reduceSub, Int.reduceMul, Int.reduceNeg, Int.reduceLT, Int.reduceLE, Int.reduceEq, i2_le, i2_lt, i2_eq, uA_self, uA_ne, tf_0, not_true_eq_false, not_false_eq_true, gk_st h, st_rd0 h, st_rd1 h, st_rd2 h, st_rd3 h, st_rd4 h, st_rd5 h, st_rd6 h, st_rd7 h, st_rd8 h, st_wr0 h, st_wr1 h, st_wr2 h, st_wr3 h, st_wr4 h, st_wr5 h, st_wr6 h, st_wr7 h, st_wr8 h, st_nR h, st_nW h, st_alR h, st_alW h, st_asR h, st_asW h, r8, e, q.1, q.2, i2_max]
    exact ⟨_, _, _, rfl, fin _ _ (fun _ => ⟨q.1, by simp [dryS, uA, e, q.2]⟩) (fun q => by omega)⟩
  · have q := rA (by omega)
    have q2 := rB (by omega)
    simp -dsimp (disch := omega) only [fX7_stand_L2, ↓B1_bp, ↓B2_bp, BP_some, BQ_some, ↓reduceIte, L_0, L_1, L_2, L_3, L_4, L_5, L_6, L_7, L_8, L_9, L_10, L_11, L_12, L_13, L_54, L_14, L_99, L_20, L_30, L_31, L_60, L_19, i2_add, i2_sub, i2_mul, i2_neg, Int.reduceAdd, Int.reduceSub, Int.reduceMul, Int.reduceNeg, Int.reduceLT, Int.reduceLE, Int.reduceEq, i2_le, i2_lt, i2_eq, uA_self, uA_ne, tf_0, not_true_eq_false, not_false_eq_true, gk_st h, st_rd0 h, st_rd1 h, st_rd2 h, st_rd3 h, st_rd4 h, st_rd5 h, st_rd6 h, st_rd7 h, st_rd8 h, st_wr0 h, st_wr1 h, st_wr2 h, st_wr3 h, st_wr4 h, st_wr5 h, st_wr6 h, st_wr7 h, st_wr8 h, st_nR h, st_nW h, st_alR h, st_alW h, st_asR h, st_asW h, r8, e, q.1, q.2, q2.1, q2.2, i2_max]
    exact ⟨_, _, _, rfl, fin _ _ (fun _ => ⟨q.1, by simp [dryS, uA, e, q.2]⟩) (fun _ => ⟨q2.1, by simp [dryS, uA, e, q2.2]⟩)⟩
theorem c_passLeg_L (h : LayS M o) (gl : GL L) {q : Nat} (q0 : q ≠ o) (q1 : q ≠ o + 1) (q2 : q ≠ o + 2) (hL : ∀ j : Int, 0 ≤ j → j < 8 → alI M q (i2 j) = some (i2 (L j))) {mv m : Int} (m0 : 0 ≤ mv) (m3 : mv < 3) (mm : m ≤ 60) : ∀ (d N : Nat) (i : Int) (C R W S : Int → Int) (b : Int), d < N → 0 ≤ i → i + d = m → SR C R W S → GS S → (b = 0 ∨ b = 1) → (b = 0 → mvS L mv S = S) → ∃ C' R' W', fX7_passLeg_L29 o (i2 mv) q (i2 m) N (i2 b) (i2 i) (stM M o C R W) = some (stM M o C' R' W') ∧ SR C' R' W' (it (mvS L mv) d S) := by
  intro d
  induction d with
  | zero =>
    intro N i C R W S b hN i0 im r g hb hf
    obtain ⟨N, rfl⟩ : ∃ k, N = k + 1 := ⟨N - 1, by omega⟩
    simp -dsimp (disch := omega) only [fX7_passLeg_L29, ↓B1_bp, ↓B2_bp, BP_some, BQ_some, ↓reduceIte, L_0, L_1, L_2, L_3, L_4, L_5, L_6, L_7, L_8, L_9, L_10, L_11, L_12, L_13, L_54, L_14, L_99, L_20, L_30, L_31, L_60, L_19, i2_add, i2_sub, i2_mul, i2_neg, Int.reduceAdd, Int.reduceSub, Int.reduceMul, Int.reduceNeg, Int.reduceLT, Int.reduceLE, Int.reduceEq, i2_le, i2_lt, i2_eq, uA_self, uA_ne, tf_0, not_true_eq_false, not_false_eq_true]
    rw [if_pos (by omega)]
    exact ⟨C, R, W, rfl, r⟩
  | succ d ih =>
    intro N i C R W S b hN i0 im r g hb hf
    obtain ⟨N, rfl⟩ : ∃ k, N = k + 1 := ⟨N - 1, by omega⟩
    rcases hb with rfl | rfl
    · simp -dsimp (disch := omega) only [fX7_passLeg_L29, ↓B1_bp, ↓B2_bp, BP_some, BQ_some, ↓reduceIte, L_0, L_1, L_2, L_3, L_4, L_5, L_6, L_7, L_8, L_9, L_10, L_11, L_12, L_13, L_54, L_14, L_99, L_20, L_30, L_31, L_60, L_19, i2_add, i2_sub, i2_mul, i2_neg, Int.reduceAdd, Int.reduceSub, Int.reduceMul, Int.reduceNeg, Int.reduceLT, Int.reduceLE, Int.reduceEq, i2_le, i2_lt, i2_eq, uA_self, uA_ne, tf_0, not_true_eq_false, not_false_eq_true]
      rw [if_neg (by omega)]
      refine ⟨C, R, W, rfl, ?_⟩
      rw [it_fix (hf rfl)]
      exact r
    · obtain ⟨C1, R1, W1, b1, e1, r1, hb1, hf1⟩ := c_passMove h r g gl q0 q1 q2 hL m0 m3
      simp -dsimp (disch := omega) only [fX7_passLeg_L29, ↓B1_bp, ↓B2_bp, BP_some, BQ_some, ↓reduceIte, L_0, L_1, L_2, L_3, L_4, L_5, L_6, L_7, L_8, L_9, L_10, L_11, L_12, L_13, L_54, L_14, L_99, L_20, L_30, L_31, L_60, L_19, i2_add, i2_sub, i2_mul, i2_neg, Int.reduceAdd, Int.reduceSub, Int.reduceMul, Int.reduceNeg, Int.reduceLT, Int.reduceLE, Int.reduceEq, i2_le, i2_lt, i2_eq, uA_self, uA_ne, tf_0, not_true_eq_false, not_false_eq_true, gk_st h, e1]
      rw [if_neg (by omega)]
      exact ih N (i + 1) C1 R1 W1 _ b1 (by omega) (by omega) (by omega) r1 (g.mv gl) hb1 hf1
theorem c_passLeg (h : LayS M o) (r : SR C R W S) (g : GS S) (gl : GL L) {q : Nat} (q0 : q ≠ o) (q1 : q ≠ o + 1) (q2 : q ≠ o + 2) (hL : ∀ j : Int, 0 ≤ j → j < 8 → alI M q (i2 j) = some (i2 (L j))) {mv n : Int} (m0 : 0 ≤ mv) (m3 : mv ≤ 3) (n0 : 1 ≤ n) (n9 : n ≤ 60) : ∃ C' R' W', fX7_passLeg (stM M o C R W) o (i2 mv) (i2 n) q = some (stM M o C' R' W') ∧ SR C' R' W' (legS L mv n S) := by
  unfold fX7_passLeg
  by_cases e3 : mv = 3
  · subst e3
    obtain ⟨C1, R1, W1, e1, r1⟩ := c_stand h r g (m := n) (by omega) n9
    simp -dsimp (disch := omega) only [↓B1_bp, ↓B2_bp, BP_some, BQ_some, ↓reduceIte, L_0, L_1, L_2, L_3, L_4, L_5, L_6, L_7, L_8, L_9, L_10, L_11, L_12, L_13, L_54, L_14, L_99, L_20, L_30, L_31, L_60, L_19, i2_add, i2_sub, i2_mul, i2_neg, Int.reduceAdd, Int.reduceSub, Int.reduceMul, Int.reduceNeg, Int.reduceLT, Int.reduceLE, Int.reduceEq, i2_le, i2_lt, i2_eq, uA_self, uA_ne, tf_0, not_true_eq_false, not_false_eq_true, gk_st h, e1]
    exact ⟨C1, R1, W1, rfl, by rw [leg_3 g (by omega)]; exact r1⟩
  · by_cases e2 : mv = 2
    · subst e2
      have k := c_passLeg_L h gl q0 q1 q2 hL (mv := 2) (m := 1) (by decide) (by decide) (by decide) 1 FL 0 C R W S 1 (by decide) (by decide) (by decide) r g (Or.inr rfl) (fun q => by cases q)
      simp -dsimp (disch := omega) only [↓B1_bp, ↓B2_bp, BP_some, BQ_some, ↓reduceIte, L_0, L_1, L_2, L_3, L_4, L_5, L_6, L_7, L_8, L_9, L_10, L_11, L_12, L_13, L_54, L_14, L_99, L_20, L_30, L_31, L_60, L_19, i2_add, i2_sub, i2_mul, i2_neg, Int.reduceAdd, Int.reduceSub, Int.reduceMul, Int.reduceNeg, Int.reduceLT, Int.reduceLE, Int.reduceEq, i2_le, i2_lt, i2_eq, uA_self, uA_ne, tf_0, not_true_eq_false, not_false_eq_true]
      exact k
    · have k := c_passLeg_L h gl q0 q1 q2 hL (mv := mv) (m := n) m0 (by omega) n9 n.toNat FL 0 C R W S 1 (by show n.toNat < 4096; omega) (by decide) (by omega) r g (Or.inr rfl) (fun q => by cases q)
      simp -dsimp (disch := omega) only [↓B1_bp, ↓B2_bp, BP_some, BQ_some, ↓reduceIte, L_0, L_1, L_2, L_3, L_4, L_5, L_6, L_7, L_8, L_9, L_10, L_11, L_12, L_13, L_54, L_14, L_99, L_20, L_30, L_31, L_60, L_19, i2_add, i2_sub, i2_mul, i2_neg, Int.reduceAdd, Int.reduceSub, Int.reduceMul, Int.reduceNeg, Int.reduceLT, Int.reduceLE, Int.reduceEq, i2_le, i2_lt, i2_eq, uA_self, uA_ne, tf_0, not_true_eq_false, not_false_eq_true, if_neg e3, if_neg e2]
      unfold legS
      rw [if_neg e2]
      exact k
end STF
