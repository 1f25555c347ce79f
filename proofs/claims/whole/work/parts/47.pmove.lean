section STF
variable {M : Mm} {o : Nat} {C R W S L : Int → Int}
set_option maxHeartbeats 4000000 in
theorem c_passMove (h : LayS M o) (r : SR C R W S) (g : GS S) (gl : GL L) {q : Nat} (q0 : q ≠ o) (q1 : q ≠ o + 1) (q2 : q ≠ o + 2) (hL : ∀ j : Int, 0 ≤ j → j < 8 → alI M q (i2 j) = some (i2 (L j))) {mv : Int} (m0 : 0 ≤ mv) (m3 : mv < 3) : ∃ (C' R' W' : Int → Int) (b : Int), fX7_passMove (stM M o C R W) o (i2 mv) q = some (i2 b, stM M o C' R' W') ∧ SR C' R' W' (mvS L mv S) ∧ (b = 0 ∨ b = 1) ∧ (b = 0 → mvS L mv (mvS L mv S) = mvS L mv S) := by
  obtain ⟨C1, R1, W1, hw, r1⟩ := c_loseWet h r g
  have g1 := g.lw
  have hh := c_hasLadder h r1 g1
  have hst := mvS_stop (L := L) (mv := mv) g (by omega)
  have em : mvS L mv S = if 0 ≤ lwS S 6 then ladS L mv (lwS S) else lwS S := by
    unfold mvS
    rw [if_neg (by omega)]
  rw [em] at hst ⊢
  generalize lwS S = T at r1 g1 hh hst hw ⊢
  unfold fX7_passMove
  by_cases h6 : 0 ≤ T 6
  · rw [if_pos h6] at hst ⊢
    have hd := dnP_b gl mv
    have hu := upP_b gl mv
    have kd := c_byKind h r1 g1 hd.1 hd.2
    have ku := c_byKind h r1 g1 hu.1 hu.2
    obtain ⟨vl, el, l0, l9, lm⟩ := c_lowest h r1 g1 gl h6
    obtain ⟨vh, eh, u0, u9, um⟩ := c_highest h r1 g1 gl h6
    have lm := lm mv
    have um := um mv
    have bd := byK_b (kd := T 0) g1.2.1.1 g1.2.1.2 hd.1 hd.2
    have bu := byK_b (kd := T 0) g1.2.1.1 g1.2.1.2 hu.1 hu.2
    have hlb := lowS_b gl g1 h6 mv
    have hhb := higS_b gl g1 h6 mv
    obtain ⟨g0, -, g2, g3, g4, g5, g6, g8, g9, g10, g11, g12, gd⟩ := g1
    obtain ⟨rr, ⟨r6, r7⟩, r8, rA, rB⟩ := r1
    have r6' : C1 6 = T 6 := r6.trans (cl_n _ h6)
    have r7' : C1 7 = T 7 := r7.trans (cl_n _ (by omega))
    have fin : SR (uA (uA C1 6 (lowS L mv T)) 7 (higS L mv T)) R1 W1 (ladS L mv T) := ⟨rr, ⟨(cl_n _ hlb.2.2.1).symm, (cl_n _ (show 0 ≤ higS L mv T by omega)).symm⟩, r8, rA, rB⟩
    have hL0 := hL 0 (by decide) (by decide)
    have hL1 := hL 1 (by decide) (by decide)
    have al : ∀ i : Int32, alI (stM M o C1 R1 W1) q i = alI M q i := fun i => st_al q i q0 q1 q2
    generalize hKD : byK (T 0) (T 1) (dnP L mv) = KD at kd bd lm
    generalize hKU : byK (T 0) (T 1) (upP L mv) = KU at ku bu um
    generalize lowS L mv T = lo at *
    generalize higS L mv T = hi at *
    unfold dnP at kd
    unfold upP at ku
    have st : ∀ b : Int, (b = 0 ∨ b = 1) → (b = 0 → lo = T 6 ∧ hi = T 7) → ∃ (C' R' W' : Int → Int) (b' : Int), some (i2 b, stM M o (uA (uA C1 6 lo) 7 hi) R1 W1) = some (i2 b', stM M o C' R' W') ∧ SR C' R' W' (ladS L mv T) ∧ (b' = 0 ∨ b' = 1) ∧ (b' = 0 → mvS L mv (ladS L mv T) = ladS L mv T) := fun b h1 h2 => ⟨_, _, _, b, rfl, fin, h1, fun e => hst (Or.inr (h2 e))⟩
    have hk2 : mv = 2 → KU = KD := fun e => by rw [← hKU, ← hKD, e]; rfl
    have b6 : 0 ≤ T 6 ∧ T 6 ≤ T 7 ∧ T 7 ≤ 99 := by omega
    have em : mv = 0 ∨ mv = 1 ∨ mv = 2 := by omega
    have bl : 0 ≤ lo ∧ lo ≤ T 6 := hlb.2.2
    have bh : T 7 ≤ hi ∧ hi ≤ 99 := hhb.2.2
    clear g0 g2 g3 g4 g5 g6 g8 g9 g10 g11 g12 gd rr r6 r7 r8 rA rB fin hst hlb hhb hL g gl hKD hKU hd hu r m0 m3
    rcases em with e | e | e <;> subst e <;> first | rw [hk2 rfl] at ku um | skip
    all_goals clear hk2
    all_goals simp only [Int.reduceEq, if_false, if_true] at kd ku
    all_goals
      simp -dsimp (disch := omega) only [↓B1_bp, ↓B2_bp, BP_some, BQ_some, ↓reduceIte, L_0, L_1, L_2, i2_add, i2_sub, i2_eq, tf_0, not_true_eq_false, not_false_eq_true, Int.reduceEq, gk_st h, st_rd6 h, st_rd7 h, st_wr6 h, st_wr7 h,  hw, hh, h6, al, hL0, hL1, kd, ku, el, eh, r6', r7', i2_max, i2_min, lm, um]
      (repeat' split) <;> refine st _ ?_ ?_ <;> first | exact Or.inl rfl | exact Or.inr rfl | (intro q; omega)
  · rw [if_neg h6] at hst ⊢
    simp -dsimp (disch := omega) only [↓B1_bp, ↓B2_bp, BP_some, BQ_some, ↓reduceIte, L_0, L_1, L_2, L_3, L_4, L_5, L_6, L_7, L_8, L_9, L_10, L_11, L_12, L_13, L_54, L_14, L_99, L_20, L_30, L_31, L_60, L_19, i2_add, i2_sub, i2_mul, i2_neg, Int.reduceAdd, Int.reduceSub, Int.reduceMul, Int.reduceNeg, Int.reduceLT, Int.reduceLE, Int.reduceEq, i2_le, i2_lt, i2_eq, uA_self, uA_ne, tf_0, not_true_eq_false, not_false_eq_true, gk_st h, st_rd0 h, st_rd1 h, st_rd2 h, st_rd3 h, st_rd4 h, st_rd5 h, st_rd6 h, st_rd7 h, st_rd8 h, st_wr0 h, st_wr1 h, st_wr2 h, st_wr3 h, st_wr4 h, st_wr5 h, st_wr6 h, st_wr7 h, st_wr8 h, st_nR h, st_nW h, st_alR h, st_alW h, st_asR h, st_asW h, hw, hh, h6]
    exact ⟨C1, R1, W1, 0, rfl, r1, Or.inl rfl, fun _ => hst (Or.inl h6)⟩
end STF
