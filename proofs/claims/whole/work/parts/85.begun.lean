section BEGUN
variable {M : Mm} {A : Int → Int}
/-- a stocking begun with a ladder of one rung -/
def bg0 (S : Int → Int) (r : Int) : Int → Int := uA (uA (uA S 8 0) 6 r) 7 r
def bgT (A : Int → Int) (k w i r : Int) : Int → Int := wayS (lwA A) (wtA A w) (ntA A w) i (A (12 + w) - i).toNat (bg0 (stA A k) r)
def bgV (A : Int → Int) (k w i r : Int) : Int := tf (bgT A k w i r 6 = stA A k 6 ∧ bgT A k w i r 7 = stA A k 7)
theorem bgV_01 (A : Int → Int) (k w i r : Int) : bgV A k w i r = 0 ∨ bgV A k w i r = 1 := by
  unfold bgV tf
  split
  · exact Or.inr rfl
  · exact Or.inl rfl
theorem bg0_gs {S : Int → Int} (g : GS S) {r : Int} (r0 : 0 ≤ r) (r9 : r ≤ 99) : GS (bg0 S r) := by
  obtain ⟨a0, a1, a2, a3, a4, a5, a6, a8, a9, a10, a11, a12, a⟩ := g
  exact ⟨a0, a1, a2, a3, a4, a5, Or.inr ⟨r0, Int.le_refl r, r9⟩, ⟨Int.le_refl 0, (by decide : (0 : Int) ≤ 2)⟩, a9, a10, a11, a12, fun z => absurd (show (0 : Int) = 2 from z) (by decide)⟩
/-- two stockings of one kind and one ladder, both without a dab -/
def Bg (S S' : Int → Int) : Prop := (S 0 = S' 0 ∧ S 1 = S' 1) ∧ (S 6 = S' 6 ∧ S 7 = S' 7) ∧ S 8 = 0 ∧ S' 8 = 0
theorem lw_8 {S : Int → Int} (h : S 8 = 0) : lwS S 8 = 0 := by
  show tf (1 ≤ S 8 ∧ S 11 = 0) + tf (2 ≤ S 8 ∧ S 12 = 0) = 0
  rw [h, tf_f (fun z => absurd z.1 (by decide)), tf_f (fun z => absurd z.1 (by decide))]
  rfl
theorem lad_8 {L S : Int → Int} {mv : Int} (h : S 8 = 0) : lowS L mv S = lo0 L mv S ∧ higS L mv S = hi0 L mv S := by
  unfold lowS higS lo1 hi1
  rw [h]
  refine ⟨?_, ?_⟩
  · rw [if_neg (fun z => absurd z.1 (by decide)), if_neg (fun z => absurd z.1 (by decide))]
  · rw [if_neg (fun z => absurd z.1 (by decide)), if_neg (fun z => absurd z.1 (by decide))]
theorem Bg.mv {L S S' : Int → Int} (h : Bg S S') (mv : Int) : Bg (mvS L mv S) (mvS L mv S') := by
  obtain ⟨⟨h0, h1⟩, ⟨h6, h7⟩, h8, h8'⟩ := h
  unfold mvS
  by_cases e : mv = 3
  · rw [if_pos e, if_pos e]
    exact ⟨⟨h0, h1⟩, ⟨h6, h7⟩, h8, h8'⟩
  · rw [if_neg e, if_neg e]
    have l0 : ∀ S : Int → Int, lwS S 0 = S 0 := fun S => lwS_at S (by decide) (by decide) (by decide)
    have l1 : ∀ S : Int → Int, lwS S 1 = S 1 := fun S => lwS_at S (by decide) (by decide) (by decide)
    have l6 : ∀ S : Int → Int, lwS S 6 = S 6 := fun S => lwS_at S (by decide) (by decide) (by decide)
    have l7 : ∀ S : Int → Int, lwS S 7 = S 7 := fun S => lwS_at S (by decide) (by decide) (by decide)
    by_cases q : 0 ≤ S 6
    · rw [if_pos (by rw [l6]; exact q), if_pos (by rw [l6]; omega)]
      have k1 := lad_8 (L := L) (mv := mv) (lw_8 h8)
      have k2 := lad_8 (L := L) (mv := mv) (lw_8 h8')
      have e1 : lo0 L mv (lwS S) = lo0 L mv (lwS S') := by
        unfold lo0
        rw [l0, l1, l6, l0, l1, l6, h0, h1, h6]
      have e2 : hi0 L mv (lwS S) = hi0 L mv (lwS S') := by
        unfold hi0
        rw [l0, l1, l7, l0, l1, l7, h0, h1, h7]
      refine ⟨⟨?_, ?_⟩, ⟨?_, ?_⟩, ?_, ?_⟩
      · show lwS S 0 = lwS S' 0
        rw [l0, l0, h0]
      · show lwS S 1 = lwS S' 1
        rw [l1, l1, h1]
      · show lowS L mv (lwS S) = lowS L mv (lwS S')
        rw [k1.1, k2.1, e1]
      · show higS L mv (lwS S) = higS L mv (lwS S')
        rw [k1.2, k2.2, e2]
      · exact lw_8 h8
      · exact lw_8 h8'
    · rw [if_neg (by rw [l6]; exact q), if_neg (by rw [l6]; omega)]
      exact ⟨⟨by rw [l0, l0, h0], by rw [l1, l1, h1]⟩, ⟨by rw [l6, l6, h6], by rw [l7, l7, h7]⟩, lw_8 h8, lw_8 h8'⟩
theorem Bg.it {L : Int → Int} {mv : Int} : ∀ (n : Nat) (S S' : Int → Int), Bg S S' → Bg (it (mvS L mv) n S) (it (mvS L mv) n S')
  | 0, _, _, h => h
  | n + 1, _, _, h => Bg.it n _ _ (h.mv mv)
theorem Bg.way {L wt nt : Int → Int} : ∀ (d : Nat) (i : Int) (S S' : Int → Int), Bg S S' → Bg (wayS L wt nt i d S) (wayS L wt nt i d S')
  | 0, _, _, _, h => h
  | d + 1, i, _, _, h => Bg.way d (i + 1) _ _ (Bg.it _ _ _ h)
/-- a ladder never closes -/
def Gr (S T : Int → Int) : Prop := T 6 ≤ S 6 ∧ S 7 ≤ T 7
theorem gr_mv {L S : Int → Int} {mv : Int} (gl : GL L) (g : GS S) (h : 0 ≤ S 6) : Gr S (mvS L mv S) := by
  have l6 : lwS S 6 = S 6 := lwS_at S (by decide) (by decide) (by decide)
  have l7 : lwS S 7 = S 7 := lwS_at S (by decide) (by decide) (by decide)
  unfold mvS
  split
  · exact ⟨Int.le_refl (S 6), Int.le_refl (S 7)⟩
  · rw [if_pos (by omega)]
    have a := (lowS_b gl g.lw (by omega) mv).2.2.2
    have b := (higS_b gl g.lw (by omega) mv).2.2.1
    exact ⟨by rw [l6] at a; exact a, by rw [l7] at b; exact b⟩
theorem gr_it {L S : Int → Int} {mv : Int} (gl : GL L) (g : GS S) (h : 0 ≤ S 6) : ∀ n : Nat, Gr S (it (mvS L mv) n S) := by
  intro n
  induction n generalizing S with
  | zero => exact ⟨Int.le_refl _, Int.le_refl _⟩
  | succ n ih =>
    have a := gr_mv (mv := mv) gl g h
    have b := ih (S := mvS L mv S) (g.mv gl) (ld_mv gl g h)
    exact ⟨Int.le_trans b.1 a.1, Int.le_trans a.2 b.2⟩
theorem gr_way {L wt nt : Int → Int} (gl : GL L) : ∀ (d : Nat) (i : Int) (S : Int → Int), GS S → 0 ≤ S 6 → Gr S (wayS L wt nt i d S)
  | 0, _, S, _, _ => ⟨Int.le_refl _, Int.le_refl _⟩
  | d + 1, i, S, g, h => by
    have a := gr_it (mv := wt i) gl g h (if wt i = 2 then 1 else (nt i).toNat)
    have b := gr_way (wt := wt) (nt := nt) gl d (i + 1) _ (g.leg (what := wt i) (n := nt i) gl) (ld_it gl g h _)
    exact ⟨Int.le_trans b.1 a.1, Int.le_trans a.2 b.2⟩
theorem bgV_out (g : GA A) {k w i r : Int} (k0 : 0 ≤ k) (k1 : k < A 0) (r0 : 0 ≤ r) (r9 : r ≤ 99) (o : r < stA A k 6 ∨ stA A k 7 < r) : bgV A k w i r = 0 := by
  have gs := g.2.2.2.2.2.2.2 k k0 k1
  have q := gr_way (wt := wtA A w) (nt := ntA A w) g.2.2.2.2.2.1 (A (12 + w) - i).toNat i _ (bg0_gs gs r0 r9) (show 0 ≤ bg0 (stA A k) r 6 from r0)
  have a : bgT A k w i r 6 ≤ r := q.1
  have b : r ≤ bgT A k w i r 7 := q.2
  unfold bgV
  rw [tf_f]
  omega
/-- the component's own -/
def BgP (p : Nat) : Prop := 106 ≤ p ∧ p < 109
theorem BgP.scr {X : Mm} (h : SmP BgP M X) : SmP Scr M X := ⟨h.1, fun p hp => h.2 p fun q => hp (by unfold BgP at q; unfold Scr; omega)⟩
theorem BgP.of {X : Mm} {lo hi : Nat} (h : Same M X lo hi) (h1 : 106 ≤ lo) (h2 : hi ≤ 109) : SmP BgP M X := SmP.of h fun p a b => by unfold BgP; omega
theorem BgP.cr {X : Mm} (h : SmP BgP M X) (g : GA A) (c : CR M 1 A) : CR X 1 A := c.sm h (fun p a b q => by unfold BgP at q; omega) g.1.2
theorem t_d106 (h : LayC M) : LayS M 106 := h.2.2.2.2.2.1
theorem c_hasBegun (h : LayC M) (c : CR M 1 A) (g : GA A) {k : Nat} {w i r : Int} (hk : (k : Int) < A 0) (e : 0 ≤ w ∧ w ≤ 1) (i0 : 0 ≤ i) (i9 : i ≤ A (12 + w)) (r0 : 0 ≤ r) (r9 : r ≤ 99) (hl : 0 ≤ stA A k 6) : ∃ X, fX11_hasBegun M 0 (1 + 11 + 3 * k) (1 + 5 + 3 * w.toNat) (i2 i) (i2 r) = some (i2 (bgV A k w i r), X) ∧ SmP BgP M X := by
  have g0 := g.1
  have gc := g_wcnt g e
  have gs := g.2.2.2.2.2.2.2 k (by omega) hk
  obtain ⟨⟨f0, f1, f2, f3⟩, ⟨f4, f5, f6, f7⟩, f8⟩ := d_fld (t_d1 h) c g hk
  obtain ⟨C1, p1, r1, -⟩ := c_begin (C := gI M 106) (R := gI M (106 + 1)) (W := gI M (106 + 2)) (t_d106 h) (kd := stA A k 0) (a := stA A k 1) (sh := 0) (la := 1)
  rw [st_self] at p1
  have s1 : SmP BgP M (stM M 106 C1 (gI M (106 + 1)) (gI M (106 + 2))) := BgP.of (Same.st M 106 _ _ _) (by decide) (by decide)
  have gn : GS (newS (stA A k 0) (stA A k 1) 0 1) := GS.new gs.1 gs.2.1 (by decide) (by decide)
  obtain ⟨C2, p2, r2⟩ := c_beginLadder (t_d106 h) r1 gn r0 r9
  have nl : ¬ 0 ≤ newS (stA A k 0) (stA A k 1) 0 1 6 ∧ dabC (newS (stA A k 0) (stA A k 1) 0 1) r < 0 := ⟨(by decide : ¬ 0 ≤ (-1 : Int)), by
    show (if 1 ≤ (0 : Int) ∧ (0 : Int) = r then (0 : Int) else if 2 ≤ (0 : Int) ∧ (0 : Int) = r then 1 else -1) < 0
    rw [if_neg (fun z => absurd z.1 (by decide)), if_neg (fun z => absurd z.1 (by decide))]
    decide⟩
  rw [tf_t nl] at p2
  rw [if_pos nl] at r2
  have s2 : SmP BgP M (stM M 106 C2 (gI M (106 + 1)) (gI M (106 + 2))) := BgP.of (Same.st M 106 _ _ _) (by decide) (by decide)
  have h1 := h.sm s1
  have h2 := h.sm s2
  have c2 := BgP.cr s2 g c
  have g2 : GS (snagS r (newS (stA A k 0) (stA A k 1) 0 1)) := gn.snag r0 r9
  have wr2 := d_wrx (t_d1 h2) c2 g e
  obtain ⟨X3, p3, r3, s3⟩ := c_sPass (t_d106 h2) (SRm.st r2 g2) g2 g.2.2.2.2.2.1 (d_law (t_d1 h2) c2) wr2 (by unfold Off; omega) (by unfold Off; omega) (by unfold Off; omega) (by unfold Off; omega) (fr := i) (to := A (12 + w)) (by omega) i0 (by omega)
  rw [show min (A (12 + w)) (A (12 + w)) = A (12 + w) by omega] at r3
  have s3' := BgP.of s3 (by decide) (by decide)
  have h3 := h2.sm s3'
  have c3 := BgP.cr s3' g c2
  obtain ⟨-, ⟨-, -, F6, F7⟩, -⟩ := d_fld (t_d1 h3) c3 g hk
  have bg : Bg (wayS (lwA A) (wtA A w) (ntA A w) i (A (12 + w) - i).toNat (snagS r (newS (stA A k 0) (stA A k 1) 0 1))) (bgT A k w i r) := Bg.way _ _ _ _ ⟨⟨rfl, rfl⟩, ⟨rfl, rfl⟩, rfl, rfl⟩
  have gT : GS (bgT A k w i r) := (bg0_gs gs r0 r9).way g.2.2.2.2.2.1 _ _
  have lT : 0 ≤ bgT A k w i r 6 := ld_way g.2.2.2.2.2.1 _ _ _ (bg0_gs gs r0 r9) r0
  obtain ⟨-, ⟨T6, T7⟩, -⟩ := r3
  rw [bg.2.1.1, cl_n _ lT] at T6
  have gT7 := gT.2.2.2.2.2.2.1
  have gs7 := gs.2.2.2.2.2.2.1
  rw [bg.2.1.2, cl_n _ (by omega)] at T7
  rw [cl_n _ hl] at F6
  rw [cl_n _ (by omega)] at F7
  have rd6 : rdI X3 106 10 6 = some (i2 (bgT A k w i r 6)) := by
    rw [g_rdI (t_d106 h3).1, ← T6]
    rfl
  have rd7 : rdI X3 106 10 7 = some (i2 (bgT A k w i r 7)) := by
    rw [g_rdI (t_d106 h3).1, ← T7]
    rfl
  refine ⟨X3, ?_, s2.tr s3'⟩
  have b0 := t_begun h
  have b1 := t_begun h1
  have b2 := t_begun h2
  have b3 := t_begun h3
  have n2 := t_now h2
  have l2 := d_laws (t_d1 h2)
  have w2 := wr2.2.1
  have k0 : gk M 106 10 = some () := if_pos (t_d106 h).1
  have k1 : gk (stM M 106 C1 (gI M (106 + 1)) (gI M (106 + 2))) 106 10 = some () := if_pos (t_d106 h1).1
  have k2 : gk (stM M 106 C2 (gI M (106 + 1)) (gI M (106 + 2))) 106 10 = some () := if_pos (t_d106 h2).1
  unfold bgV
  generalize bgT A k w i r 6 = v6 at rd6 gT7 lT ⊢
  generalize bgT A k w i r 7 = v7 at rd7 gT7 ⊢
  clear gT bg g2 gn wr2 c2 c3 g r1 r2 s3 T6 T7 s1 s2 s3'
  unfold fX11_hasBegun
  by_cases q6 : v6 = stA A k 6
  · by_cases q7 : v7 = stA A k 7
    · rw [tf_t ⟨q6, q7⟩]
      rw [q6] at rd6
      rw [q7] at rd7
      simp -dsimp (disch := omega) only [↓B1_bp, ↓B2_bp, BP_some, BQ_some, ↓reduceIte, L_0, L_1, L_2, L_3, L_4, L_5, L_6, L_7, L_8, L_9, L_10, L_11, L_12, L_13, L_54, L_14, L_99, L_20, L_30, L_31, L_60, L_19, i2_add, i2_sub, i2_mul, i2_neg, Int.reduceAdd, Int.reduceSub, Int.reduceMul, Int.reduceNeg, Int.reduceLT, Int.reduceLE, Int.reduceEq, i2_le, i2_lt, i2_eq, uA_self, uA_ne, tf_0, not_true_eq_false, not_false_eq_true, b0, f0, f1, k0, p1, b1, k1, p2, b2, w2, n2, l2, k2, p3, b3, rd6, F6, rd7, F7]
    · rw [tf_f (fun z => q7 z.2)]
      rw [q6] at rd6
      simp -dsimp (disch := omega) only [↓B1_bp, ↓B2_bp, BP_some, BQ_some, ↓reduceIte, L_0, L_1, L_2, L_3, L_4, L_5, L_6, L_7, L_8, L_9, L_10, L_11, L_12, L_13, L_54, L_14, L_99, L_20, L_30, L_31, L_60, L_19, i2_add, i2_sub, i2_mul, i2_neg, Int.reduceAdd, Int.reduceSub, Int.reduceMul, Int.reduceNeg, Int.reduceLT, Int.reduceLE, Int.reduceEq, i2_le, i2_lt, i2_eq, uA_self, uA_ne, tf_0, not_true_eq_false, not_false_eq_true, b0, f0, f1, k0, p1, b1, k1, p2, b2, w2, n2, l2, k2, p3, b3, rd6, F6, rd7, F7, q7, if_false]
  · rw [tf_f (fun z => q6 z.1)]
    simp -dsimp (disch := omega) only [↓B1_bp, ↓B2_bp, BP_some, BQ_some, ↓reduceIte, L_0, L_1, L_2, L_3, L_4, L_5, L_6, L_7, L_8, L_9, L_10, L_11, L_12, L_13, L_54, L_14, L_99, L_20, L_30, L_31, L_60, L_19, i2_add, i2_sub, i2_mul, i2_neg, Int.reduceAdd, Int.reduceSub, Int.reduceMul, Int.reduceNeg, Int.reduceLT, Int.reduceLE, Int.reduceEq, i2_le, i2_lt, i2_eq, uA_self, uA_ne, tf_0, not_true_eq_false, not_false_eq_true, b0, f0, f1, k0, p1, b1, k1, p2, b2, w2, n2, l2, k2, p3, b3, rd6, F6, q6, if_false]
end BEGUN
