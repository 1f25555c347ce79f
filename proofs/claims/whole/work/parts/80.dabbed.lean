section DABBED
variable {M : Mm} {A : Int → Int}
theorem ld_mv {L S : Int → Int} {mv : Int} (gl : GL L) (g : GS S) (h : 0 ≤ S 6) : 0 ≤ mvS L mv S 6 := by
  unfold mvS
  split
  · exact h
  · have e : lwS S 6 = S 6 := lwS_at S (by decide) (by decide) (by decide)
    rw [if_pos (by omega)]
    exact (lowS_b gl g.lw (by omega) mv).2.2.1
theorem ld_it {L S : Int → Int} {mv : Int} (gl : GL L) (g : GS S) (h : 0 ≤ S 6) : ∀ n : Nat, 0 ≤ it (mvS L mv) n S 6 := by
  intro n
  induction n generalizing S with
  | zero => exact h
  | succ n ih => exact ih (g.mv gl) (ld_mv gl g h)
theorem ld_way {L wt nt : Int → Int} (gl : GL L) : ∀ (d : Nat) (i : Int) (S : Int → Int), GS S → 0 ≤ S 6 → 0 ≤ wayS L wt nt i d S 6
  | 0, _, _, _, h => h
  | d + 1, i, S, g, h => ld_way gl d (i + 1) _ (g.leg gl) (ld_it gl g h _)
theorem ad_67 {w x : Int} {S : Int → Int} (g : GS S) : adS w x S 6 = S 6 ∧ adS w x S 7 = S 7 := by
  obtain ⟨-, -, -, -, -, -, -, g8, -⟩ := g
  unfold adS
  split
  · exact ⟨rfl, rfl⟩
  · exact ⟨by rw [uA_ne (by omega), uA_ne (by omega), uA_ne (by omega)], by rw [uA_ne (by omega), uA_ne (by omega), uA_ne (by omega)]⟩
theorem adB_e {S S' : Int → Int} (h : E13 S' S) (x : Int) : adB x S' = adB x S := by
  unfold adB dabC
  rw [h 6 (by decide) (by decide), h 7 (by decide) (by decide), h 8 (by decide) (by decide), h 9 (by decide) (by decide), h 10 (by decide) (by decide)]
theorem Ex.ad (w x : Int) : Ex (adS w x) := fun S S' h j a b => by
  unfold adS
  rw [adB_e h]
  split
  · exact h j a b
  · unfold uA
    rw [h 8 (by decide) (by decide), h j a b]
/-- the stocking in the end, dabbed ahead of the leg i -/
def db1 (A : Int → Int) (w i : Int) (S : Int → Int) : Int → Int := wayS (lwA A) (wtA A w) (ntA A w) 0 (i - 0).toNat S
def db2 (A : Int → Int) (S : Int → Int) : Int → Int := adS (A 6) (S 6 - 1) S
def db3 (A : Int → Int) (S : Int → Int) : Int → Int := adS (A 6) (S 7 + 1) S
def db4 (A : Int → Int) (S : Int → Int) : Int → Int := dryS (A 6) S
def db5 (A : Int → Int) (w i : Int) (S : Int → Int) : Int → Int := wayS (lwA A) (wtA A w) (ntA A w) i (A (12 + w) - i).toNat S
def dbS (A : Int → Int) (w i : Int) (S : Int → Int) : Int → Int := db5 A w i (db4 A (db3 A (db2 A (db1 A w i S))))
theorem db_gs (g : GA A) {w i : Int} {S : Int → Int} (gs : GS S) (h : 0 ≤ S 6) : GS (db1 A w i S) ∧ GS (db2 A (db1 A w i S)) ∧ GS (db3 A (db2 A (db1 A w i S))) ∧ GS (db4 A (db3 A (db2 A (db1 A w i S)))) ∧ 0 ≤ db1 A w i S 6 ∧ 0 ≤ db2 A (db1 A w i S) 7 := by
  have gl := g.2.2.2.2.2.1
  have d0 := gl.2.2.1
  change 1 ≤ A (4 + 2) ∧ A (4 + 2) ≤ 5 at d0
  rw [show (4 : Int) + 2 = 6 from rfl] at d0
  have g1 : GS (db1 A w i S) := gs.way gl _ _
  have g2 : GS (db2 A (db1 A w i S)) := g1.ad (by omega) (by omega)
  have g3 : GS (db3 A (db2 A (db1 A w i S))) := g2.ad (by omega) (by omega)
  have h1 : 0 ≤ db1 A w i S 6 := ld_way gl _ _ _ gs h
  have h2 : db2 A (db1 A w i S) 7 = db1 A w i S 7 := (ad_67 g1).2
  obtain ⟨-, -, -, -, -, -, q, -⟩ := g1
  exact ⟨gs.way gl _ _, g2, g3, g3.dry (by omega), h1, by omega⟩
theorem db_e {A' S' S : Int → Int} (h : E158 A' A) (g : GA A) {w i : Int} (e : 0 ≤ w ∧ w ≤ 1) (i0 : 0 ≤ i) (i1 : i ≤ A (12 + w)) (hs : E13 S' S) : E13 (dbS A' w i S') (dbS A w i S) := by
  have gc := g_wcnt g e
  have d0 : A' 6 = A 6 := h 6 (by decide) (by decide)
  have k1 : E13 (db1 A' w i S') (db1 A w i S) := by
    unfold db1
    rw [way_e h e.1 e.2 (by decide) (by omega)]
    exact Ex.way _ _ _ _ _ _ _ hs
  have k2 : E13 (db2 A' (db1 A' w i S')) (db2 A (db1 A w i S)) := by
    unfold db2
    rw [d0, k1 6 (by decide) (by decide)]
    exact Ex.ad _ _ _ _ k1
  have k3 : E13 (db3 A' (db2 A' (db1 A' w i S'))) (db3 A (db2 A (db1 A w i S))) := by
    unfold db3
    rw [d0, k2 7 (by decide) (by decide)]
    exact Ex.ad _ _ _ _ k2
  have k4 : E13 (db4 A' (db3 A' (db2 A' (db1 A' w i S')))) (db4 A (db3 A (db2 A (db1 A w i S)))) := by
    unfold db4
    rw [d0]
    exact Ex.dry _ _ _ k3
  unfold dbS db5
  rw [h (12 + w) (by omega) (by omega), way_e h e.1 e.2 i0 gc.2]
  exact Ex.way _ _ _ _ _ _ _ k4
theorem t_addDab {X : Mm} {k : Nat} {S : Int → Int} (t : TS X A k S) (g : GA A) (k8 : k < 8) {x w : Int} (x0 : -2147483648 ≤ x) (x9 : x < 2147483648) (w0 : 0 ≤ w) (w5 : w ≤ 5) : ∃ X', fX7_addDab X (71 + 11 + 3 * k) (i2 x) (i2 w) = some (i2 (adB x S), X') ∧ TS X' A k (adS w x S) ∧ SmP TrP X X' := by
  obtain ⟨t1, t2, t3, t4⟩ := t
  obtain ⟨C', R', W', e, r⟩ := c_addDab (C := gI X (71 + 11 + 3 * k)) (R := gI X (71 + 11 + 3 * k + 1)) (W := gI X (71 + 11 + 3 * k + 2)) (d_lay (t_d71 t1) k8) t3 t4 (w := w) x0 x9
  rw [st_self] at e
  have s : SmP TrP X _ := TrP.of (Same.st X (71 + 11 + 3 * k) C' R' W') (by omega) (by omega)
  exact ⟨_, e, ⟨t1.sm s, TrP.cr s g t2, SRm.st r (t4.ad w0 w5), t4.ad w0 w5⟩, s⟩
theorem t_stand {X : Mm} {k : Nat} {S : Int → Int} (t : TS X A k S) (g : GA A) (k8 : k < 8) {m : Int} (m0 : 0 ≤ m) (m9 : m ≤ 60) : ∃ X', fX7_stand X (71 + 11 + 3 * k) (i2 m) = some X' ∧ TS X' A k (dryS m S) ∧ SmP TrP X X' := by
  obtain ⟨t1, t2, t3, t4⟩ := t
  obtain ⟨C', R', W', e, r⟩ := c_stand (C := gI X (71 + 11 + 3 * k)) (R := gI X (71 + 11 + 3 * k + 1)) (W := gI X (71 + 11 + 3 * k + 2)) (d_lay (t_d71 t1) k8) t3 t4 m0 m9
  rw [st_self] at e
  have s : SmP TrP X _ := TrP.of (Same.st X (71 + 11 + 3 * k) C' R' W') (by omega) (by omega)
  exact ⟨_, e, ⟨t1.sm s, TrP.cr s g t2, SRm.st r (t4.dry m0), t4.dry m0⟩, s⟩
theorem t_67 {X : Mm} {k : Nat} {S : Int → Int} (t : TS X A k S) (k8 : k < 8) : rdI X (71 + 11 + 3 * k) 10 6 = some (i2 (cl (S 6))) ∧ rdI X (71 + 11 + 3 * k) 10 7 = some (i2 (cl (S 7))) := by
  have hl := d_lay (t_d71 t.1) k8
  obtain ⟨-, ⟨r6, r7⟩, -⟩ := t.2.2.1
  exact ⟨by rw [g_rdI hl.1, ← r6]; rfl, by rw [g_rdI hl.1, ← r7]; rfl⟩
theorem c_openDabbed (h : LayC M) (c : CR M 1 A) (g : GA A) {f w i : Int} (ef : 0 ≤ f ∧ f ≤ 1) (e : 0 ≤ w ∧ w ≤ 1) (i0 : 0 ≤ i) (i1 : i ≤ A (12 + w)) (e4 : 0 ≤ A (2 + f)) (hl : 0 ≤ stA A (A (2 + f)) 6) : ∃ X, fX11_openDabbed M 0 (i2 f) (1 + 5 + 3 * w.toNat) (i2 i) = some (i2 (opS (dbS A w i (stA A (A (2 + f))))), X) ∧ SmP TrP M X := by
  have g0 := g.1
  have bf := b_feet g ef.1 ef.2
  have gc := g_wcnt g e
  have gl := g.2.2.2.2.2.1
  have d0 := gl.2.2.1
  change 1 ≤ A (4 + 2) ∧ A (4 + 2) ≤ 5 at d0
  rw [show (4 : Int) + 2 = 6 from rfl] at d0
  obtain ⟨X, k1, k2, k3⟩ := c_beginTrial h c g ef.1 ef.2
  have cX := TrP.cr k3 g c
  have hX := h.sm k3
  have hk : (((A (2 + f)).toNat : Nat) : Int) = A (2 + f) := by omega
  have k8 : (A (2 + f)).toNat < 8 := by omega
  rw [show stAt A 71 (A (2 + f)) = some (71 + 11 + 3 * (A (2 + f)).toNat) from if_pos ⟨e4, bf.2⟩] at k1
  have t0 := ts_begin (k := (A (2 + f)).toNat) hX cX g k2 (by omega)
  rw [hk] at t0
  obtain ⟨g1, g2, g3, g4, l1, l2⟩ := db_gs g (w := w) (i := i) t0.2.2.2 hl
  obtain ⟨X1, p1, t1, s1⟩ := c_tPass t0 g k8 e (fr := 0) (to := i) (by omega) (by decide) (by decide)
  rw [show min i (A (12 + w)) = i by omega] at t1
  change TS X1 A _ (db1 A w i _) at t1
  have b1 := g1.2.2.2.2.2.2.1
  obtain ⟨X2, p2, t2, s2⟩ := t_addDab t1 g k8 (x := cl (db1 A w i (stA A (A (2 + f))) 6) - 1) (w := A 6) (by rw [cl_n _ l1]; omega) (by rw [cl_n _ l1]; omega) (by omega) (by omega)
  have r1 := (t_67 t1 k8).1
  rw [cl_n _ l1] at p2 t2 r1
  change TS X2 A _ (db2 A (db1 A w i _)) at t2
  have b2 := g2.2.2.2.2.2.2.1
  obtain ⟨X3, p3, t3, s3⟩ := t_addDab t2 g k8 (x := cl (db2 A (db1 A w i (stA A (A (2 + f)))) 7) + 1) (w := A 6) (by rw [cl_n _ l2]; omega) (by rw [cl_n _ l2]; omega) (by omega) (by omega)
  have r2 := (t_67 t2 k8).2
  rw [cl_n _ l2] at p3 t3 r2
  change TS X3 A _ (db3 A (db2 A (db1 A w i _))) at t3
  obtain ⟨X4, p4, t4, s4⟩ := t_stand t3 g k8 (m := A 6) (by omega) (by omega)
  change TS X4 A _ (db4 A (db3 A (db2 A (db1 A w i _)))) at t4
  obtain ⟨X5, p5, t5, s5⟩ := c_tPass t4 g k8 e (fr := i) (to := A (12 + w)) (by omega) i0 (by omega)
  rw [show min (A (12 + w)) (A (12 + w)) = A (12 + w) by omega] at t5
  change TS X5 A _ (dbS A w i _) at t5
  have op := t_open t5 k8
  have w4 := (d_wrx (t_d1 t4.1) t4.2.1 g e).2.1
  have ld : alI X (1 + 1) (i2 2) = some (i2 (A 6)) := d_law (t_d1 hX) cX 2 (by decide) (by decide)
  refine ⟨X5, ?_, k3.tr (s1.tr (s2.tr (s3.tr (s4.tr s5))))⟩
  have gg0 := d_gk10 (t_d71 t0.1) k8
  have gg1 := d_gk10 (t_d71 t1.1) k8
  have gg2 := d_gk10 (t_d71 t2.1) k8
  have gg3 := d_gk10 (t_d71 t3.1) k8
  have gg4 := d_gk10 (t_d71 t4.1) k8
  have gg5 := d_gk10 (t_d71 t5.1) k8
  have n0 := t_now t0.1
  have n4 := t_now t4.1
  have m0 := d_laws (t_d1 t0.1)
  have m4 := d_laws (t_d1 t4.1)
  have tg := t_gk h
  generalize db1 A w i (stA A (A (2 + f))) 6 = v1 at p2 r1 b1 l1
  generalize db2 A (db1 A w i (stA A (A (2 + f)))) 7 = v2 at p3 r2 b2 l2
  clear t0 t1 t2 t3 t4 t5 g g1 g2 g3 g4 c k2 cX hX gl
  unfold fX11_openDabbed
  simp -dsimp (disch := omega) only [↓B1_bp, ↓B2_bp, BP_some, BQ_some, ↓reduceIte, L_0, L_1, L_2, L_3, L_4, L_5, L_6, L_7, L_8, L_9, L_10, L_11, L_12, L_13, L_54, L_14, L_99, L_20, L_30, L_31, L_60, L_19, i2_add, i2_sub, i2_mul, i2_neg, Int.reduceAdd, Int.reduceSub, Int.reduceMul, Int.reduceNeg, Int.reduceLT, Int.reduceLE, Int.reduceEq, i2_le, i2_lt, i2_eq, uA_self, uA_ne, tf_0, not_true_eq_false, not_false_eq_true, ↓NL_bp, BNP_none, BNP_some, tg, k1, n0, m0, ld, gg0, p1, r1, gg1, p2, gg2, r2, p3, gg3, p4, gg4, w4, n4, m4, p5, gg5, op]
theorem Wk.put {R S : Int → Int} {k : Int} (w : Wk A R k S) (k0 : 0 ≤ k) {S' : Int → Int} (gs : GS S') {T : Int → Int} (hT : E13 S' T) : Wk A (putA R k S') k T := by
  obtain ⟨w1, w2, w3⟩ := w
  exact ⟨w1.put k0 gs, fun y hy => (put_lo k0 hy).trans (w2 y hy), fun j a b => (st_put a b).trans (hT j a b)⟩
theorem m_dabbed_L {Z : Int → Int} (h : LayM M) (g : GA A) {k : Int} (k0 : 0 ≤ k) (k1 : k < A 0) (hf : A 2 = k ∨ A 3 = k) {w i : Int} (e : 0 ≤ w ∧ w ≤ 1) (i0 : 0 ≤ i) (i1 : i ≤ A (12 + w)) : ∀ (d N : Nat) (R S : Int → Int) (n : Int), Wk A R k S → d < N → 0 ≤ n → n + d = A 6 → ∃ D', fX12_dabbedAt_L46 164 (i2 k) (i2 w) (i2 i) N (i2 n) ((M.row 167 Z).row 165 R) = some (i2 (opS (db5 A w i (it (mvS (lwA A) 3) d S))), (M.row 167 Z).row 165 (mx Z D' 158)) := by
  have gc := g_wcnt g e
  have hm : LayM (M.row 167 Z) := h
  have gl := g.2.2.2.2.2.1
  have d0 := gl.2.2.1
  change 1 ≤ A (4 + 2) ∧ A (4 + 2) ≤ 5 at d0
  rw [show (4 : Int) + 2 = 6 from rfl] at d0
  intro d
  induction d with
  | zero =>
    intro N R S n t hN n0 hn
    obtain ⟨N, rfl⟩ : ∃ k, N = k + 1 := ⟨N - 1, by omega⟩
    have q : A 6 ≤ n := by omega
    have r6 : alI ((M.row 167 Z).row 165 R) 165 (i2 6) = some (i2 (A 6)) := by
      rw [m_al hm (by decide) (by decide), t.2.1 6 (by decide)]
    have r7 : alI ((M.row 167 Z).row 165 R) 165 (i2 (12 + w)) = some (i2 (A (12 + w))) := by
      rw [m_al hm (by omega) (by omega), t.2.1 _ (by omega)]
    obtain ⟨R', p1, p2⟩ := m_wPass hm t g k0 k1 hf e (fr := i) (to := A (12 + w)) i0 i1 (Int.le_refl _)
    have op := m_wOpen hm p2 k0 k1
    have lb := m_laysBack (X := Z) (A := R') h
    refine ⟨R', ?_⟩
    clear t p2 g gl
    simp -dsimp (disch := omega) only [fX12_dabbedAt_L46, ↓B1_bp, ↓B2_bp, BP_some, BQ_some, ↓reduceIte, L_0, L_1, L_2, L_3, L_4, L_5, L_6, L_7, L_8, L_9, L_10, L_11, L_12, L_13, L_54, L_14, L_99, L_20, L_30, L_31, L_60, L_19, i2_add, i2_sub, i2_mul, i2_neg, Int.reduceAdd, Int.reduceSub, Int.reduceMul, Int.reduceNeg, Int.reduceLT, Int.reduceLE, Int.reduceEq, i2_le, i2_lt, i2_eq, uA_self, uA_ne, tf_0, not_true_eq_false, not_false_eq_true, rdN_row, rdm0 hm, gk_row, gk_m hm, r6, q, if_true, r7, p1, op, lb]
    rfl
  | succ d ih =>
    intro N R S n t hN n0 hn
    obtain ⟨N, rfl⟩ : ∃ k, N = k + 1 := ⟨N - 1, by omega⟩
    have q : ¬ A 6 ≤ n := by omega
    have r6 : alI ((M.row 167 Z).row 165 R) 165 (i2 6) = some (i2 (A 6)) := by
      rw [m_al hm (by decide) (by decide), t.2.1 6 (by decide)]
    have p1 := m_allMove (A := R) hm t.1 (mv := 3) (by decide) (by decide)
    have p2 : Wk A (pwA R (mvS (lwA R) 3)) k (mvS (lwA A) 3 S) := t.pw k0 k1 hf (Ex.mv _ _) fun S gs => gs.mv t.1.2.2.2.2.2.1
    obtain ⟨D', j1⟩ := ih N _ _ (n + 1) p2 (by omega) (by omega) (by omega)
    refine ⟨D', ?_⟩
    show _ = some (i2 (opS (db5 A w i (it (mvS (lwA A) 3) d (mvS (lwA A) 3 S)))), _)
    rw [← j1]
    clear ih j1 t p2 g gl
    simp -dsimp (disch := omega) only [fX12_dabbedAt_L46, ↓B1_bp, ↓B2_bp, BP_some, BQ_some, ↓reduceIte, L_0, L_1, L_2, L_3, L_4, L_5, L_6, L_7, L_8, L_9, L_10, L_11, L_12, L_13, L_54, L_14, L_99, L_20, L_30, L_31, L_60, L_19, i2_add, i2_sub, i2_mul, i2_neg, Int.reduceAdd, Int.reduceSub, Int.reduceMul, Int.reduceNeg, Int.reduceLT, Int.reduceLE, Int.reduceEq, i2_le, i2_lt, i2_eq, uA_self, uA_ne, tf_0, not_true_eq_false, not_false_eq_true, rdN_row, rdm0 hm, gk_row, gk_m hm, r6, q, if_false, p1]
theorem m_dabbedAt (h : LayM M) (g : GA A) {k : Int} (k0 : 0 ≤ k) (k1 : k < A 0) (hf : A 2 = k ∨ A 3 = k) {w i : Int} (e : 0 ≤ w ∧ w ≤ 1) (i0 : 0 ≤ i) (i1 : i ≤ A (12 + w)) (hl : 0 ≤ stA A k 6) : ∃ Z R, fX12_dabbedAt (M.row 165 A) 164 (i2 k) (i2 w) (i2 i) = some (i2 (opS (dbS A w i (stA A k))), (M.row 167 Z).row 165 R) ∧ E158 R A := by
  have g0 := g.1
  have gc := g_wcnt g e
  have gl := g.2.2.2.2.2.1
  have d0 := gl.2.2.1
  change 1 ≤ A (4 + 2) ∧ A (4 + 2) ≤ 5 at d0
  rw [show (4 : Int) + 2 = 6 from rfl] at d0
  have gs := g.2.2.2.2.2.2.2 k k0 k1
  obtain ⟨g1, g2, g3, g4, l1, l2⟩ := db_gs g (w := w) (i := i) gs hl
  have la := m_lends (A := A) h
  have hm : LayM (M.row 167 (mx A (gI M 167) 158)) := h
  obtain ⟨R1, p1, w1⟩ := m_wPass hm (Wk.rf g k) g k0 k1 hf e (fr := 0) (to := i) (by decide) i0 i1
  change Wk A R1 k (db1 A w i (stA A k)) at w1
  have c1 : k < R1 0 := by rw [w1.2.1 0 (by decide)]; exact k1
  have a1 := m_st (A := R1) hm k0 (show k < 8 by omega) (w := 6) (by decide) (by decide)
  rw [w1.2.2 6 (by decide) (by decide)] at a1
  have b1 := g1.2.2.2.2.2.2.1
  have p2 := m_dabsP (A := R1) hm w1.1 k0 c1 (x := db1 A w i (stA A k) 6 - 1) (by omega) (by omega)
  have w2 : Wk A (putA R1 k (adS (R1 6) (db1 A w i (stA A k) 6 - 1) (stA R1 k))) k (db2 A (db1 A w i (stA A k))) := w1.put k0 ((w1.1.2.2.2.2.2.2.2 k k0 c1).ad (by rw [w1.2.1 6 (by decide)]; omega) (by rw [w1.2.1 6 (by decide)]; omega)) (by
    rw [w1.2.1 6 (by decide)]
    exact Ex.ad _ _ _ _ w1.2.2)
  rw [adB_e w1.2.2] at p2
  generalize putA R1 k (adS (R1 6) (db1 A w i (stA A k) 6 - 1) (stA R1 k)) = R2 at p2 w2
  have c2 : k < R2 0 := by rw [w2.2.1 0 (by decide)]; exact k1
  have a2 := m_st (A := R2) hm k0 (show k < 8 by omega) (w := 7) (by decide) (by decide)
  rw [w2.2.2 7 (by decide) (by decide)] at a2
  have b2 := g2.2.2.2.2.2.2.1
  have p3 := m_dabsP (A := R2) hm w2.1 k0 c2 (x := db2 A (db1 A w i (stA A k)) 7 + 1) (by omega) (by omega)
  have w3 : Wk A (putA R2 k (adS (R2 6) (db2 A (db1 A w i (stA A k)) 7 + 1) (stA R2 k))) k (db3 A (db2 A (db1 A w i (stA A k)))) := w2.put k0 ((w2.1.2.2.2.2.2.2.2 k k0 c2).ad (by rw [w2.2.1 6 (by decide)]; omega) (by rw [w2.2.1 6 (by decide)]; omega)) (by
    rw [w2.2.1 6 (by decide)]
    exact Ex.ad _ _ _ _ w2.2.2)
  generalize putA R2 k (adS (R2 6) (db2 A (db1 A w i (stA A k)) 7 + 1) (stA R2 k)) = R3 at p3 w3
  obtain ⟨D', p4⟩ := m_dabbed_L (Z := mx A (gI M 167) 158) h g k0 k1 hf e i0 i1 (A 6).toNat FL R3 _ 0 w3 (by show _ < 4096; omega) (by decide) (by omega)
  have e4 : it (mvS (lwA A) 3) (A 6).toNat (db3 A (db2 A (db1 A w i (stA A k)))) = db4 A (db3 A (db2 A (db1 A w i (stA A k)))) := leg_3 (L := lwA A) (n := A 6) g3 (by omega)
  rw [e4] at p4
  refine ⟨mx A (gI M 167) 158, mx (mx A (gI M 167) 158) D' 158, ?_, e_back⟩
  change fX12_dabbedAt_L46 164 (i2 k) (i2 w) (i2 i) FL (i2 0) _ = some (i2 (opS (dbS A w i (stA A k))), _) at p4
  generalize db1 A w i (stA A k) 6 = v1 at a1 p2 b1 l1
  generalize db2 A (db1 A w i (stA A k)) 7 = v2 at a2 p3 b2 l2
  clear w1 w2 w3 g g1 g2 g3 g4 gl gs
  unfold fX12_dabbedAt
  simp -dsimp (disch := omega) only [↓B1_bp, ↓B2_bp, BP_some, BQ_some, ↓reduceIte, gk_row, rdN_row, alN_row, alN__row, gk_m hm, rdm0 hm, rdm1 hm, rdm2 hm, rdm3 hm, L_0, L_1, L_2, L_3, L_4, L_5, L_6, L_7, L_8, L_9, L_10, L_11, L_12, L_13, L_54, L_14, L_99, L_20, L_30, L_31, L_60, L_19, i2_add, i2_sub, i2_mul, i2_neg, Int.reduceAdd, Int.reduceSub, Int.reduceMul, Int.reduceNeg, Int.reduceLT, Int.reduceLE, Int.reduceEq, i2_le, i2_lt, i2_eq, J_0, J_1, J_2, J_3, J_5, J_7, J_8, J_9, J_10, J_13, J_15, J_30, J_60, J_99, J_100, J_999, J_n1, i2_j2, m_in, tf_0, not_true_eq_false, not_false_eq_true, m_al hm, L_15, L_40, L_100, L_101, L_190, L_200, L_999, uA_self, and_self, if_true, if_false, and_true, true_and, and_false, false_and, gk_m h, la, p1, a1, p2, a2, p3, p4]
end DABBED
