section DBEC
variable {M : Mm} {A : Int → Int}
theorem gI_at {M : Mm} {p : Nat} {X : Int → Int} {j : Int} (h : 0 ≤ j) (h1 : -2147483648 ≤ X j) (h2 : X j < 2147483648) : gI (M.row p X) p j = X j := by rw [gI_row _ _ _ h, nrI_id h1 h2]
theorem gI_u_ne {M : Mm} {p : Nat} {x v j : Int} (h : 0 ≤ j) (hj : ¬ j = x) : gI (M.row p (uA (gI M p) x v)) p j = gI M p j := by
  have hb := gI_b M p j
  rw [gI_at h (by rw [uA_ne hj]; exact hb.1) (by rw [uA_ne hj]; exact hb.2), uA_ne hj]
theorem gI_u {M : Mm} {p : Nat} {x v : Int} (h : 0 ≤ x) (h1 : -2147483648 ≤ v) (h2 : v < 2147483648) : gI (M.row p (uA (gI M p) x v)) p x = v := by
  rw [gI_at h (by rw [uA_self]; exact h1) (by rw [uA_self]; exact h2), uA_self]
theorem c_wbecome {p p' : Nat} (h : LayW M p) (h' : LayW M p') (hd : p + 3 ≤ p' ∨ p' + 3 ≤ p) : ∃ M', fX10_become M p p' = some M' ∧ Same M M' p (p + 3) ∧ gI M' p 0 = gI M p' 0 ∧ ∀ i : Int, 0 ≤ i → i < 10 → gI M' (p + 1) i = gI M (p' + 1) i ∧ gI M' (p + 2) i = gI M (p' + 2) i := by
  have K0 : rdI M p' 13 0 = some (i2 (gI M p' 0)) := g_rdI h'.1 0
  have w0 : wrI M p 13 0 (i2 (gI M p' 0)) = some (M.row p (uA (gI M p) 0 (gI M p' 0))) := g_wrI h.1 (by decide)
  have n1 : ∀ X, rdN (M.row p X) p' 13 1 = some (p' + 1) := fun X => by show rdN M p' 13 1 = _; unfold rdN; rw [if_pos h'.1]; exact h'.2.1
  have n2 : ∀ X, rdN (M.row p X) p 13 1 = some (p + 1) := fun X => by show rdN M p 13 1 = _; unfold rdN; rw [if_pos h.1]; exact h.2.1
  have n3 : ∀ X Y, rdN ((M.row p X).row (p + 1) Y) p' 13 2 = some (p' + 2) := fun X Y => by show rdN M p' 13 2 = _; unfold rdN; rw [if_pos h'.1]; exact h'.2.2.1
  have n4 : ∀ X Y, rdN ((M.row p X).row (p + 1) Y) p 13 2 = some (p + 2) := fun X Y => by show rdN M p 13 2 = _; unfold rdN; rw [if_pos h.1]; exact h.2.2.1
  have p1 : ∀ X, cpI (M.row p X) (p' + 1) (i2 0) (p + 1) (i2 0) (i2 10) = some ((M.row p X).row (p + 1) (mx (gI M (p' + 1)) (gI (M.row p X) (p + 1)) 10)) := fun X => by
    rw [g_cpI (M := M.row p X) (N0 := 10) (N := 10) ⟨h'.2.2.2.1, h'.2.2.2.2.1⟩ ⟨h.2.2.2.1, h.2.2.2.2.1⟩ (by decide) (by decide) (by decide) (by decide), gI_ne (p := p) (q := p' + 1) _ (by omega)]
  have p2 : ∀ X Y, cpI ((M.row p X).row (p + 1) Y) (p' + 2) (i2 0) (p + 2) (i2 0) (i2 10) = some (((M.row p X).row (p + 1) Y).row (p + 2) (mx (gI M (p' + 2)) (gI ((M.row p X).row (p + 1) Y) (p + 2)) 10)) := fun X Y => by
    rw [g_cpI (M := (M.row p X).row (p + 1) Y) (N0 := 10) (N := 10) ⟨h'.2.2.2.2.2.1, h'.2.2.2.2.2.2⟩ ⟨h.2.2.2.2.2.1, h.2.2.2.2.2.2⟩ (by decide) (by decide) (by decide) (by decide), gI_ne (p := p + 1) (q := p' + 2) _ (by omega), gI_ne (p := p) (q := p' + 2) _ (by omega)]
  unfold fX10_become
  simp -dsimp only [↓B1_bp, BP_some, K0, w0, n1, n2, n3, n4, L_0, L_10, p1, p2]
  refine ⟨_, rfl, ?_, ?_, fun i i0 i1 => ⟨?_, ?_⟩⟩
  · exact (((Same.row M p _).wide (Nat.le_refl _) (by omega)).tr ((Same.row _ (p + 1) _).wide (by omega) (by omega))).tr ((Same.row _ (p + 2) _).wide (by omega) (by omega))
  · rw [gI_ne _ (by omega), gI_ne _ (by omega)]
    exact gI_u (Int.le_refl _) (gI_b M p' 0).1 (gI_b M p' 0).2
  · have hb := gI_b M (p' + 1) i
    rw [gI_ne _ (by omega), gI_at i0 (by rw [mx_at i0 i1]; exact hb.1) (by rw [mx_at i0 i1]; exact hb.2), mx_at i0 i1]
  · have hb := gI_b M (p' + 2) i
    rw [gI_at i0 (by rw [mx_at i0 i1]; exact hb.1) (by rw [mx_at i0 i1]; exact hb.2), mx_at i0 i1]
def dbE (o v1 : Nat) (M : Mm) : Option Mm :=
  B1 (rdI M v1 3 2) fun x51_7 =>
  B1 (wrI M o 3 2 x51_7) fun M54_8 =>
  B1 (rdN M54_8 o 3 3) fun a58_9 =>
  B1 (rdN M54_8 v1 3 3) fun a63_10 =>
  B1 (alI M54_8 a63_10 0) fun x67_11 =>
  B1 (asI M54_8 a58_9 0 x67_11) fun M68_12 =>
  B1 (rdN M68_12 o 3 3) fun a70_13 =>
  B1 (rdN M68_12 v1 3 3) fun a75_14 =>
  B1 (alI M68_12 a75_14 1) fun x79_15 =>
  B1 (asI M68_12 a70_13 1 x79_15) fun M80_16 =>
  B1 (rdN M80_16 o 3 4) fun a82_17 =>
  B1 (alN M80_16 a82_17 24 0) fun a86_18 =>
  B1 (rdN M80_16 v1 3 4) fun a88_19 =>
  B1 (alN M80_16 a88_19 24 0) fun a92_20 =>
  B1 (gk M80_16 a86_18 13) fun _ =>
  B1 (fX10_become M80_16 a86_18 a92_20) fun M93_22 =>
  B1 (rdN M93_22 o 3 4) fun a97_23 =>
  B1 (alN M93_22 a97_23 24 1) fun a101_24 =>
  B1 (rdN M93_22 v1 3 4) fun a103_25 =>
  B1 (alN M93_22 a103_25 24 1) fun a107_26 =>
  B1 (gk M93_22 a101_24 13) fun _ =>
  B1 (fX10_become M93_22 a101_24 a107_26) fun M108_28 =>
  B1 (rdI M108_28 v1 3 5) fun x113_29 =>
  B1 (wrI M108_28 o 3 5 x113_29) fun M116_30 =>
  some M116_30
theorem c_dbE {B B' : Nat} (h : LayD M B) (h' : LayD M B') (hd : B + 35 ≤ B' ∨ B' + 35 ≤ B) (c : CR M B' A) (g : GA A) (hl : ∀ j : Int, 0 ≤ j → j < 8 → gI M (B + 1) j = A (4 + j)) (hs : ∀ k : Nat, (k : Int) < A 0 → SRm M (B + 11 + 3 * k) (stA A k)) : ∃ M', dbE B B' M = some M' ∧ CR M' B A ∧ Same M M' B (B + 35) := by
  have g0 := g.1
  have g1 := g.2.1
  have g2 := g.2.2.1
  have g3 := g.2.2.2.1
  have ga : A 0 ≤ 8 := g0.2
  -- the count
  have w1 : wrI M B 3 2 (i2 (A 0)) = some (M.row B (uA (gI M B) 2 (A 0))) := g_wrI h.1.1 (by decide)
  generalize e1 : M.row B (uA (gI M B) 2 (A 0)) = M1 at w1
  have s1 : Same M M1 B (B + 1) := by rw [← e1]; exact Same.row _ _ _
  have a1 : gI M1 B 2 = A 0 := by rw [← e1]; exact gI_u (by decide) (by omega) (by omega)
  have l1 := h.same s1
  have l1' := h'.same s1
  have c1 := c.same s1 (by omega) ga
  -- the feet
  have w2 : asI M1 (B + 3) (i2 0) (i2 (A 2)) = some (M1.row (B + 3) (uA (gI M1 (B + 3)) 0 (A 2))) := g_asI (N := 2) l1.2.2.2.1 (by decide) (by decide) (by decide)
  generalize e2 : M1.row (B + 3) (uA (gI M1 (B + 3)) 0 (A 2)) = M2 at w2
  have s2 : Same M1 M2 (B + 3) (B + 4) := by rw [← e2]; exact Same.row _ _ _
  have a2 : gI M2 (B + 3) 0 = A 2 := by rw [← e2]; exact gI_u (by decide) (by omega) (by omega)
  have l2 := l1.same s2
  have l2' := l1'.same s2
  have c2 := c1.same s2 (by omega) ga
  have w3 : asI M2 (B + 3) (i2 1) (i2 (A 3)) = some (M2.row (B + 3) (uA (gI M2 (B + 3)) 1 (A 3))) := g_asI (N := 2) l2.2.2.2.1 (by decide) (by decide) (by decide)
  generalize e3 : M2.row (B + 3) (uA (gI M2 (B + 3)) 1 (A 3)) = M3 at w3
  have s3 : Same M2 M3 (B + 3) (B + 4) := by rw [← e3]; exact Same.row _ _ _
  have a3 : gI M3 (B + 3) 1 = A 3 := by rw [← e3]; exact gI_u (by decide) (by omega) (by omega)
  have a2' : gI M3 (B + 3) 0 = A 2 := by rw [← e3, gI_u_ne (by decide) (by decide)]; exact a2
  have l3 := l2.same s3
  have l3' := l2'.same s3
  have c3 := c2.same s3 (by omega) ga
  -- the ways
  obtain ⟨M4, w4, s4, a4, b4⟩ := c_wbecome (M := M3) (p := B + 5) (p' := B' + 5) (l3.2.2.2.2.2.1 0 (by decide)).2 (l3'.2.2.2.2.2.1 0 (by decide)).2 (by omega)
  have l4 := l3.same s4
  have l4' := l3'.same s4
  have c4 := c3.same s4 (by omega) ga
  obtain ⟨M5, w5, s5, a5, b5⟩ := c_wbecome (M := M4) (p := B + 8) (p' := B' + 8) (l4.2.2.2.2.2.1 1 (by decide)).2 (l4'.2.2.2.2.2.1 1 (by decide)).2 (by omega)
  have l5 := l4.same s5
  have l5' := l4'.same s5
  have c5 := c4.same s5 (by omega) ga
  -- z
  have w6 : wrI M5 B 3 5 (i2 (A 1)) = some (M5.row B (uA (gI M5 B) 5 (A 1))) := g_wrI l5.1.1 (by decide)
  generalize e6 : M5.row B (uA (gI M5 B) 5 (A 1)) = M6 at w6
  have s6 : Same M5 M6 B (B + 1) := by rw [← e6]; exact Same.row _ _ _
  have a6 : gI M6 B 5 = A 1 := by rw [← e6]; exact gI_u (by decide) (by omega) (by omega)
  have a6' : gI M6 B 2 = gI M5 B 2 := by rw [← e6]; exact gI_u_ne (by decide) (by decide)
  have wy : ∀ {M : Mm} {B : Nat} (h : LayD M B), alN M (B + 4) 24 (i2 0) = some (B + 5) ∧ alN M (B + 4) 24 (i2 1) = some (B + 8) ∧ gk M (B + 5) 13 = some () ∧ gk M (B + 8) 13 = some () := fun h => ⟨d_way h (by decide) (by decide), d_way h (by decide) (by decide), if_pos (h.2.2.2.2.2.1 0 (by decide)).2.1, if_pos (h.2.2.2.2.2.1 1 (by decide)).2.1⟩
  have sA : Same M M6 B (B + 11) := (((((s1.wide (Nat.le_refl _) (by omega)).tr (s2.wide (by omega) (by omega))).tr (s3.wide (by omega) (by omega))).tr (s4.wide (by omega) (by omega))).tr (s5.wide (by omega) (by omega))).tr (s6.wide (Nat.le_refl _) (by omega))
  have q36 : ∀ p, B + 1 ≤ p → p < B + 5 ∨ B + 11 ≤ p → gI M6 p = gI M3 p := fun p h1 h2 => ((gI_of (s6.2 p (by omega))).trans (gI_of (s5.2 p (by omega)))).trans (gI_of (s4.2 p (by omega)))
  have q03 : ∀ p, B + 1 ≤ p → p ≠ B + 3 → gI M3 p = gI M p := fun p h1 h2 => ((gI_of (s3.2 p (by omega))).trans (gI_of (s2.2 p (by omega)))).trans (gI_of (s1.2 p (by omega)))
  have q15 : gI M5 B = gI M1 B := (((gI_of (s5.2 B (by omega))).trans (gI_of (s4.2 B (by omega)))).trans (gI_of (s3.2 B (by omega)))).trans (gI_of (s2.2 B (by omega)))
  have q46 : ∀ p, B + 5 ≤ p → p < B + 8 → gI M6 p = gI M4 p := fun p h1 h2 => (gI_of (s6.2 p (by omega))).trans (gI_of (s5.2 p (by omega)))
  have q56 : ∀ p, B + 8 ≤ p → p < B + 11 → gI M6 p = gI M5 p := fun p h1 h2 => gI_of (s6.2 p (by omega))
  refine ⟨M6, ?_, ⟨fun j j0 j8 => ?_, ⟨?_, a6⟩, ⟨?_, ?_⟩, fun w hw => ?_, fun k hk => ?_⟩, sA.wide (Nat.le_refl _) (by omega)⟩
  · unfold dbE
    simp -dsimp only [↓B1_bp, BP_some, L_0, L_1, d_cnt h' c, w1, d_feet l1, d_feet l1', d_f0 l1' c1, w2, d_feet l2, d_feet l2', d_f1 l2' c2, w3, d_ways l3, d_ways l3', (wy l3).1, (wy l3').1, (wy l3).2.2.1, w4, d_ways l4, d_ways l4', (wy l4).2.1, (wy l4').2.1, (wy l4).2.2.2, w5, d_z l5' c5, w6]
  · rw [q36 _ (by omega) (by omega), q03 _ (by omega) (by omega)]
    exact hl j j0 j8
  · rw [a6', q15]
    exact a1
  · rw [q36 _ (by omega) (by omega)]
    exact a2'
  · rw [q36 _ (by omega) (by omega)]
    exact a3
  · rcases (by omega : w = 0 ∨ w = 1) with rfl | rfl
    · have hc := (g.2.2.2.2.2.2.1 0 (by decide) (by decide)).1
      obtain ⟨c3a, c3b⟩ := c3.2.2.2.1 0 (by decide)
      show gI M6 (B + 5) 0 = _ ∧ ∀ i : Int, 0 ≤ i → i < A 12 → gI M6 (B + 6) i = _ ∧ gI M6 (B + 7) i = _
      rw [q46 _ (by omega) (by omega), q46 _ (by omega) (by omega), q46 _ (by omega) (by omega)]
      refine ⟨a4.trans c3a, fun i i0 i1 => ?_⟩
      have b4 := b4 i i0 (by have : A 12 = A (12 + 0) := rfl; omega)
      have c3b := c3b i i0 i1
      exact ⟨b4.1.trans c3b.1, b4.2.trans c3b.2⟩
    · have hc := (g.2.2.2.2.2.2.1 1 (by decide) (by decide)).1
      obtain ⟨c4a, c4b⟩ := c4.2.2.2.1 1 (by decide)
      show gI M6 (B + 8) 0 = _ ∧ ∀ i : Int, 0 ≤ i → i < A 13 → gI M6 (B + 9) i = _ ∧ gI M6 (B + 10) i = _
      rw [q56 _ (by omega) (by omega), q56 _ (by omega) (by omega), q56 _ (by omega) (by omega)]
      refine ⟨a5.trans c4a, fun i i0 i1 => ?_⟩
      have b5 := b5 i i0 (by have : A 13 = A (12 + 1) := rfl; omega)
      have c4b := c4b i i0 i1
      exact ⟨b5.1.trans c4b.1, b5.2.trans c4b.2⟩
  · exact (hs k hk).same (sA.2 _ (by omega)) (sA.2 _ (by omega)) (sA.2 _ (by omega))
theorem c_dbL {B B' : Nat} (hd : B + 35 ≤ B' ∨ B' + 35 ≤ B) (g : GA A) : ∀ (d N : Nat) (i : Nat) (M : Mm), d < N → (i : Int) + d = A 0 → LayD M B → LayD M B' → CR M B' A → (∀ j : Int, 0 ≤ j → j < 8 → gI M (B + 1) j = A (4 + j)) → (∀ k : Nat, k < i → SRm M (B + 11 + 3 * k) (stA A k)) → ∃ M', fX0_become_L20 B B' N (i2 i) M = some M' ∧ CR M' B A ∧ Same M M' B (B + 35) := by
  have g0 := g.1
  have u : ∀ (K : Nat) (v : Int32) (M : Mm), fX0_become_L20 B B' (K + 1) v M = B1 (rdI M B' 3 2) fun x => if x ≤ v then dbE B B' M else B1 (rdN M B 3 1) fun a => B1 (alN M a 23 v) fun a1 => B1 (rdN M B' 3 1) fun b => B1 (alN M b 23 v) fun b1 => B1 (gk M a1 10) fun _ => B1 (fX7_become M a1 b1) fun M' => fX0_become_L20 B B' K (v + 1) M' := fun _ _ _ => rfl
  intro d
  induction d with
  | zero =>
    intro N i M hN hi h h' c hl hs
    obtain ⟨N, rfl⟩ : ∃ k, N = k + 1 := ⟨N - 1, by omega⟩
    have k := c_dbE h h' hd c g hl (fun k hk => hs k (by omega))
    have hc : i2 (A 0) ≤ i2 i := by rw [i2_le (by omega) (by omega) (by omega) (by omega)]; omega
    rw [u, d_cnt h' c, B1_some, if_pos hc]
    exact k
  | succ d ih =>
    intro N i M hN hi h h' c hl hs
    obtain ⟨N, rfl⟩ : ∃ k, N = k + 1 := ⟨N - 1, by omega⟩
    have i8 : i < 8 := by omega
    have gs := g.2.2.2.2.2.2.2 i (by omega) (by omega)
    have r := c.2.2.2.2 i (by omega)
    obtain ⟨C', R', W', e, r'⟩ := c_become (d_lay h i8) (d_lay h' i8) (by omega) r gs
    have s1 := (Same.st M (B + 11 + 3 * i) C' R' W')
    have gk1 : gk M (B + 11 + 3 * i) 10 = some () := if_pos (d_lay h i8).1
    have a1 := d_st h (k := i) (by omega) (by omega)
    have a2 := d_st h' (k := i) (by omega) (by omega)
    rw [Int.toNat_natCast] at a1 a2
    obtain ⟨M', k1, k2, k3⟩ := ih N (i + 1) _ (by omega) (by omega) (h.same s1) (h'.same s1) (c.same s1 (by omega) (by omega)) (fun j j0 j8 => by rw [gI_of (s1.2 _ (by omega))]; exact hl j j0 j8) (fun k hk => by
      by_cases e : k = i
      · subst e
        exact SRm.st r' gs
      · exact (hs k (by omega)).same (s1.2 _ (by omega)) (s1.2 _ (by omega)) (s1.2 _ (by omega)))
    refine ⟨M', ?_, k2, (s1.wide (by omega) (by omega)).tr k3⟩
    have hc : ¬ i2 (A 0) ≤ i2 i := by rw [i2_le (by omega) (by omega) (by omega) (by omega)]; omega
    rw [u, d_cnt h' c, B1_some, if_neg hc, d_sts h, B1_some, a1, B1_some, d_sts h', B1_some, a2, B1_some, gk1, B1_some, e, B1_some, show (i2 i + 1 : Int32) = i2 ((i + 1 : Nat) : Int) by rw [show (1 : Int32) = i2 1 from L_1, i2_add]; congr 1]
    exact k1
theorem c_dbecome {B B' : Nat} (hd : B + 35 ≤ B' ∨ B' + 35 ≤ B) (g : GA A) (h : LayD M B) (h' : LayD M B') (c : CR M B' A) : ∃ M', fX0_become M B B' = some M' ∧ CR M' B A ∧ Same M M' B (B + 35) := by
  have g0 := g.1
  have al : alN_ M (B + 1) = some (i2 8) := by
    unfold alN_
    rw [h.2.1.1, h.2.1.2, if_pos (by decide)]
    rfl
  have e : cpI M (B' + 1) (i2 0) (B + 1) (i2 0) (i2 8) = some (M.row (B + 1) (mx (gI M (B' + 1)) (gI M (B + 1)) 8)) := g_cpI (N0 := 8) (N := 8) h'.2.1 h.2.1 (by decide) (by decide) (by decide) (by decide)
  have s1 := Same.row M (B + 1) (mx (gI M (B' + 1)) (gI M (B + 1)) 8)
  have k := c_dbL (B := B) (B' := B') hd g (A 0).toNat FL 0 (M.row (B + 1) (mx (gI M (B' + 1)) (gI M (B + 1)) 8)) (by show _ < 4096; omega) (by omega) (h.same s1) (h'.same s1) (c.same s1 (by omega) (by omega)) (fun j j0 j8 => by
    have hb := gI_b M (B' + 1) j
    rw [gI_at j0 (by rw [mx_at j0 j8]; exact hb.1) (by rw [mx_at j0 j8]; exact hb.2), mx_at j0 j8]
    exact c.1 j j0 j8) (fun k hk => absurd hk (by omega))
  obtain ⟨M', k1, k2, k3⟩ := k
  refine ⟨M', ?_, k2, (s1.wide (by omega) (by omega)).tr k3⟩
  unfold fX0_become
  simp -dsimp only [↓B1_bp, BP_some, d_laws h, d_laws h', al, L_0, e]
  exact k1
end DBEC
