/-! the bytes that are fed -/
theorem by_hi : ∀ i, i < 32 → 8 ≤ i → (255#32).getLsbD i = false := by decide
theorem byt (v : Int64) (n : Nat) (hn : n ≤ 56) : (BitVec.signExtend 32 (v.toBitVec >>> n)) &&& 255#32 = (BitVec.signExtend 32 (v.toBitVec.sshiftRight n)) &&& 255#32 := by
  apply BitVec.eq_of_getLsbD_eq
  intro i hi
  rw [BitVec.getLsbD_and, BitVec.getLsbD_and]
  by_cases h : i < 8
  · have h1 : i < 32 := hi
    have h2 : n + i < 64 := by omega
    have h3 : ¬ 64 ≤ i := by omega
    have h4 : i < 64 := by omega
    simp only [BitVec.getLsbD_signExtend, BitVec.getLsbD_ushiftRight, BitVec.getLsbD_sshiftRight, h1, h4, if_true]
    simp [h2, h3]
  · rw [by_hi i hi (by omega), Bool.and_false, Bool.and_false]
theorem by_k (k : Nat) (hk : k < 8) (v : Int64) : (ushL v (i2 (8 * (k : Int)))).toInt32 &&& 255 = (shL v (i2 (8 * (k : Int))) &&& 255).toInt32 := by
  have q : k = 0 ∨ k = 1 ∨ k = 2 ∨ k = 3 ∨ k = 4 ∨ k = 5 ∨ k = 6 ∨ k = 7 := by omega
  have b := fun n hn => byt v n hn
  unfold ushL shL
  rcases q with rfl | rfl | rfl | rfl | rfl | rfl | rfl | rfl
  · rw [show ((i2 (8 * ((0 : Nat) : Int))).toInt64.toUInt64 &&& Int64.toUInt64 63) = 0 by decide +kernel, show ((i2 (8 * ((0 : Nat) : Int))).toInt64 &&& 63) = 0 by decide +kernel]
    apply Int32.toBitVec_inj.mp
    simp
  · rw [show ((i2 (8 * ((1 : Nat) : Int))).toInt64.toUInt64 &&& Int64.toUInt64 63) = 8 by decide +kernel, show ((i2 (8 * ((1 : Nat) : Int))).toInt64 &&& 63) = 8 by decide +kernel]
    apply Int32.toBitVec_inj.mp
    simpa using b 8 (by decide)
  · rw [show ((i2 (8 * ((2 : Nat) : Int))).toInt64.toUInt64 &&& Int64.toUInt64 63) = 16 by decide +kernel, show ((i2 (8 * ((2 : Nat) : Int))).toInt64 &&& 63) = 16 by decide +kernel]
    apply Int32.toBitVec_inj.mp
    simpa using b 16 (by decide)
  · rw [show ((i2 (8 * ((3 : Nat) : Int))).toInt64.toUInt64 &&& Int64.toUInt64 63) = 24 by decide +kernel, show ((i2 (8 * ((3 : Nat) : Int))).toInt64 &&& 63) = 24 by decide +kernel]
    apply Int32.toBitVec_inj.mp
    simpa using b 24 (by decide)
  · rw [show ((i2 (8 * ((4 : Nat) : Int))).toInt64.toUInt64 &&& Int64.toUInt64 63) = 32 by decide +kernel, show ((i2 (8 * ((4 : Nat) : Int))).toInt64 &&& 63) = 32 by decide +kernel]
    apply Int32.toBitVec_inj.mp
    simpa using b 32 (by decide)
  · rw [show ((i2 (8 * ((5 : Nat) : Int))).toInt64.toUInt64 &&& Int64.toUInt64 63) = 40 by decide +kernel, show ((i2 (8 * ((5 : Nat) : Int))).toInt64 &&& 63) = 40 by decide +kernel]
    apply Int32.toBitVec_inj.mp
    simpa using b 40 (by decide)
  · rw [show ((i2 (8 * ((6 : Nat) : Int))).toInt64.toUInt64 &&& Int64.toUInt64 63) = 48 by decide +kernel, show ((i2 (8 * ((6 : Nat) : Int))).toInt64 &&& 63) = 48 by decide +kernel]
    apply Int32.toBitVec_inj.mp
    simpa using b 48 (by decide)
  · rw [show ((i2 (8 * ((7 : Nat) : Int))).toInt64.toUInt64 &&& Int64.toUInt64 63) = 56 by decide +kernel, show ((i2 (8 * ((7 : Nat) : Int))).toInt64 &&& 63) = 56 by decide +kernel]
    apply Int32.toBitVec_inj.mp
    simpa using b 56 (by decide)
theorem by_b (x : Int32) : 0 ≤ (x &&& 255).toInt ∧ (x &&& 255).toInt ≤ 255 := by
  have h : (x &&& 255).toBitVec.toNat ≤ 255 := by
    rw [Int32.toBitVec_and, BitVec.toNat_and]
    exact Nat.and_le_right
  have e : (x &&& 255).toInt = ((x &&& 255).toBitVec.toNat : Int) := BitVec.toInt_eq_toNat_of_lt (by show 2 * _ < 2 ^ 32; omega)
  omega
section OPSE
variable {M : Mm} {A : Int → Int}
/-- the cells that a call may leave changed, but for sheets, shelves and bodies -/
def GnP (p : Nat) : Prop := Scr p ∨ p = 0 ∨ p = 109 ∨ p = 110 ∨ p = 164 ∨ p = 166 ∨ p = 169 ∨ (36 ≤ p ∧ p < 71) ∨ (150 ≤ p ∧ p < 160) ∨ p = 170
theorem Inv.gen {M2 : Mm} {A' : Int → Int} (hi : Inv M) (s : SmP GnP M M2) (k : KI M2) (t : TI M2) (r : RI M2) (e20 : gI M2 164 20 = gI M 164 20) (ha : M2.g 165 = rI A') (g : GA A') (c : CR M2 1 A') : Inv M2 := by
  obtain ⟨⟨A, b1, b2, b3, -⟩, k1, k2, k3, k4, k5, k6⟩ := hi
  exact ⟨⟨A', b1.sm s, b2.sm s, by rw [s.1.1]; exact b3, ha, g, c⟩, k, t, r, k4.sm s (by unfold GnP Scr; omega), k5.sm s (by unfold GnP Scr; omega), k6.sm s e20 (by unfold GnP Scr; omega)⟩
/-! a row of ints, each in its range -/
theorem nr_st (g : GA A) {k j : Int} (k0 : 0 ≤ k) (k1 : k < A 0) (j0 : 0 ≤ j) (j9 : j < 13) : nrI A (54 + 13 * k + j) = stA A k j := by
  obtain ⟨a0, a1, a2, a3, a4, a5, a6, a8, a9, a10, a11, a12, -⟩ := g.2.2.2.2.2.2.2 k k0 k1
  have b : -2147483648 ≤ stA A k j ∧ stA A k j < 2147483648 := by
    have q : j = 0 ∨ j = 1 ∨ j = 2 ∨ j = 3 ∨ j = 4 ∨ j = 5 ∨ j = 6 ∨ j = 7 ∨ j = 8 ∨ j = 9 ∨ j = 10 ∨ j = 11 ∨ j = 12 := by omega
    rcases q with rfl | rfl | rfl | rfl | rfl | rfl | rfl | rfl | rfl | rfl | rfl | rfl | rfl <;> omega
  exact nrI_id b.1 b.2
theorem nr_lo (g : GA A) : nrI A 0 = A 0 ∧ nrI A 1 = A 1 ∧ nrI A 2 = A 2 ∧ nrI A 3 = A 3 ∧ (∀ j : Int, 0 ≤ j → j < 8 → nrI A (4 + j) = A (4 + j)) ∧ ∀ w : Int, 0 ≤ w → w < 2 → nrI A (12 + w) = A (12 + w) ∧ ∀ i : Int, 0 ≤ i → i < A (12 + w) → nrI A (14 + 20 * w + 2 * i) = A (14 + 20 * w + 2 * i) ∧ nrI A (14 + 20 * w + 2 * i + 1) = A (14 + 20 * w + 2 * i + 1) := by
  obtain ⟨g0, g1, g2, g3, g4, g5, g6, g7⟩ := g
  refine ⟨nrI_id (by omega) (by omega), nrI_id g1.1 g1.2, nrI_id (by omega) (by omega), nrI_id (by omega) (by omega), fun j j0 j8 => ?_, fun w w0 w1 => ?_⟩
  · obtain ⟨l0, l1, l2, l3, l4, l5, l6, l7⟩ := g5
    have b : -2147483648 ≤ lwA A j ∧ lwA A j < 2147483648 := by
      have q : j = 0 ∨ j = 1 ∨ j = 2 ∨ j = 3 ∨ j = 4 ∨ j = 5 ∨ j = 6 ∨ j = 7 := by omega
      rcases q with rfl | rfl | rfl | rfl | rfl | rfl | rfl | rfl <;> omega
    exact nrI_id b.1 b.2
  · obtain ⟨c1, c2⟩ := g6 w w0 w1
    refine ⟨nrI_id (by omega) (by omega), fun i i0 i1 => ?_⟩
    have q := c2 i i0 i1
    exact ⟨nrI_id (by omega) (by omega), nrI_id (by omega) (by omega)⟩
theorem GA.nr (g : GA A) : GA (nrI A) := by
  obtain ⟨n0, n1, n2, n3, n4, n5⟩ := nr_lo g
  have ns := fun (k j : Int) (k0 : 0 ≤ k) (k1 : k < A 0) (j0 : 0 ≤ j) (j9 : j < 13) => nr_st g k0 k1 j0 j9
  obtain ⟨g0, g1, g2, g3, g4, g5, g6, g7⟩ := g
  refine ⟨?_, ?_, ?_, ?_, ?_, ?_, fun w w0 w1 => ?_, fun k k0 k1 => ?_⟩
  · rw [n0]; exact g0
  · rw [n1]; exact g1
  · rw [n0, n2]; exact g2
  · rw [n0, n3]; exact g3
  · rw [n2, n3]; exact g4
  · have q2 : ∀ j : Int, 0 ≤ j → j < 8 → lwA (nrI A) j = lwA A j := n4
    unfold GL
    rw [q2 0 (by decide) (by decide), q2 1 (by decide) (by decide), q2 2 (by decide) (by decide), q2 3 (by decide) (by decide), q2 4 (by decide) (by decide), q2 5 (by decide) (by decide), q2 6 (by decide) (by decide), q2 7 (by decide) (by decide)]
    exact g5
  · have hc := g6 w w0 w1
    have hn := n5 w w0 w1
    rw [hn.1]
    refine ⟨hc.1, fun i i0 i1 => ?_⟩
    rw [(hn.2 i i0 i1).1, (hn.2 i i0 i1).2]
    exact hc.2 i i0 i1
  · rw [n0] at k1
    exact (g7 k k0 k1).cgS fun j a b => ns k j k0 k1 a b
theorem CR.nr {B : Nat} (c : CR M B A) (g : GA A) : CR M B (nrI A) := by
  obtain ⟨n0, n1, n2, n3, n4, n5⟩ := nr_lo g
  obtain ⟨h1, h2, h3, h4, h5⟩ := c
  refine ⟨fun j a b => ?_, ?_, ?_, fun w hw => ?_, fun k hk => ?_⟩
  · rw [n4 j a b]; exact h1 j a b
  · rw [n0, n1]; exact h2
  · rw [n2, n3]; exact h3
  · have hn := n5 w (by omega) (by omega)
    rw [hn.1]
    refine ⟨(h4 w hw).1, fun i i0 i1 => ?_⟩
    rw [(hn.2 i i0 i1).1, (hn.2 i i0 i1).2]
    exact (h4 w hw).2 i i0 i1
  · rw [n0] at hk
    exact (h5 k hk).cgS fun j a b => nr_st g (by omega) hk a b
theorem op_again (h : LayC M) (hm : LayM M) (c : CR M 1 A) (g : GA A) (ha : M.g 165 = rI A) (hi : Inv M) : Op M (fun M => fX11_again M 0) (fun M => fX12_again M 164) := by
  have k := hi.2.1
  have z : rdI M 0 14 2 = some (i2 (gI M 0 2)) := t_rdI (j := 2) h
  have zm : rdI M 164 15 4 = some (i2 (gI M 0 2)) := by rw [k.1]; exact m_rdI (j := 4) hm
  rcases k.2 with e | ⟨e, gk, ck⟩
  · rw [e] at z zm
    refine ⟨i2 (-3), M, M, ?_, ?_, hi⟩
    · show fX11_again M 0 = _
      unfold fX11_again
      simp -dsimp (disch := omega) only [↓B1_bp, ↓B2_bp, BP_some, BQ_some, ↓reduceIte, L_0, L_1, L_2, L_3, L_4, L_5, L_6, L_7, L_8, L_9, L_10, L_11, L_12, L_13, L_54, L_14, L_99, L_20, L_30, L_31, L_60, L_19, i2_add, i2_sub, i2_mul, i2_neg, Int.reduceAdd, Int.reduceSub, Int.reduceMul, Int.reduceNeg, Int.reduceLT, Int.reduceLE, Int.reduceEq, i2_le, i2_lt, i2_eq, uA_self, uA_ne, tf_0, not_true_eq_false, not_false_eq_true, L_15, L_40, L_100, L_101, L_200, L_999, ↓NL_bp, BNP_none, BNP_some, and_self, if_true, if_false, and_true, true_and, and_false, false_and, t_now h, d_gk (t_d1 h), z]
    · show fX12_again M 164 = _
      unfold fX12_again
      simp -dsimp (disch := omega) only [↓B1_bp, ↓B2_bp, BP_some, BQ_some, ↓reduceIte, L_0, L_1, L_2, L_3, L_4, L_5, L_6, L_7, L_8, L_9, L_10, L_11, L_12, L_13, L_54, L_14, L_99, L_20, L_30, L_31, L_60, L_19, i2_add, i2_sub, i2_mul, i2_neg, Int.reduceAdd, Int.reduceSub, Int.reduceMul, Int.reduceNeg, Int.reduceLT, Int.reduceLE, Int.reduceEq, i2_le, i2_lt, i2_eq, uA_self, uA_ne, tf_0, not_true_eq_false, not_false_eq_true, zm]
  · rw [e] at z zm
    obtain ⟨M1, p1, c1, s1⟩ := c_dbecome (B := 1) (B' := 36) (by decide) gk (t_d1 h) (t_d36 h) ck
    have h1 := h.same s1
    have hm1 := hm.same s1
    have cnt := d_cnt (t_d1 h1) c1
    have e166 : gI M1 166 = gI M 166 := gI_of (s1.2 166 (by decide))
    have mb := m_become (M := M1) (p := 166) (q := 165) (P := gI M 166) (Q := gI M1 165) (ar_s hm1) (fun i i0 i9 => by rw [← e166]; exact g_alI (ar_k hm1) i0 i9 (by omega)) (by decide)
    rw [row_gI] at mb
    have eK : E158 (mx (gI M 166) (gI M1 165) 158) (gI M 166) := fun y a b => mx_at a b
    have zm1 : rdI M1 164 15 4 = some (i2 1) := by
      rw [m_rdI (j := 4) hm1, gI_of (s1.2 164 (by decide)), show gI M 164 (4 : Nat) = gI M 0 2 from k.1.symm, e]
    have cn := m_al (A := mx (gI M 166) (gI M1 165) 158) hm1 (show 0 ≤ (0 : Int) by decide) (show (0 : Int) < 158 by decide)
    rw [mx_at (show 0 ≤ (0 : Int) by decide) (by decide)] at cn
    refine OpR.op hi (A := A) ⟨i2 (gI M 166 0), M1, mx (gI M 166) (gI M1 165) 158, ?_, s1, ?_, c1.e eK gk, gk.e eK⟩
    · show fX11_again M 0 = _
      unfold fX11_again
      simp -dsimp (disch := omega) only [↓B1_bp, ↓B2_bp, BP_some, BQ_some, ↓reduceIte, L_0, L_1, L_2, L_3, L_4, L_5, L_6, L_7, L_8, L_9, L_10, L_11, L_12, L_13, L_54, L_14, L_99, L_20, L_30, L_31, L_60, L_19, i2_add, i2_sub, i2_mul, i2_neg, Int.reduceAdd, Int.reduceSub, Int.reduceMul, Int.reduceNeg, Int.reduceLT, Int.reduceLE, Int.reduceEq, i2_le, i2_lt, i2_eq, uA_self, uA_ne, tf_0, not_true_eq_false, not_false_eq_true, L_15, L_40, L_100, L_101, L_200, L_999, ↓NL_bp, BNP_none, BNP_some, and_self, if_true, if_false, and_true, true_and, and_false, false_and, t_now h, d_gk (t_d1 h), z, t_kept h, p1, t_now h1, cnt]
    · show fX12_again M1 164 = _
      unfold fX12_again
      simp -dsimp (disch := omega) only [↓B1_bp, ↓B2_bp, BP_some, BQ_some, ↓reduceIte, L_0, L_1, L_2, L_3, L_4, L_5, L_6, L_7, L_8, L_9, L_10, L_11, L_12, L_13, L_54, L_14, L_99, L_20, L_30, L_31, L_60, L_19, i2_add, i2_sub, i2_mul, i2_neg, Int.reduceAdd, Int.reduceSub, Int.reduceMul, Int.reduceNeg, Int.reduceLT, Int.reduceLE, Int.reduceEq, i2_le, i2_lt, i2_eq, uA_self, uA_ne, tf_0, not_true_eq_false, not_false_eq_true, zm1, rdm0 hm1, rdm1 hm1, mb, rdN_row, cn]
theorem wrZ_1 {M : Mm} {p kd j : Nat} (h : M.k p = kd) (hj : j < 100) : wrZ M p kd j (i2 1) = some (M.row p (uA (gI M p) j 1)) := by
  have q := g_wrI (M := M) (p := p) (kd := kd) (j := j) (v := 1) h hj
  unfold wrI at q
  rw [if_pos h] at q
  unfold wrZ
  rw [if_pos ⟨h, Or.inr L_1.symm⟩, q]
theorem wrZ_0 {M : Mm} {p kd j : Nat} (h : M.k p = kd) (hj : j < 100) : wrZ M p kd j (i2 0) = some (M.row p (uA (gI M p) j 0)) := by
  have q := g_wrI (M := M) (p := p) (kd := kd) (j := j) (v := 0) h hj
  unfold wrI at q
  rw [if_pos h] at q
  unfold wrZ
  rw [if_pos ⟨h, Or.inl L_0.symm⟩, q]
def KeP (p : Nat) : Prop := p = 0 ∨ (36 ≤ p ∧ p < 71) ∨ p = 164 ∨ p = 166
/-- what keep leaves behind -/
theorem keep_inv {M2 : Mm} (hi : Inv M) (g : GA A) (ha : M.g 165 = rI A) (c : CR M 1 A) (s : SmP KeP M M2) (z2 : gI M2 0 2 = 1) (z7 : gI M2 0 7 = gI M 0 7) (y4 : gI M2 164 4 = 1) (y : ∀ j : Int, 0 ≤ j → j ≠ 4 → gI M2 164 j = gI M 164 j) (k : E158 (gI M2 166) (nrI A)) (c36 : CR M2 36 A) : Inv M2 := by
  obtain ⟨k1, k2, k3, k4, k5, k6⟩ := hi.2
  refine Inv.gen (A' := A) hi (s.mono fun p hp => by unfold KeP at hp; unfold GnP Scr; omega) ⟨by rw [z2, y4], Or.inr ⟨z2, g.nr.e k, (c36.nr g).e k g.nr⟩⟩ (k2.sm s (by rw [gI_of (s.2 109 (by unfold KeP; omega))]) (y 6 (by decide) (by decide)) (by unfold KeP; omega)) (k3.sm s z7 (y 11 (by decide) (by decide)) (by unfold KeP; omega)) (y 20 (by decide) (by decide)) ((s.2 165 (by unfold KeP; omega)).trans ha) g (c.sm s (fun p a b z => by unfold KeP at z; omega) g.1.2)
theorem op_keep (h : LayC M) (hm : LayM M) (c : CR M 1 A) (g : GA A) (ha : M.g 165 = rI A) (hi : Inv M) : Op M (fun M => fX11_keep M 0) (fun M => fX12_keep M 164) := by
  obtain ⟨M1, p1, c1, s1⟩ := c_dbecome (B := 36) (B' := 1) (by decide) g (t_d36 h) (t_d1 h) c
  have h1 := h.same s1
  have hm1 := hm.same s1
  have w1 := wrZ_1 (M := M1) (p := 0) (kd := 14) (j := 2) h1.1.1 (by decide)
  rw [show ((2 : Nat) : Int) = 2 from rfl] at w1
  have s2 := Same.row M1 0 (uA (gI M1 0) 2 1)
  have hm2 := hm1.same s2
  have a2 : (M1.row 0 (uA (gI M1 0) 2 1)).g 165 = rI A := ((s2.2 165 (by decide)).trans (s1.2 165 (by decide))).trans ha
  have e2 : M1.row 0 (uA (gI M1 0) 2 1) = (M1.row 0 (uA (gI M1 0) 2 1)).row 165 A := row_of a2
  have z0 : gI (M1.row 0 (uA (gI M1 0) 2 1)) 0 2 = 1 := gI_u (by decide) (by decide) (by decide)
  have z7 : gI (M1.row 0 (uA (gI M1 0) 2 1)) 0 7 = gI M 0 7 := by rw [gI_u_ne (by decide) (by decide), gI_of (s1.2 0 (by decide))]
  have c36 : CR (M1.row 0 (uA (gI M1 0) 2 1)) 36 A := c1.same s2 (by omega) g.1.2
  have sA : SmP KeP M (M1.row 0 (uA (gI M1 0) 2 1)) := (SmP.of s1 fun p a b => by unfold KeP; omega).tr (SmP.row M1 _ (by unfold KeP; omega))
  have y0 : gI (M1.row 0 (uA (gI M1 0) 2 1)) 164 = gI M 164 := by rw [gI_ne _ (by decide), gI_of (s1.2 164 (by decide))]
  generalize M1.row 0 (uA (gI M1 0) 2 1) = N at w1 hm2 a2 e2 z0 z7 c36 sA y0
  have mb := m_become (M := N) (p := 165) (q := 166) (P := A) (Q := gI N 166) (ar_k hm2) (fun i i0 i9 => by rw [e2]; exact m_al hm2 i0 i9) (by decide)
  rw [row_gI] at mb
  have s3 := Same.row N 166 (mx A (gI N 166) 158)
  have hm3 := hm2.same s3
  have w2 := wrZ_1 (M := N.row 166 (mx A (gI N 166) 158)) (p := 164) (kd := 15) (j := 4) hm3.1.1 (by decide)
  rw [show ((4 : Nat) : Int) = 4 from rfl] at w2
  have k166 : E158 (gI (N.row 166 (mx A (gI N 166) 158)) 166) (nrI A) := fun j j0 j9 => by
    rw [gI_row _ _ _ j0]
    unfold nrI
    rw [mx_at j0 j9]
  have sB : SmP KeP N (N.row 166 (mx A (gI N 166) 158)) := SmP.row N _ (by unfold KeP; omega)
  have c36' := c36.same s3 (by omega) g.1.2
  have x0 : gI (N.row 166 (mx A (gI N 166) 158)) 0 = gI N 0 := gI_ne _ (by decide)
  have x4 : gI (N.row 166 (mx A (gI N 166) 158)) 164 = gI M 164 := (gI_ne _ (by decide)).trans y0
  generalize N.row 166 (mx A (gI N 166) 158) = K at mb s3 hm3 w2 k166 sB c36' x0 x4
  have s4 := Same.row K 164 (uA (gI K 164) 4 1)
  refine ⟨i2 1, N, K.row 164 (uA (gI K 164) 4 1), ?_, ?_, keep_inv hi g ha c ((sA.tr sB).tr (SmP.row K _ (by unfold KeP; omega))) ?_ ?_ (gI_u (by decide) (by decide) (by decide)) (fun j j0 jn => by rw [gI_u_ne j0 jn, x4]) (by rw [gI_ne _ (by decide)]; exact k166) (c36'.same s4 (by omega) g.1.2)⟩
  · show fX11_keep M 0 = _
    unfold fX11_keep
    simp -dsimp (disch := omega) only [↓B1_bp, ↓B2_bp, BP_some, BQ_some, ↓reduceIte, L_0, L_1, L_2, L_3, L_4, L_5, L_6, L_7, L_8, L_9, L_10, L_11, L_12, L_13, L_54, L_14, L_99, L_20, L_30, L_31, L_60, L_19, i2_add, i2_sub, i2_mul, i2_neg, Int.reduceAdd, Int.reduceSub, Int.reduceMul, Int.reduceNeg, Int.reduceLT, Int.reduceLE, Int.reduceEq, i2_le, i2_lt, i2_eq, uA_self, uA_ne, tf_0, not_true_eq_false, not_false_eq_true, L_15, L_40, L_100, L_101, L_200, L_999, ↓NL_bp, BNP_none, BNP_some, and_self, if_true, if_false, and_true, true_and, and_false, false_and, t_now h, d_gk (t_d1 h), t_kept h, d_gk (t_d36 h), p1, w1]
  · show fX12_keep N 164 = _
    unfold fX12_keep
    simp -dsimp (disch := omega) only [↓B1_bp, ↓B2_bp, BP_some, BQ_some, ↓reduceIte, L_0, L_1, L_2, L_3, L_4, L_5, L_6, L_7, L_8, L_9, L_10, L_11, L_12, L_13, L_54, L_14, L_99, L_20, L_30, L_31, L_60, L_19, i2_add, i2_sub, i2_mul, i2_neg, Int.reduceAdd, Int.reduceSub, Int.reduceMul, Int.reduceNeg, Int.reduceLT, Int.reduceLE, Int.reduceEq, i2_le, i2_lt, i2_eq, uA_self, uA_ne, tf_0, not_true_eq_false, not_false_eq_true, rdm0 hm2, rdm1 hm2, mb, w2]
  · rw [gI_ne _ (by decide), x0, z0]
  · rw [gI_ne _ (by decide), x0, z7]
end OPSE
