section ACTC
variable {M X : Mm}
/-- the thing th of kind kd holds n and a; the bodies bl ran; p: parted -/
def CA (M X : Mm) (th kd : Nat) (n a : Int) (bl : List Int) (p : Int) : Prop := Nx (LiP M) (LiP M) NoP M X ∧ (M.n ≤ th ∧ th < X.n ∧ 179 ≤ M.n) ∧ (X.k th = kd ∧ kd ≠ 27) ∧ (gI X th 0 = n ∧ gI X th 1 = a ∧ gI X th 3 = p) ∧ X.r th 2 = some 163 ∧ LiI X bl
theorem ca_rd {th kd : Nat} {n a p : Int} {bl : List Int} (s : CA M X th kd n a bl p) : rdN X th kd 2 = some 163 ∧ gk X 163 2 = some () ∧ gk X th kd = some () ∧ rdI X th kd 0 = some (i2 n) ∧ rdI X th kd 1 = some (i2 a) ∧ rdI X th kd 3 = some (i2 p) := by
  obtain ⟨s1, s2, ⟨s3, -⟩, ⟨s4, s5, s6⟩, s7, s8⟩ := s
  refine ⟨?_, if_pos s8.1, if_pos s3, ?_, ?_, ?_⟩
  · unfold rdN
    rw [if_pos s3]
    exact s7
  · rw [g_rdI s3, ← s4]; rfl
  · rw [g_rdI s3, ← s5]; rfl
  · rw [g_rdI s3, ← s6]; rfl
theorem ca_add {th kd : Nat} {n a p b : Int} {bl : List Int} (s : CA M X th kd n a bl p) (hl : bl.length ≤ 12) (b0 : 0 ≤ b) (b9 : b < 128) : ∃ Y, fJx4a65c_add_9ea2d X 163 (i2 b) = some (i2 1, Y) ∧ CA M Y th kd n a (bl ++ [b]) p := by
  obtain ⟨s1, s2, ⟨s3, s3'⟩, ⟨s4, s5, s6⟩, s7, s8⟩ := s
  have n9 : 179 ≤ X.n := Nat.le_trans s2.2.2 s1.1
  obtain ⟨Y, y1, y2, y3⟩ := c_add n9 s8 hl b0 b9
  have np : ¬ LiP X th := fun z => z.elim (fun e => by omega) fun e => s3' (s3.symm.trans e.2)
  have gY : gI Y th = gI X th := gI_of (y3.2.2.1 th s2.2.1 np)
  exact ⟨Y, y1, s1.go y3, ⟨s2.1, Nat.lt_of_lt_of_le s2.2.1 y3.1, s2.2.2⟩, ⟨(y3.2.1 th s2.2.1).1.trans s3, s3'⟩, ⟨by rw [gY]; exact s4, by rw [gY]; exact s5, by rw [gY]; exact s6⟩, by rw [y3.2.2.2.1 th s2.2.1 np]; exact s7, y2⟩
theorem vo (M : Mm) {b : Int} (b0 : 0 ≤ b) (b9 : b < 128) : fJ6_valueOf_2dffe M (i2 b) = some (i2 b) := by
  have ib : ibx (i2 b) = some (i2 b) := by
    unfold ibx
    rw [if_pos]
    rw [i2_inB (by omega) (by omega), Bool.and_eq_true, decide_eq_true_eq, decide_eq_true_eq]
    omega
  unfold fJ6_valueOf_2dffe
  rw [show (-128 : Int32) = i2 (-128) by decide +kernel, show (127 : Int32) = i2 127 by decide +kernel, if_neg (by rw [i2_lt (by omega) (by omega) (by decide) (by decide)]; omega), if_neg (by rw [i2_lt (by decide) (by decide) (by omega) (by omega)]; omega), ib, B1_some]
theorem ca_part {th kd : Nat} {n a p : Int} {bl : List Int} (s : CA M X th kd n a bl p) : ∃ Y, wrZ X th kd 3 (i2 1) = some Y ∧ CA M Y th kd n a bl 1 := by
  obtain ⟨s1, s2, ⟨s3, s3'⟩, ⟨s4, s5, s6⟩, s7, ⟨l1, l2, l3, l4⟩⟩ := s
  have n9 : 179 ≤ X.n := Nat.le_trans s2.2.2 s1.1
  have w := wrZ_1 (M := X) (p := th) (kd := kd) (j := 3) s3 (by decide)
  rw [show ((3 : Nat) : Int) = 3 from rfl] at w
  have th9 : th ≠ 163 := by omega
  refine ⟨_, w, ?_, s2, ⟨by rw [row_k]; exact s3, s3'⟩, ⟨?_, ?_, gI_u (by decide) (by decide) (by decide)⟩, by rw [row_r]; exact s7, by rw [row_k]; exact l1, by rw [gI_ne _ (Ne.symm th9)]; exact l2, l3, ?_⟩
  · obtain ⟨x1, x2, x3, x4, x5⟩ := s1
    exact ⟨x1, x2, fun p hp q => (row_g_ne _ (by omega)).trans (x3 p hp q), x4, x5⟩
  · rw [gI_u_ne (by decide) (by decide)]; exact s4
  · rw [gI_u_ne (by decide) (by decide)]; exact s5
  · refine l4.imp (fun z => by rw [row_r]; exact z) fun ⟨o, r, ⟨a1, a2⟩, a3, a4, a5, a6⟩ => ⟨o, by rw [row_r]; exact r, ⟨a1, by rw [row_n]; exact a2⟩, by rw [row_k]; exact a3, by rw [row_len]; exact a4, by rw [row_len]; exact a5, fun i hi => ?_⟩
    have ne : o ≠ th := fun e => s3' (by rw [e] at a3; exact s3.symm.trans a3)
    rw [gI_ne _ ne, row_r]
    exact a6 i hi
/-! the reference's act -/
def RA (M Y : Mm) (k n a : Int) (bl : List Int) (p : Int) : Prop := SmP (fun q => q = 164 ∨ q = 178) M Y ∧ LayM Y ∧ (gI Y 164 20 = bl.length ∧ bl.length ≤ 30) ∧ (gI Y 164 21 = k ∧ gI Y 164 22 = n ∧ gI Y 164 23 = a ∧ gI Y 164 24 = p) ∧ (∀ j : Int, 0 ≤ j → j < 20 → gI Y 164 j = gI M 164 j) ∧ ∀ i : Nat, i < bl.length → gI Y 178 i = bl.getD i 0
theorem ra_rd {Y : Mm} {k n a p : Int} {bl : List Int} (s : RA M Y k n a bl p) : gk Y 164 15 = some () ∧ rdI Y 164 15 21 = some (i2 k) ∧ rdI Y 164 15 22 = some (i2 n) ∧ rdI Y 164 15 23 = some (i2 a) ∧ rdI Y 164 15 24 = some (i2 p) := by
  obtain ⟨-, h, -, ⟨s1, s2, s3, s4⟩, -⟩ := s
  refine ⟨gk_m h, ?_, ?_, ?_, ?_⟩
  · rw [m_rdI h, ← s1]; rfl
  · rw [m_rdI h, ← s2]; rfl
  · rw [m_rdI h, ← s3]; rfl
  · rw [m_rdI h, ← s4]; rfl
theorem ra_add {Y : Mm} {k n a p b : Int} {bl : List Int} (s : RA M Y k n a bl p) (hl : bl.length < 30) (b0 : 0 ≤ b) (b9 : b < 128) : ∃ Z, fX12_runs_ Y 164 (i2 b) = some Z ∧ RA M Z k n a (bl ++ [b]) p := by
  obtain ⟨s0, h, ⟨s1, s2⟩, ⟨s3, s4, s5, s6⟩, s7, s8⟩ := s
  have rd : rdI Y 164 15 20 = some (i2 bl.length) := by rw [m_rdI h, ← s1]; rfl
  have as1 := g_asI (M := Y) (ar_78 h) (x := bl.length) (v := b) (by omega) (by omega) (by omega)
  have rd1 : rdI (Y.row 178 (uA (gI Y 178) bl.length b)) 164 15 20 = some (i2 bl.length) := by rw [rdI_row (by decide), rd]
  have h1 := h.same (Same.row Y 178 (uA (gI Y 178) bl.length b))
  have w := g_wrI (M := Y.row 178 (uA (gI Y 178) bl.length b)) (p := 164) (kd := 15) (j := 20) (v := bl.length + 1) h1.1.1 (by decide)
  rw [gI_ne _ (by decide), show ((20 : Nat) : Int) = 20 from rfl] at w
  have q : ¬ (30 : Int) ≤ bl.length := by omega
  have o : ∀ j : Int, 0 ≤ j → j ≠ 20 → gI ((Y.row 178 (uA (gI Y 178) bl.length b)).row 164 (uA (gI Y 164) 20 (bl.length + 1))) 164 j = gI Y 164 j := fun j j0 jn => by
    have nb := gI_b Y 164 j
    rw [gI_at j0 (by rw [uA_ne jn]; exact nb.1) (by rw [uA_ne jn]; exact nb.2), uA_ne jn]
  refine ⟨(Y.row 178 (uA (gI Y 178) bl.length b)).row 164 (uA (gI Y 164) 20 (bl.length + 1)), ?_, s0.tr ((SmP.row Y _ (Or.inr rfl)).tr (SmP.row _ _ (Or.inl rfl))), h1.same (Same.row _ 164 _), ⟨?_, ?_⟩, ⟨?_, ?_, ?_, ?_⟩, fun j j0 j1 => ?_, fun i hi => ?_⟩
  · unfold fX12_runs_
    simp -dsimp (disch := omega) only [↓B1_bp, ↓B2_bp, BP_some, BQ_some, ↓reduceIte, L_0, L_1, L_2, L_3, L_4, L_5, L_6, L_7, L_8, L_9, L_10, L_11, L_12, L_13, L_54, L_14, L_99, L_20, L_30, L_31, L_60, L_19, i2_add, i2_sub, i2_mul, i2_neg, Int.reduceAdd, Int.reduceSub, Int.reduceMul, Int.reduceNeg, Int.reduceLT, Int.reduceLE, Int.reduceEq, i2_le, i2_lt, i2_eq, uA_self, uA_ne, tf_0, not_true_eq_false, not_false_eq_true, rd, q, if_false, m_r19 h, as1, rd1, w]
  · rw [gI_at (by decide) (by rw [uA_self]; omega) (by rw [uA_self]; omega), uA_self, List.length_append]
    rfl
  · rw [List.length_append]
    exact hl
  · rw [o 21 (by decide) (by decide)]; exact s3
  · rw [o 22 (by decide) (by decide)]; exact s4
  · rw [o 23 (by decide) (by decide)]; exact s5
  · rw [o 24 (by decide) (by decide)]; exact s6
  · rw [o j j0 (by omega)]; exact s7 j j0 j1
  · rw [List.length_append] at hi
    have hi2 : i < bl.length + 1 := hi
    rw [gI_ne _ (by decide)]
    by_cases e : i = bl.length
    · rw [e, gI_u (by omega) (by omega) (by omega), gd_last]
    · rw [gI_u_ne (by omega) (by omega), gd_init _ (by omega)]
      exact s8 i (by omega)
theorem ra_part {Y : Mm} {k n a p : Int} {bl : List Int} (s : RA M Y k n a bl p) {v : Int} (hv : v = 0 ∨ v = 1) : ∃ Z, wrZ Y 164 15 24 (i2 v) = some Z ∧ RA M Z k n a bl v := by
  obtain ⟨s0, h, ⟨s1, s2⟩, ⟨s3, s4, s5, s6⟩, s7, s8⟩ := s
  have w : wrZ Y 164 15 24 (i2 v) = some (Y.row 164 (uA (gI Y 164) 24 v)) := by
    rcases hv with rfl | rfl
    · exact wrZ_0 (M := Y) (p := 164) (kd := 15) (j := 24) h.1.1 (by decide)
    · exact wrZ_1 (M := Y) (p := 164) (kd := 15) (j := 24) h.1.1 (by decide)
  have o : ∀ j : Int, 0 ≤ j → j ≠ 24 → gI (Y.row 164 (uA (gI Y 164) 24 v)) 164 j = gI Y 164 j := fun j j0 jn => gI_u_ne j0 jn
  refine ⟨_, w, s0.tr (SmP.row Y _ (Or.inl rfl)), h.same (Same.row Y 164 _), ⟨?_, s2⟩, ⟨?_, ?_, ?_, ?_⟩, fun j j0 j1 => ?_, fun i hi => ?_⟩
  · rw [o 20 (by decide) (by decide)]; exact s1
  · rw [o 21 (by decide) (by decide)]; exact s3
  · rw [o 22 (by decide) (by decide)]; exact s4
  · rw [o 23 (by decide) (by decide)]; exact s5
  · exact gI_u (by decide) (by omega) (by omega)
  · rw [o j j0 (by omega)]; exact s7 j j0 j1
  · rw [gI_ne _ (by decide)]; exact s8 i hi
theorem m3c (y : Int32) : i2 3 * y = y * i2 3 := Int32.mul_comm _ _
theorem m2c (y : Int32) : i2 2 * y = y * i2 2 := Int32.mul_comm _ _
theorem ngc (y : Int32) : -y = i2 0 - y := by rw [← L_0, Int32.zero_sub]
theorem ca_r4_0 {th : Nat} {n a p : Int} {bl : List Int} (s : CA M X th 7 n a bl p) (hl : bl.length + 1 ≤ 13) (x : Int32) : ∃ Y, fX4_runs_k7 X th x = some (x + i2 n, Y) ∧ CA M Y th 7 n a (bl ++ [10]) p := by
  obtain ⟨sa, sb, sc, sd, se, sf⟩ := ca_rd s
  obtain ⟨Y1, y1, s1⟩ := ca_add s (b := 10) (by omega) (by decide) (by decide)
  obtain ⟨s1a, s1b, s1c, s1d, s1e, s1f⟩ := ca_rd s1
  refine ⟨_, ?_, by simpa using s1⟩
  unfold fX4_runs_k7
  simp -dsimp (disch := omega) only [↓B1_bp, ↓B2_bp, BP_some, BQ_some, ↓reduceIte, L_0, L_1, L_2, L_3, L_4, L_5, L_10, L_11, L_12, L_13, L_20, L_30, L_31, L_40, L_41, L_50, L_51, L_60, L_61, i2_eq, Int.reduceEq, if_true, if_false, vo, sa, sb, sc, sd, se, sf, y1, s1a, s1b, s1c, s1d, s1e, s1f]
theorem ca_r4_1 {th : Nat} {n a p : Int} {bl : List Int} (s : CA M X th 8 n a bl p) (hl : bl.length + 1 ≤ 13) (x : Int32) : ∃ Y, fX4_runs_k8 X th x = some (x + i2 n, Y) ∧ CA M Y th 8 n a (bl ++ [10]) p := by
  obtain ⟨sa, sb, sc, sd, se, sf⟩ := ca_rd s
  obtain ⟨Y1, y1, s1⟩ := ca_add s (b := 10) (by omega) (by decide) (by decide)
  obtain ⟨s1a, s1b, s1c, s1d, s1e, s1f⟩ := ca_rd s1
  refine ⟨_, ?_, by simpa using s1⟩
  unfold fX4_runs_k8
  simp -dsimp (disch := omega) only [↓B1_bp, ↓B2_bp, BP_some, BQ_some, ↓reduceIte, L_0, L_1, L_2, L_3, L_4, L_5, L_10, L_11, L_12, L_13, L_20, L_30, L_31, L_40, L_41, L_50, L_51, L_60, L_61, i2_eq, Int.reduceEq, if_true, if_false, vo, sa, sb, sc, sd, se, sf, y1, s1a, s1b, s1c, s1d, s1e, s1f]
theorem ca_r4_2 {th : Nat} {n a p : Int} {bl : List Int} (s : CA M X th 12 n a bl p) (hl : bl.length + 1 ≤ 13) (x : Int32) : ∃ Y, fX4_runs_k12 X th x = some (x + i2 n, Y) ∧ CA M Y th 12 n a (bl ++ [10]) p := by
  obtain ⟨sa, sb, sc, sd, se, sf⟩ := ca_rd s
  obtain ⟨Y1, y1, s1⟩ := ca_add s (b := 10) (by omega) (by decide) (by decide)
  obtain ⟨s1a, s1b, s1c, s1d, s1e, s1f⟩ := ca_rd s1
  refine ⟨_, ?_, by simpa using s1⟩
  unfold fX4_runs_k12
  simp -dsimp (disch := omega) only [↓B1_bp, ↓B2_bp, BP_some, BQ_some, ↓reduceIte, L_0, L_1, L_2, L_3, L_4, L_5, L_10, L_11, L_12, L_13, L_20, L_30, L_31, L_40, L_41, L_50, L_51, L_60, L_61, i2_eq, Int.reduceEq, if_true, if_false, vo, sa, sb, sc, sd, se, sf, y1, s1a, s1b, s1c, s1d, s1e, s1f]
theorem ca_r4_3 {th : Nat} {n a p : Int} {bl : List Int} (s : CA M X th 5 n a bl p) (hl : bl.length + 1 ≤ 13) (x : Int32) : ∃ Y, fX4_runs_k5 X th x = some (x + i2 n, Y) ∧ CA M Y th 5 n a (bl ++ [10]) p := by
  obtain ⟨sa, sb, sc, sd, se, sf⟩ := ca_rd s
  obtain ⟨Y1, y1, s1⟩ := ca_add s (b := 10) (by omega) (by decide) (by decide)
  obtain ⟨s1a, s1b, s1c, s1d, s1e, s1f⟩ := ca_rd s1
  refine ⟨_, ?_, by simpa using s1⟩
  unfold fX4_runs_k5
  simp -dsimp (disch := omega) only [↓B1_bp, ↓B2_bp, BP_some, BQ_some, ↓reduceIte, L_0, L_1, L_2, L_3, L_4, L_5, L_10, L_11, L_12, L_13, L_20, L_30, L_31, L_40, L_41, L_50, L_51, L_60, L_61, i2_eq, Int.reduceEq, if_true, if_false, vo, sa, sb, sc, sd, se, sf, y1, s1a, s1b, s1c, s1d, s1e, s1f]
theorem ca_r4_4 {th : Nat} {n a p : Int} {bl : List Int} (s : CA M X th 4 n a bl p) (hl : bl.length + 1 ≤ 13) (x : Int32) : ∃ Y, fX4_runs_k4 X th x = some (x + i2 n, Y) ∧ CA M Y th 4 n a (bl ++ [10]) p := by
  obtain ⟨sa, sb, sc, sd, se, sf⟩ := ca_rd s
  obtain ⟨Y1, y1, s1⟩ := ca_add s (b := 10) (by omega) (by decide) (by decide)
  obtain ⟨s1a, s1b, s1c, s1d, s1e, s1f⟩ := ca_rd s1
  refine ⟨_, ?_, by simpa using s1⟩
  unfold fX4_runs_k4
  simp -dsimp (disch := omega) only [↓B1_bp, ↓B2_bp, BP_some, BQ_some, ↓reduceIte, L_0, L_1, L_2, L_3, L_4, L_5, L_10, L_11, L_12, L_13, L_20, L_30, L_31, L_40, L_41, L_50, L_51, L_60, L_61, i2_eq, Int.reduceEq, if_true, if_false, vo, sa, sb, sc, sd, se, sf, y1, s1a, s1b, s1c, s1d, s1e, s1f]
theorem ca_r4_5 {th : Nat} {n a p : Int} {bl : List Int} (s : CA M X th 6 n a bl p) (hl : bl.length + 1 ≤ 13) (x : Int32) : ∃ Y, fX4_runs_k6 X th x = some (x + i2 n, Y) ∧ CA M Y th 6 n a (bl ++ [10]) p := by
  obtain ⟨sa, sb, sc, sd, se, sf⟩ := ca_rd s
  obtain ⟨Y1, y1, s1⟩ := ca_add s (b := 10) (by omega) (by decide) (by decide)
  obtain ⟨s1a, s1b, s1c, s1d, s1e, s1f⟩ := ca_rd s1
  refine ⟨_, ?_, by simpa using s1⟩
  unfold fX4_runs_k6
  simp -dsimp (disch := omega) only [↓B1_bp, ↓B2_bp, BP_some, BQ_some, ↓reduceIte, L_0, L_1, L_2, L_3, L_4, L_5, L_10, L_11, L_12, L_13, L_20, L_30, L_31, L_40, L_41, L_50, L_51, L_60, L_61, i2_eq, Int.reduceEq, if_true, if_false, vo, sa, sb, sc, sd, se, sf, y1, s1a, s1b, s1c, s1d, s1e, s1f]
theorem ca_r9_2 {th : Nat} {n a p : Int} {bl : List Int} (s : CA M X th 12 n a bl p) (hl : bl.length + 2 ≤ 13) (x : Int32) : ∃ Y, fX9_runs_k12 X th x = some ((x + i2 n) * i2 3, Y) ∧ CA M Y th 12 n a (bl ++ [30, 10]) p := by
  obtain ⟨sa, sb, sc, sd, se, sf⟩ := ca_rd s
  obtain ⟨Y1, y1, s1⟩ := ca_add s (b := 30) (by omega) (by decide) (by decide)
  obtain ⟨s1a, s1b, s1c, s1d, s1e, s1f⟩ := ca_rd s1
  obtain ⟨Y2, y2, s2⟩ := ca_r4_2 s1 (by simp; omega) (x)
  obtain ⟨s2a, s2b, s2c, s2d, s2e, s2f⟩ := ca_rd s2
  refine ⟨_, ?_, by simpa using s2⟩
  unfold fX9_runs_k12
  simp -dsimp (disch := omega) only [↓B1_bp, ↓B2_bp, BP_some, BQ_some, ↓reduceIte, L_0, L_1, L_2, L_3, L_4, L_5, L_10, L_11, L_12, L_13, L_20, L_30, L_31, L_40, L_41, L_50, L_51, L_60, L_61, i2_eq, Int.reduceEq, if_true, if_false, vo, sa, sb, sc, sd, se, sf, y1, s1a, s1b, s1c, s1d, s1e, s1f, y2, s2a, s2b, s2c, s2d, s2e, s2f]
theorem ca_r9_4 {th : Nat} {n a p : Int} {bl : List Int} (s : CA M X th 4 n a bl p) (hl : bl.length + 2 ≤ 13) (x : Int32) : ∃ Y, fX9_runs_k4 X th x = some ((x + i2 n) * i2 3, Y) ∧ CA M Y th 4 n a (bl ++ [30, 10]) p := by
  obtain ⟨sa, sb, sc, sd, se, sf⟩ := ca_rd s
  obtain ⟨Y1, y1, s1⟩ := ca_add s (b := 30) (by omega) (by decide) (by decide)
  obtain ⟨s1a, s1b, s1c, s1d, s1e, s1f⟩ := ca_rd s1
  obtain ⟨Y2, y2, s2⟩ := ca_r4_4 s1 (by simp; omega) (x)
  obtain ⟨s2a, s2b, s2c, s2d, s2e, s2f⟩ := ca_rd s2
  refine ⟨_, ?_, by simpa using s2⟩
  unfold fX9_runs_k4
  simp -dsimp (disch := omega) only [↓B1_bp, ↓B2_bp, BP_some, BQ_some, ↓reduceIte, L_0, L_1, L_2, L_3, L_4, L_5, L_10, L_11, L_12, L_13, L_20, L_30, L_31, L_40, L_41, L_50, L_51, L_60, L_61, i2_eq, Int.reduceEq, if_true, if_false, vo, sa, sb, sc, sd, se, sf, y1, s1a, s1b, s1c, s1d, s1e, s1f, y2, s2a, s2b, s2c, s2d, s2e, s2f]
theorem ca_r1_4 {th : Nat} {n a p : Int} {bl : List Int} (s : CA M X th 4 n a bl p) (hl : bl.length + 3 ≤ 13) (x : Int32) : ∃ Y, fX1_runs_k4 X th x = some (i2 0 - (x + i2 n) * i2 3, Y) ∧ CA M Y th 4 n a (bl ++ [40, 30, 10]) p := by
  obtain ⟨sa, sb, sc, sd, se, sf⟩ := ca_rd s
  obtain ⟨Y1, y1, s1⟩ := ca_add s (b := 40) (by omega) (by decide) (by decide)
  obtain ⟨s1a, s1b, s1c, s1d, s1e, s1f⟩ := ca_rd s1
  obtain ⟨Y2, y2, s2⟩ := ca_r9_4 s1 (by simp; omega) (x)
  obtain ⟨s2a, s2b, s2c, s2d, s2e, s2f⟩ := ca_rd s2
  refine ⟨_, ?_, by simpa using s2⟩
  unfold fX1_runs_k4
  simp -dsimp (disch := omega) only [↓B1_bp, ↓B2_bp, BP_some, BQ_some, ↓reduceIte, L_0, L_1, L_2, L_3, L_4, L_5, L_10, L_11, L_12, L_13, L_20, L_30, L_31, L_40, L_41, L_50, L_51, L_60, L_61, i2_eq, Int.reduceEq, if_true, if_false, vo, sa, sb, sc, sd, se, sf, y1, s1a, s1b, s1c, s1d, s1e, s1f, y2, s2a, s2b, s2c, s2d, s2e, s2f]
theorem ca_r2_3 {th : Nat} {n a p : Int} {bl : List Int} (s : CA M X th 5 n a bl p) (hl : bl.length + 2 ≤ 13) (x : Int32) : ∃ Y, fX2_runs_k5 X th x = some (x + i2 n - i2 n, Y) ∧ CA M Y th 5 n a (bl ++ [51, 10]) p := by
  obtain ⟨sa, sb, sc, sd, se, sf⟩ := ca_rd s
  obtain ⟨Y1, y1, s1⟩ := ca_add s (b := 51) (by omega) (by decide) (by decide)
  obtain ⟨s1a, s1b, s1c, s1d, s1e, s1f⟩ := ca_rd s1
  obtain ⟨Y2, y2, s2⟩ := ca_r4_3 s1 (by simp; omega) (x)
  obtain ⟨s2a, s2b, s2c, s2d, s2e, s2f⟩ := ca_rd s2
  refine ⟨_, ?_, by simpa using s2⟩
  unfold fX2_runs_k5
  simp -dsimp (disch := omega) only [↓B1_bp, ↓B2_bp, BP_some, BQ_some, ↓reduceIte, L_0, L_1, L_2, L_3, L_4, L_5, L_10, L_11, L_12, L_13, L_20, L_30, L_31, L_40, L_41, L_50, L_51, L_60, L_61, i2_eq, Int.reduceEq, if_true, if_false, vo, sa, sb, sc, sd, se, sf, y1, s1a, s1b, s1c, s1d, s1e, s1f, y2, s2a, s2b, s2c, s2d, s2e, s2f]
theorem ca_d4_0 {th : Nat} {n a p : Int} {bl : List Int} (s : CA M X th 7 n a bl p) (hl : bl.length + 2 ≤ 13) (x : Int32) : ∃ Y, fX4_dries_k7 X th x = some ((x + i2 n) * i2 2, Y) ∧ CA M Y th 7 n a (bl ++ [11, 10]) p := by
  obtain ⟨sa, sb, sc, sd, se, sf⟩ := ca_rd s
  obtain ⟨Y1, y1, s1⟩ := ca_add s (b := 11) (by omega) (by decide) (by decide)
  obtain ⟨s1a, s1b, s1c, s1d, s1e, s1f⟩ := ca_rd s1
  obtain ⟨Y2, y2, s2⟩ := ca_r4_0 s1 (by simp; omega) (x)
  obtain ⟨s2a, s2b, s2c, s2d, s2e, s2f⟩ := ca_rd s2
  refine ⟨_, ?_, by simpa using s2⟩
  unfold fX4_dries_k7
  simp -dsimp (disch := omega) only [↓B1_bp, ↓B2_bp, BP_some, BQ_some, ↓reduceIte, L_0, L_1, L_2, L_3, L_4, L_5, L_10, L_11, L_12, L_13, L_20, L_30, L_31, L_40, L_41, L_50, L_51, L_60, L_61, i2_eq, Int.reduceEq, if_true, if_false, vo, sa, sb, sc, sd, se, sf, y1, s1a, s1b, s1c, s1d, s1e, s1f, y2, s2a, s2b, s2c, s2d, s2e, s2f]
theorem ca_d4_1 {th : Nat} {n a p : Int} {bl : List Int} (s : CA M X th 8 n a bl p) (hl : bl.length + 2 ≤ 13) (x : Int32) : ∃ Y, fX4_dries_k8 X th x = some ((x + i2 n) * i2 2, Y) ∧ CA M Y th 8 n a (bl ++ [11, 10]) p := by
  obtain ⟨sa, sb, sc, sd, se, sf⟩ := ca_rd s
  obtain ⟨Y1, y1, s1⟩ := ca_add s (b := 11) (by omega) (by decide) (by decide)
  obtain ⟨s1a, s1b, s1c, s1d, s1e, s1f⟩ := ca_rd s1
  obtain ⟨Y2, y2, s2⟩ := ca_r4_1 s1 (by simp; omega) (x)
  obtain ⟨s2a, s2b, s2c, s2d, s2e, s2f⟩ := ca_rd s2
  refine ⟨_, ?_, by simpa using s2⟩
  unfold fX4_dries_k8
  simp -dsimp (disch := omega) only [↓B1_bp, ↓B2_bp, BP_some, BQ_some, ↓reduceIte, L_0, L_1, L_2, L_3, L_4, L_5, L_10, L_11, L_12, L_13, L_20, L_30, L_31, L_40, L_41, L_50, L_51, L_60, L_61, i2_eq, Int.reduceEq, if_true, if_false, vo, sa, sb, sc, sd, se, sf, y1, s1a, s1b, s1c, s1d, s1e, s1f, y2, s2a, s2b, s2c, s2d, s2e, s2f]
theorem ca_d4_2 {th : Nat} {n a p : Int} {bl : List Int} (s : CA M X th 12 n a bl p) (hl : bl.length + 3 ≤ 13) (x : Int32) : ∃ Y, fX4_dries_k12 X th x = some (((x + i2 n) * i2 3) * i2 2, Y) ∧ CA M Y th 12 n a (bl ++ [11, 30, 10]) p := by
  obtain ⟨sa, sb, sc, sd, se, sf⟩ := ca_rd s
  obtain ⟨Y1, y1, s1⟩ := ca_add s (b := 11) (by omega) (by decide) (by decide)
  obtain ⟨s1a, s1b, s1c, s1d, s1e, s1f⟩ := ca_rd s1
  obtain ⟨Y2, y2, s2⟩ := ca_r9_2 s1 (by simp; omega) (x)
  obtain ⟨s2a, s2b, s2c, s2d, s2e, s2f⟩ := ca_rd s2
  refine ⟨_, ?_, by simpa using s2⟩
  unfold fX4_dries_k12
  simp -dsimp (disch := omega) only [↓B1_bp, ↓B2_bp, BP_some, BQ_some, ↓reduceIte, L_0, L_1, L_2, L_3, L_4, L_5, L_10, L_11, L_12, L_13, L_20, L_30, L_31, L_40, L_41, L_50, L_51, L_60, L_61, i2_eq, Int.reduceEq, if_true, if_false, vo, sa, sb, sc, sd, se, sf, y1, s1a, s1b, s1c, s1d, s1e, s1f, y2, s2a, s2b, s2c, s2d, s2e, s2f]
theorem ca_d4_3 {th : Nat} {n a p : Int} {bl : List Int} (s : CA M X th 5 n a bl p) (hl : bl.length + 3 ≤ 13) (x : Int32) : ∃ Y, fX4_dries_k5 X th x = some ((x + i2 n - i2 n) * i2 2, Y) ∧ CA M Y th 5 n a (bl ++ [11, 51, 10]) p := by
  obtain ⟨sa, sb, sc, sd, se, sf⟩ := ca_rd s
  obtain ⟨Y1, y1, s1⟩ := ca_add s (b := 11) (by omega) (by decide) (by decide)
  obtain ⟨s1a, s1b, s1c, s1d, s1e, s1f⟩ := ca_rd s1
  obtain ⟨Y2, y2, s2⟩ := ca_r2_3 s1 (by simp; omega) (x)
  obtain ⟨s2a, s2b, s2c, s2d, s2e, s2f⟩ := ca_rd s2
  refine ⟨_, ?_, by simpa using s2⟩
  unfold fX4_dries_k5
  simp -dsimp (disch := omega) only [↓B1_bp, ↓B2_bp, BP_some, BQ_some, ↓reduceIte, L_0, L_1, L_2, L_3, L_4, L_5, L_10, L_11, L_12, L_13, L_20, L_30, L_31, L_40, L_41, L_50, L_51, L_60, L_61, i2_eq, Int.reduceEq, if_true, if_false, vo, sa, sb, sc, sd, se, sf, y1, s1a, s1b, s1c, s1d, s1e, s1f, y2, s2a, s2b, s2c, s2d, s2e, s2f]
theorem ca_d4_4 {th : Nat} {n a p : Int} {bl : List Int} (s : CA M X th 4 n a bl p) (hl : bl.length + 4 ≤ 13) (x : Int32) : ∃ Y, fX4_dries_k4 X th x = some ((i2 0 - (x + i2 n) * i2 3) * i2 2, Y) ∧ CA M Y th 4 n a (bl ++ [11, 40, 30, 10]) p := by
  obtain ⟨sa, sb, sc, sd, se, sf⟩ := ca_rd s
  obtain ⟨Y1, y1, s1⟩ := ca_add s (b := 11) (by omega) (by decide) (by decide)
  obtain ⟨s1a, s1b, s1c, s1d, s1e, s1f⟩ := ca_rd s1
  obtain ⟨Y2, y2, s2⟩ := ca_r1_4 s1 (by simp; omega) (x)
  obtain ⟨s2a, s2b, s2c, s2d, s2e, s2f⟩ := ca_rd s2
  refine ⟨_, ?_, by simpa using s2⟩
  unfold fX4_dries_k4
  simp -dsimp (disch := omega) only [↓B1_bp, ↓B2_bp, BP_some, BQ_some, ↓reduceIte, L_0, L_1, L_2, L_3, L_4, L_5, L_10, L_11, L_12, L_13, L_20, L_30, L_31, L_40, L_41, L_50, L_51, L_60, L_61, i2_eq, Int.reduceEq, if_true, if_false, vo, sa, sb, sc, sd, se, sf, y1, s1a, s1b, s1c, s1d, s1e, s1f, y2, s2a, s2b, s2c, s2d, s2e, s2f]
theorem ca_d4_5 {th : Nat} {n a p : Int} {bl : List Int} (s : CA M X th 6 n a bl p) (hl : bl.length + 2 ≤ 13) (x : Int32) : ∃ Y, fX4_dries_k6 X th x = some ((x + i2 n) * i2 2, Y) ∧ CA M Y th 6 n a (bl ++ [11, 10]) p := by
  obtain ⟨sa, sb, sc, sd, se, sf⟩ := ca_rd s
  obtain ⟨Y1, y1, s1⟩ := ca_add s (b := 11) (by omega) (by decide) (by decide)
  obtain ⟨s1a, s1b, s1c, s1d, s1e, s1f⟩ := ca_rd s1
  obtain ⟨Y2, y2, s2⟩ := ca_r4_5 s1 (by simp; omega) (x)
  obtain ⟨s2a, s2b, s2c, s2d, s2e, s2f⟩ := ca_rd s2
  refine ⟨_, ?_, by simpa using s2⟩
  unfold fX4_dries_k6
  simp -dsimp (disch := omega) only [↓B1_bp, ↓B2_bp, BP_some, BQ_some, ↓reduceIte, L_0, L_1, L_2, L_3, L_4, L_5, L_10, L_11, L_12, L_13, L_20, L_30, L_31, L_40, L_41, L_50, L_51, L_60, L_61, i2_eq, Int.reduceEq, if_true, if_false, vo, sa, sb, sc, sd, se, sf, y1, s1a, s1b, s1c, s1d, s1e, s1f, y2, s2a, s2b, s2c, s2d, s2e, s2f]
theorem ca_d5_1 {th : Nat} {n a p : Int} {bl : List Int} (s : CA M X th 8 n a bl p) (hl : bl.length + 3 ≤ 13) (x : Int32) : ∃ Y, fX5_dries_k8 X th x = some ((x + i2 n) * i2 2 - i2 a, Y) ∧ CA M Y th 8 n a (bl ++ [20, 11, 10]) p := by
  obtain ⟨sa, sb, sc, sd, se, sf⟩ := ca_rd s
  obtain ⟨Y1, y1, s1⟩ := ca_add s (b := 20) (by omega) (by decide) (by decide)
  obtain ⟨s1a, s1b, s1c, s1d, s1e, s1f⟩ := ca_rd s1
  obtain ⟨Y2, y2, s2⟩ := ca_d4_1 s1 (by simp; omega) (x)
  obtain ⟨s2a, s2b, s2c, s2d, s2e, s2f⟩ := ca_rd s2
  refine ⟨_, ?_, by simpa using s2⟩
  unfold fX5_dries_k8
  simp -dsimp (disch := omega) only [↓B1_bp, ↓B2_bp, BP_some, BQ_some, ↓reduceIte, L_0, L_1, L_2, L_3, L_4, L_5, L_10, L_11, L_12, L_13, L_20, L_30, L_31, L_40, L_41, L_50, L_51, L_60, L_61, i2_eq, Int.reduceEq, if_true, if_false, vo, sa, sb, sc, sd, se, sf, y1, s1a, s1b, s1c, s1d, s1e, s1f, y2, s2a, s2b, s2c, s2d, s2e, s2f]
theorem ca_d5_3 {th : Nat} {n a p : Int} {bl : List Int} (s : CA M X th 5 n a bl p) (hl : bl.length + 4 ≤ 13) (x : Int32) : ∃ Y, fX5_dries_k5 X th x = some ((x + i2 n - i2 n) * i2 2 - i2 a, Y) ∧ CA M Y th 5 n a (bl ++ [20, 11, 51, 10]) p := by
  obtain ⟨sa, sb, sc, sd, se, sf⟩ := ca_rd s
  obtain ⟨Y1, y1, s1⟩ := ca_add s (b := 20) (by omega) (by decide) (by decide)
  obtain ⟨s1a, s1b, s1c, s1d, s1e, s1f⟩ := ca_rd s1
  obtain ⟨Y2, y2, s2⟩ := ca_d4_3 s1 (by simp; omega) (x)
  obtain ⟨s2a, s2b, s2c, s2d, s2e, s2f⟩ := ca_rd s2
  refine ⟨_, ?_, by simpa using s2⟩
  unfold fX5_dries_k5
  simp -dsimp (disch := omega) only [↓B1_bp, ↓B2_bp, BP_some, BQ_some, ↓reduceIte, L_0, L_1, L_2, L_3, L_4, L_5, L_10, L_11, L_12, L_13, L_20, L_30, L_31, L_40, L_41, L_50, L_51, L_60, L_61, i2_eq, Int.reduceEq, if_true, if_false, vo, sa, sb, sc, sd, se, sf, y1, s1a, s1b, s1c, s1d, s1e, s1f, y2, s2a, s2b, s2c, s2d, s2e, s2f]
theorem ca_d1_4 {th : Nat} {n a p : Int} {bl : List Int} (s : CA M X th 4 n a bl p) (hl : bl.length + 8 ≤ 13) (x : Int32) : ∃ Y, fX1_dries_k4 X th x = some ((i2 0 - (x + i2 n) * i2 3) * i2 2 + (i2 0 - (i2 n + i2 n) * i2 3), Y) ∧ CA M Y th 4 n a (bl ++ [41, 11, 40, 30, 10, 40, 30, 10]) p := by
  obtain ⟨sa, sb, sc, sd, se, sf⟩ := ca_rd s
  obtain ⟨Y1, y1, s1⟩ := ca_add s (b := 41) (by omega) (by decide) (by decide)
  obtain ⟨s1a, s1b, s1c, s1d, s1e, s1f⟩ := ca_rd s1
  obtain ⟨Y2, y2, s2⟩ := ca_d4_4 s1 (by simp; omega) (x)
  obtain ⟨s2a, s2b, s2c, s2d, s2e, s2f⟩ := ca_rd s2
  obtain ⟨Y3, y3, s3⟩ := ca_r1_4 s2 (by simp; omega) (i2 n)
  obtain ⟨s3a, s3b, s3c, s3d, s3e, s3f⟩ := ca_rd s3
  refine ⟨_, ?_, by simpa using s3⟩
  unfold fX1_dries_k4
  simp -dsimp (disch := omega) only [↓B1_bp, ↓B2_bp, BP_some, BQ_some, ↓reduceIte, L_0, L_1, L_2, L_3, L_4, L_5, L_10, L_11, L_12, L_13, L_20, L_30, L_31, L_40, L_41, L_50, L_51, L_60, L_61, i2_eq, Int.reduceEq, if_true, if_false, vo, sa, sb, sc, sd, se, sf, y1, s1a, s1b, s1c, s1d, s1e, s1f, y2, s2a, s2b, s2c, s2d, s2e, s2f, y3, s3a, s3b, s3c, s3d, s3e, s3f]
theorem ca_h4_0_p {th : Nat} {n a p : Int} {bl : List Int} (s : CA M X th 7 n a bl p) (hz : (i2 a - i2 n = i2 0) = True) (hl : bl.length + 1 ≤ 13) (x : Int32) : ∃ Y, fX4_holds_k7 X th x = some (i2 0, Y) ∧ CA M Y th 7 n a (bl ++ [12]) 1 := by
  obtain ⟨sa, sb, sc, sd, se, sf⟩ := ca_rd s
  obtain ⟨Y1, y1, s1⟩ := ca_add s (b := 12) (by omega) (by decide) (by decide)
  obtain ⟨s1a, s1b, s1c, s1d, s1e, s1f⟩ := ca_rd s1
  obtain ⟨Y2, y2, s2⟩ := ca_part s1
  obtain ⟨s2a, s2b, s2c, s2d, s2e, s2f⟩ := ca_rd s2
  refine ⟨_, ?_, by simpa using s2⟩
  unfold fX4_holds_k7
  simp -dsimp (disch := omega) only [↓B1_bp, ↓B2_bp, BP_some, BQ_some, ↓reduceIte, L_0, L_1, L_2, L_3, L_4, L_5, L_10, L_11, L_12, L_13, L_20, L_30, L_31, L_40, L_41, L_50, L_51, L_60, L_61, i2_eq, Int.reduceEq, if_true, if_false, hz, vo, sa, sb, sc, sd, se, sf, y1, s1a, s1b, s1c, s1d, s1e, s1f, y2, s2a, s2b, s2c, s2d, s2e, s2f]
theorem ca_h4_0_q {th : Nat} {n a p : Int} {bl : List Int} (s : CA M X th 7 n a bl p) (hz : (i2 a - i2 n = i2 0) = False) (hl : bl.length + 1 ≤ 13) (x : Int32) : ∃ Y, fX4_holds_k7 X th x = some (x / (i2 a - i2 n), Y) ∧ CA M Y th 7 n a (bl ++ [12]) p := by
  obtain ⟨sa, sb, sc, sd, se, sf⟩ := ca_rd s
  obtain ⟨Y1, y1, s1⟩ := ca_add s (b := 12) (by omega) (by decide) (by decide)
  obtain ⟨s1a, s1b, s1c, s1d, s1e, s1f⟩ := ca_rd s1
  refine ⟨_, ?_, by simpa using s1⟩
  have nz : nzI (i2 a - i2 n) = some () := by
    unfold nzI
    rw [if_neg]
    rw [L_0, hz]
    exact id
  unfold fX4_holds_k7
  simp -dsimp (disch := omega) only [↓B1_bp, ↓B2_bp, BP_some, BQ_some, ↓reduceIte, L_0, L_1, L_2, L_3, L_4, L_5, L_10, L_11, L_12, L_13, L_20, L_30, L_31, L_40, L_41, L_50, L_51, L_60, L_61, i2_eq, Int.reduceEq, if_true, if_false, vo, sa, sb, sc, sd, se, sf, y1, s1a, s1b, s1c, s1d, s1e, s1f, hz, nz]
theorem ca_h4_1_p {th : Nat} {n a p : Int} {bl : List Int} (s : CA M X th 8 n a bl p) (hz : (i2 a - i2 n = i2 0) = True) (hl : bl.length + 1 ≤ 13) (x : Int32) : ∃ Y, fX4_holds_k8 X th x = some (i2 0, Y) ∧ CA M Y th 8 n a (bl ++ [12]) 1 := by
  obtain ⟨sa, sb, sc, sd, se, sf⟩ := ca_rd s
  obtain ⟨Y1, y1, s1⟩ := ca_add s (b := 12) (by omega) (by decide) (by decide)
  obtain ⟨s1a, s1b, s1c, s1d, s1e, s1f⟩ := ca_rd s1
  obtain ⟨Y2, y2, s2⟩ := ca_part s1
  obtain ⟨s2a, s2b, s2c, s2d, s2e, s2f⟩ := ca_rd s2
  refine ⟨_, ?_, by simpa using s2⟩
  unfold fX4_holds_k8
  simp -dsimp (disch := omega) only [↓B1_bp, ↓B2_bp, BP_some, BQ_some, ↓reduceIte, L_0, L_1, L_2, L_3, L_4, L_5, L_10, L_11, L_12, L_13, L_20, L_30, L_31, L_40, L_41, L_50, L_51, L_60, L_61, i2_eq, Int.reduceEq, if_true, if_false, hz, vo, sa, sb, sc, sd, se, sf, y1, s1a, s1b, s1c, s1d, s1e, s1f, y2, s2a, s2b, s2c, s2d, s2e, s2f]
theorem ca_h4_1_q {th : Nat} {n a p : Int} {bl : List Int} (s : CA M X th 8 n a bl p) (hz : (i2 a - i2 n = i2 0) = False) (hl : bl.length + 1 ≤ 13) (x : Int32) : ∃ Y, fX4_holds_k8 X th x = some (x / (i2 a - i2 n), Y) ∧ CA M Y th 8 n a (bl ++ [12]) p := by
  obtain ⟨sa, sb, sc, sd, se, sf⟩ := ca_rd s
  obtain ⟨Y1, y1, s1⟩ := ca_add s (b := 12) (by omega) (by decide) (by decide)
  obtain ⟨s1a, s1b, s1c, s1d, s1e, s1f⟩ := ca_rd s1
  refine ⟨_, ?_, by simpa using s1⟩
  have nz : nzI (i2 a - i2 n) = some () := by
    unfold nzI
    rw [if_neg]
    rw [L_0, hz]
    exact id
  unfold fX4_holds_k8
  simp -dsimp (disch := omega) only [↓B1_bp, ↓B2_bp, BP_some, BQ_some, ↓reduceIte, L_0, L_1, L_2, L_3, L_4, L_5, L_10, L_11, L_12, L_13, L_20, L_30, L_31, L_40, L_41, L_50, L_51, L_60, L_61, i2_eq, Int.reduceEq, if_true, if_false, vo, sa, sb, sc, sd, se, sf, y1, s1a, s1b, s1c, s1d, s1e, s1f, hz, nz]
theorem ca_h4_2_p {th : Nat} {n a p : Int} {bl : List Int} (s : CA M X th 12 n a bl p) (hz : (i2 a - i2 n = i2 0) = True) (hl : bl.length + 1 ≤ 13) (x : Int32) : ∃ Y, fX4_holds_k12 X th x = some (i2 0, Y) ∧ CA M Y th 12 n a (bl ++ [12]) 1 := by
  obtain ⟨sa, sb, sc, sd, se, sf⟩ := ca_rd s
  obtain ⟨Y1, y1, s1⟩ := ca_add s (b := 12) (by omega) (by decide) (by decide)
  obtain ⟨s1a, s1b, s1c, s1d, s1e, s1f⟩ := ca_rd s1
  obtain ⟨Y2, y2, s2⟩ := ca_part s1
  obtain ⟨s2a, s2b, s2c, s2d, s2e, s2f⟩ := ca_rd s2
  refine ⟨_, ?_, by simpa using s2⟩
  unfold fX4_holds_k12
  simp -dsimp (disch := omega) only [↓B1_bp, ↓B2_bp, BP_some, BQ_some, ↓reduceIte, L_0, L_1, L_2, L_3, L_4, L_5, L_10, L_11, L_12, L_13, L_20, L_30, L_31, L_40, L_41, L_50, L_51, L_60, L_61, i2_eq, Int.reduceEq, if_true, if_false, hz, vo, sa, sb, sc, sd, se, sf, y1, s1a, s1b, s1c, s1d, s1e, s1f, y2, s2a, s2b, s2c, s2d, s2e, s2f]
theorem ca_h4_2_q {th : Nat} {n a p : Int} {bl : List Int} (s : CA M X th 12 n a bl p) (hz : (i2 a - i2 n = i2 0) = False) (hl : bl.length + 1 ≤ 13) (x : Int32) : ∃ Y, fX4_holds_k12 X th x = some (x / (i2 a - i2 n), Y) ∧ CA M Y th 12 n a (bl ++ [12]) p := by
  obtain ⟨sa, sb, sc, sd, se, sf⟩ := ca_rd s
  obtain ⟨Y1, y1, s1⟩ := ca_add s (b := 12) (by omega) (by decide) (by decide)
  obtain ⟨s1a, s1b, s1c, s1d, s1e, s1f⟩ := ca_rd s1
  refine ⟨_, ?_, by simpa using s1⟩
  have nz : nzI (i2 a - i2 n) = some () := by
    unfold nzI
    rw [if_neg]
    rw [L_0, hz]
    exact id
  unfold fX4_holds_k12
  simp -dsimp (disch := omega) only [↓B1_bp, ↓B2_bp, BP_some, BQ_some, ↓reduceIte, L_0, L_1, L_2, L_3, L_4, L_5, L_10, L_11, L_12, L_13, L_20, L_30, L_31, L_40, L_41, L_50, L_51, L_60, L_61, i2_eq, Int.reduceEq, if_true, if_false, vo, sa, sb, sc, sd, se, sf, y1, s1a, s1b, s1c, s1d, s1e, s1f, hz, nz]
theorem ca_h4_3_p {th : Nat} {n a p : Int} {bl : List Int} (s : CA M X th 5 n a bl p) (hz : (i2 a - i2 n = i2 0) = True) (hl : bl.length + 1 ≤ 13) (x : Int32) : ∃ Y, fX4_holds_k5 X th x = some (i2 0, Y) ∧ CA M Y th 5 n a (bl ++ [12]) 1 := by
  obtain ⟨sa, sb, sc, sd, se, sf⟩ := ca_rd s
  obtain ⟨Y1, y1, s1⟩ := ca_add s (b := 12) (by omega) (by decide) (by decide)
  obtain ⟨s1a, s1b, s1c, s1d, s1e, s1f⟩ := ca_rd s1
  obtain ⟨Y2, y2, s2⟩ := ca_part s1
  obtain ⟨s2a, s2b, s2c, s2d, s2e, s2f⟩ := ca_rd s2
  refine ⟨_, ?_, by simpa using s2⟩
  unfold fX4_holds_k5
  simp -dsimp (disch := omega) only [↓B1_bp, ↓B2_bp, BP_some, BQ_some, ↓reduceIte, L_0, L_1, L_2, L_3, L_4, L_5, L_10, L_11, L_12, L_13, L_20, L_30, L_31, L_40, L_41, L_50, L_51, L_60, L_61, i2_eq, Int.reduceEq, if_true, if_false, hz, vo, sa, sb, sc, sd, se, sf, y1, s1a, s1b, s1c, s1d, s1e, s1f, y2, s2a, s2b, s2c, s2d, s2e, s2f]
theorem ca_h4_3_q {th : Nat} {n a p : Int} {bl : List Int} (s : CA M X th 5 n a bl p) (hz : (i2 a - i2 n = i2 0) = False) (hl : bl.length + 1 ≤ 13) (x : Int32) : ∃ Y, fX4_holds_k5 X th x = some (x / (i2 a - i2 n), Y) ∧ CA M Y th 5 n a (bl ++ [12]) p := by
  obtain ⟨sa, sb, sc, sd, se, sf⟩ := ca_rd s
  obtain ⟨Y1, y1, s1⟩ := ca_add s (b := 12) (by omega) (by decide) (by decide)
  obtain ⟨s1a, s1b, s1c, s1d, s1e, s1f⟩ := ca_rd s1
  refine ⟨_, ?_, by simpa using s1⟩
  have nz : nzI (i2 a - i2 n) = some () := by
    unfold nzI
    rw [if_neg]
    rw [L_0, hz]
    exact id
  unfold fX4_holds_k5
  simp -dsimp (disch := omega) only [↓B1_bp, ↓B2_bp, BP_some, BQ_some, ↓reduceIte, L_0, L_1, L_2, L_3, L_4, L_5, L_10, L_11, L_12, L_13, L_20, L_30, L_31, L_40, L_41, L_50, L_51, L_60, L_61, i2_eq, Int.reduceEq, if_true, if_false, vo, sa, sb, sc, sd, se, sf, y1, s1a, s1b, s1c, s1d, s1e, s1f, hz, nz]
theorem ca_h4_4_p {th : Nat} {n a p : Int} {bl : List Int} (s : CA M X th 4 n a bl p) (hz : (i2 a - i2 n = i2 0) = True) (hl : bl.length + 1 ≤ 13) (x : Int32) : ∃ Y, fX4_holds_k4 X th x = some (i2 0, Y) ∧ CA M Y th 4 n a (bl ++ [12]) 1 := by
  obtain ⟨sa, sb, sc, sd, se, sf⟩ := ca_rd s
  obtain ⟨Y1, y1, s1⟩ := ca_add s (b := 12) (by omega) (by decide) (by decide)
  obtain ⟨s1a, s1b, s1c, s1d, s1e, s1f⟩ := ca_rd s1
  obtain ⟨Y2, y2, s2⟩ := ca_part s1
  obtain ⟨s2a, s2b, s2c, s2d, s2e, s2f⟩ := ca_rd s2
  refine ⟨_, ?_, by simpa using s2⟩
  unfold fX4_holds_k4
  simp -dsimp (disch := omega) only [↓B1_bp, ↓B2_bp, BP_some, BQ_some, ↓reduceIte, L_0, L_1, L_2, L_3, L_4, L_5, L_10, L_11, L_12, L_13, L_20, L_30, L_31, L_40, L_41, L_50, L_51, L_60, L_61, i2_eq, Int.reduceEq, if_true, if_false, hz, vo, sa, sb, sc, sd, se, sf, y1, s1a, s1b, s1c, s1d, s1e, s1f, y2, s2a, s2b, s2c, s2d, s2e, s2f]
theorem ca_h4_4_q {th : Nat} {n a p : Int} {bl : List Int} (s : CA M X th 4 n a bl p) (hz : (i2 a - i2 n = i2 0) = False) (hl : bl.length + 1 ≤ 13) (x : Int32) : ∃ Y, fX4_holds_k4 X th x = some (x / (i2 a - i2 n), Y) ∧ CA M Y th 4 n a (bl ++ [12]) p := by
  obtain ⟨sa, sb, sc, sd, se, sf⟩ := ca_rd s
  obtain ⟨Y1, y1, s1⟩ := ca_add s (b := 12) (by omega) (by decide) (by decide)
  obtain ⟨s1a, s1b, s1c, s1d, s1e, s1f⟩ := ca_rd s1
  refine ⟨_, ?_, by simpa using s1⟩
  have nz : nzI (i2 a - i2 n) = some () := by
    unfold nzI
    rw [if_neg]
    rw [L_0, hz]
    exact id
  unfold fX4_holds_k4
  simp -dsimp (disch := omega) only [↓B1_bp, ↓B2_bp, BP_some, BQ_some, ↓reduceIte, L_0, L_1, L_2, L_3, L_4, L_5, L_10, L_11, L_12, L_13, L_20, L_30, L_31, L_40, L_41, L_50, L_51, L_60, L_61, i2_eq, Int.reduceEq, if_true, if_false, vo, sa, sb, sc, sd, se, sf, y1, s1a, s1b, s1c, s1d, s1e, s1f, hz, nz]
theorem ca_h4_5_p {th : Nat} {n a p : Int} {bl : List Int} (s : CA M X th 6 n a bl p) (hz : (i2 a - i2 n = i2 0) = True) (hl : bl.length + 1 ≤ 13) (x : Int32) : ∃ Y, fX4_holds_k6 X th x = some (i2 0, Y) ∧ CA M Y th 6 n a (bl ++ [12]) 1 := by
  obtain ⟨sa, sb, sc, sd, se, sf⟩ := ca_rd s
  obtain ⟨Y1, y1, s1⟩ := ca_add s (b := 12) (by omega) (by decide) (by decide)
  obtain ⟨s1a, s1b, s1c, s1d, s1e, s1f⟩ := ca_rd s1
  obtain ⟨Y2, y2, s2⟩ := ca_part s1
  obtain ⟨s2a, s2b, s2c, s2d, s2e, s2f⟩ := ca_rd s2
  refine ⟨_, ?_, by simpa using s2⟩
  unfold fX4_holds_k6
  simp -dsimp (disch := omega) only [↓B1_bp, ↓B2_bp, BP_some, BQ_some, ↓reduceIte, L_0, L_1, L_2, L_3, L_4, L_5, L_10, L_11, L_12, L_13, L_20, L_30, L_31, L_40, L_41, L_50, L_51, L_60, L_61, i2_eq, Int.reduceEq, if_true, if_false, hz, vo, sa, sb, sc, sd, se, sf, y1, s1a, s1b, s1c, s1d, s1e, s1f, y2, s2a, s2b, s2c, s2d, s2e, s2f]
theorem ca_h4_5_q {th : Nat} {n a p : Int} {bl : List Int} (s : CA M X th 6 n a bl p) (hz : (i2 a - i2 n = i2 0) = False) (hl : bl.length + 1 ≤ 13) (x : Int32) : ∃ Y, fX4_holds_k6 X th x = some (x / (i2 a - i2 n), Y) ∧ CA M Y th 6 n a (bl ++ [12]) p := by
  obtain ⟨sa, sb, sc, sd, se, sf⟩ := ca_rd s
  obtain ⟨Y1, y1, s1⟩ := ca_add s (b := 12) (by omega) (by decide) (by decide)
  obtain ⟨s1a, s1b, s1c, s1d, s1e, s1f⟩ := ca_rd s1
  refine ⟨_, ?_, by simpa using s1⟩
  have nz : nzI (i2 a - i2 n) = some () := by
    unfold nzI
    rw [if_neg]
    rw [L_0, hz]
    exact id
  unfold fX4_holds_k6
  simp -dsimp (disch := omega) only [↓B1_bp, ↓B2_bp, BP_some, BQ_some, ↓reduceIte, L_0, L_1, L_2, L_3, L_4, L_5, L_10, L_11, L_12, L_13, L_20, L_30, L_31, L_40, L_41, L_50, L_51, L_60, L_61, i2_eq, Int.reduceEq, if_true, if_false, vo, sa, sb, sc, sd, se, sf, y1, s1a, s1b, s1c, s1d, s1e, s1f, hz, nz]
theorem ca_h2_3_p {th : Nat} {n a p : Int} {bl : List Int} (s : CA M X th 5 n a bl p) (hz : (i2 a - i2 n = i2 0) = True) (hl : bl.length + 2 ≤ 13) (x : Int32) : ∃ Y, fX2_holds_k5 X th x = some (i2 0 ^^^ i2 1, Y) ∧ CA M Y th 5 n a (bl ++ [50, 12]) 1 := by
  obtain ⟨sa, sb, sc, sd, se, sf⟩ := ca_rd s
  obtain ⟨Y1, y1, s1⟩ := ca_add s (b := 50) (by omega) (by decide) (by decide)
  obtain ⟨s1a, s1b, s1c, s1d, s1e, s1f⟩ := ca_rd s1
  obtain ⟨Y2, y2, s2⟩ := ca_h4_3_p s1 hz (by simp; omega) (x + i2 2)
  obtain ⟨s2a, s2b, s2c, s2d, s2e, s2f⟩ := ca_rd s2
  refine ⟨_, ?_, by simpa using s2⟩
  unfold fX2_holds_k5
  simp -dsimp (disch := omega) only [↓B1_bp, ↓B2_bp, BP_some, BQ_some, ↓reduceIte, L_0, L_1, L_2, L_3, L_4, L_5, L_10, L_11, L_12, L_13, L_20, L_30, L_31, L_40, L_41, L_50, L_51, L_60, L_61, i2_eq, Int.reduceEq, if_true, if_false, vo, sa, sb, sc, sd, se, sf, y1, s1a, s1b, s1c, s1d, s1e, s1f, y2, s2a, s2b, s2c, s2d, s2e, s2f]
theorem ca_h2_3_q {th : Nat} {n a p : Int} {bl : List Int} (s : CA M X th 5 n a bl p) (hz : (i2 a - i2 n = i2 0) = False) (hl : bl.length + 2 ≤ 13) (x : Int32) : ∃ Y, fX2_holds_k5 X th x = some ((x + i2 2) / (i2 a - i2 n) ^^^ i2 1, Y) ∧ CA M Y th 5 n a (bl ++ [50, 12]) p := by
  obtain ⟨sa, sb, sc, sd, se, sf⟩ := ca_rd s
  obtain ⟨Y1, y1, s1⟩ := ca_add s (b := 50) (by omega) (by decide) (by decide)
  obtain ⟨s1a, s1b, s1c, s1d, s1e, s1f⟩ := ca_rd s1
  obtain ⟨Y2, y2, s2⟩ := ca_h4_3_q s1 hz (by simp; omega) (x + i2 2)
  obtain ⟨s2a, s2b, s2c, s2d, s2e, s2f⟩ := ca_rd s2
  refine ⟨_, ?_, by simpa using s2⟩
  unfold fX2_holds_k5
  simp -dsimp (disch := omega) only [↓B1_bp, ↓B2_bp, BP_some, BQ_some, ↓reduceIte, L_0, L_1, L_2, L_3, L_4, L_5, L_10, L_11, L_12, L_13, L_20, L_30, L_31, L_40, L_41, L_50, L_51, L_60, L_61, i2_eq, Int.reduceEq, if_true, if_false, vo, sa, sb, sc, sd, se, sf, y1, s1a, s1b, s1c, s1d, s1e, s1f, y2, s2a, s2b, s2c, s2d, s2e, s2f]
theorem ca_h3_5_p {th : Nat} {n a p : Int} {bl : List Int} (s : CA M X th 6 n a bl p) (hz : (i2 a - i2 n = i2 0) = True) (hl : bl.length + 2 ≤ 13) (x : Int32) : ∃ Y, fX3_holds_k6 X th x = some (i2 0, Y) ∧ CA M Y th 6 n a (bl ++ [61, 12]) 1 := by
  obtain ⟨sa, sb, sc, sd, se, sf⟩ := ca_rd s
  obtain ⟨Y1, y1, s1⟩ := ca_add s (b := 61) (by omega) (by decide) (by decide)
  obtain ⟨s1a, s1b, s1c, s1d, s1e, s1f⟩ := ca_rd s1
  obtain ⟨Y2, y2, s2⟩ := ca_h4_5_p s1 hz (by simp; omega) (x)
  obtain ⟨s2a, s2b, s2c, s2d, s2e, s2f⟩ := ca_rd s2
  refine ⟨_, ?_, by simpa using s2⟩
  unfold fX3_holds_k6
  simp -dsimp (disch := omega) only [↓B1_bp, ↓B2_bp, BP_some, BQ_some, ↓reduceIte, L_0, L_1, L_2, L_3, L_4, L_5, L_10, L_11, L_12, L_13, L_20, L_30, L_31, L_40, L_41, L_50, L_51, L_60, L_61, i2_eq, Int.reduceEq, if_true, if_false, vo, sa, sb, sc, sd, se, sf, y1, s1a, s1b, s1c, s1d, s1e, s1f, y2, s2a, s2b, s2c, s2d, s2e, s2f]
theorem ca_h3_5_q {th : Nat} {n a : Int} {bl : List Int} (s : CA M X th 6 n a bl 0) (hz : (i2 a - i2 n = i2 0) = False) (hl : bl.length + 3 ≤ 13) (x : Int32) : ∃ Y, fX3_holds_k6 X th x = some (x / (i2 a - i2 n) + (i2 a + i2 n), Y) ∧ CA M Y th 6 n a (bl ++ [61, 12, 10]) 0 := by
  obtain ⟨sa, sb, sc, sd, se, sf⟩ := ca_rd s
  obtain ⟨Y1, y1, s1⟩ := ca_add s (b := 61) (by omega) (by decide) (by decide)
  obtain ⟨s1a, s1b, s1c, s1d, s1e, s1f⟩ := ca_rd s1
  obtain ⟨Y2, y2, s2⟩ := ca_h4_5_q s1 hz (by simp; omega) (x)
  obtain ⟨s2a, s2b, s2c, s2d, s2e, s2f⟩ := ca_rd s2
  obtain ⟨Y3, y3, s3⟩ := ca_r4_5 s2 (by simp; omega) (i2 a)
  obtain ⟨s3a, s3b, s3c, s3d, s3e, s3f⟩ := ca_rd s3
  refine ⟨_, ?_, by simpa using s3⟩
  unfold fX3_holds_k6
  simp -dsimp (disch := omega) only [↓B1_bp, ↓B2_bp, BP_some, BQ_some, ↓reduceIte, L_0, L_1, L_2, L_3, L_4, L_5, L_10, L_11, L_12, L_13, L_20, L_30, L_31, L_40, L_41, L_50, L_51, L_60, L_61, i2_eq, Int.reduceEq, if_true, if_false, vo, sa, sb, sc, sd, se, sf, y1, s1a, s1b, s1c, s1d, s1e, s1f, y2, s2a, s2b, s2c, s2d, s2e, s2f, y3, s3a, s3b, s3c, s3d, s3e, s3f]
theorem ca_t4_0 {th : Nat} {n a p : Int} {bl : List Int} (s : CA M X th 7 n a bl p) (hl : bl.length + 3 ≤ 13) (x : Int32) : ∃ Y, fX4_tells_k7 X th x = some (((x + i2 n) * i2 2) ^^^ i2 a, Y) ∧ CA M Y th 7 n a (bl ++ [13, 11, 10]) p := by
  obtain ⟨sa, sb, sc, sd, se, sf⟩ := ca_rd s
  obtain ⟨Y1, y1, s1⟩ := ca_add s (b := 13) (by omega) (by decide) (by decide)
  obtain ⟨s1a, s1b, s1c, s1d, s1e, s1f⟩ := ca_rd s1
  obtain ⟨Y2, y2, s2⟩ := ca_d4_0 s1 (by simp; omega) (x)
  obtain ⟨s2a, s2b, s2c, s2d, s2e, s2f⟩ := ca_rd s2
  refine ⟨_, ?_, by simpa using s2⟩
  unfold fX4_tells_k7
  simp -dsimp (disch := omega) only [↓B1_bp, ↓B2_bp, BP_some, BQ_some, ↓reduceIte, L_0, L_1, L_2, L_3, L_4, L_5, L_10, L_11, L_12, L_13, L_20, L_30, L_31, L_40, L_41, L_50, L_51, L_60, L_61, i2_eq, Int.reduceEq, if_true, if_false, vo, sa, sb, sc, sd, se, sf, y1, s1a, s1b, s1c, s1d, s1e, s1f, y2, s2a, s2b, s2c, s2d, s2e, s2f]
theorem ca_t4_1 {th : Nat} {n a p : Int} {bl : List Int} (s : CA M X th 8 n a bl p) (hl : bl.length + 4 ≤ 13) (x : Int32) : ∃ Y, fX4_tells_k8 X th x = some (((x + i2 n) * i2 2 - i2 a) ^^^ i2 a, Y) ∧ CA M Y th 8 n a (bl ++ [13, 20, 11, 10]) p := by
  obtain ⟨sa, sb, sc, sd, se, sf⟩ := ca_rd s
  obtain ⟨Y1, y1, s1⟩ := ca_add s (b := 13) (by omega) (by decide) (by decide)
  obtain ⟨s1a, s1b, s1c, s1d, s1e, s1f⟩ := ca_rd s1
  obtain ⟨Y2, y2, s2⟩ := ca_d5_1 s1 (by simp; omega) (x)
  obtain ⟨s2a, s2b, s2c, s2d, s2e, s2f⟩ := ca_rd s2
  refine ⟨_, ?_, by simpa using s2⟩
  unfold fX4_tells_k8
  simp -dsimp (disch := omega) only [↓B1_bp, ↓B2_bp, BP_some, BQ_some, ↓reduceIte, L_0, L_1, L_2, L_3, L_4, L_5, L_10, L_11, L_12, L_13, L_20, L_30, L_31, L_40, L_41, L_50, L_51, L_60, L_61, i2_eq, Int.reduceEq, if_true, if_false, vo, sa, sb, sc, sd, se, sf, y1, s1a, s1b, s1c, s1d, s1e, s1f, y2, s2a, s2b, s2c, s2d, s2e, s2f]
theorem ca_t4_2 {th : Nat} {n a p : Int} {bl : List Int} (s : CA M X th 12 n a bl p) (hl : bl.length + 4 ≤ 13) (x : Int32) : ∃ Y, fX4_tells_k12 X th x = some ((((x + i2 n) * i2 3) * i2 2) ^^^ i2 a, Y) ∧ CA M Y th 12 n a (bl ++ [13, 11, 30, 10]) p := by
  obtain ⟨sa, sb, sc, sd, se, sf⟩ := ca_rd s
  obtain ⟨Y1, y1, s1⟩ := ca_add s (b := 13) (by omega) (by decide) (by decide)
  obtain ⟨s1a, s1b, s1c, s1d, s1e, s1f⟩ := ca_rd s1
  obtain ⟨Y2, y2, s2⟩ := ca_d4_2 s1 (by simp; omega) (x)
  obtain ⟨s2a, s2b, s2c, s2d, s2e, s2f⟩ := ca_rd s2
  refine ⟨_, ?_, by simpa using s2⟩
  unfold fX4_tells_k12
  simp -dsimp (disch := omega) only [↓B1_bp, ↓B2_bp, BP_some, BQ_some, ↓reduceIte, L_0, L_1, L_2, L_3, L_4, L_5, L_10, L_11, L_12, L_13, L_20, L_30, L_31, L_40, L_41, L_50, L_51, L_60, L_61, i2_eq, Int.reduceEq, if_true, if_false, vo, sa, sb, sc, sd, se, sf, y1, s1a, s1b, s1c, s1d, s1e, s1f, y2, s2a, s2b, s2c, s2d, s2e, s2f]
theorem ca_t4_3 {th : Nat} {n a p : Int} {bl : List Int} (s : CA M X th 5 n a bl p) (hl : bl.length + 5 ≤ 13) (x : Int32) : ∃ Y, fX4_tells_k5 X th x = some (((x + i2 n - i2 n) * i2 2 - i2 a) ^^^ i2 a, Y) ∧ CA M Y th 5 n a (bl ++ [13, 20, 11, 51, 10]) p := by
  obtain ⟨sa, sb, sc, sd, se, sf⟩ := ca_rd s
  obtain ⟨Y1, y1, s1⟩ := ca_add s (b := 13) (by omega) (by decide) (by decide)
  obtain ⟨s1a, s1b, s1c, s1d, s1e, s1f⟩ := ca_rd s1
  obtain ⟨Y2, y2, s2⟩ := ca_d5_3 s1 (by simp; omega) (x)
  obtain ⟨s2a, s2b, s2c, s2d, s2e, s2f⟩ := ca_rd s2
  refine ⟨_, ?_, by simpa using s2⟩
  unfold fX4_tells_k5
  simp -dsimp (disch := omega) only [↓B1_bp, ↓B2_bp, BP_some, BQ_some, ↓reduceIte, L_0, L_1, L_2, L_3, L_4, L_5, L_10, L_11, L_12, L_13, L_20, L_30, L_31, L_40, L_41, L_50, L_51, L_60, L_61, i2_eq, Int.reduceEq, if_true, if_false, vo, sa, sb, sc, sd, se, sf, y1, s1a, s1b, s1c, s1d, s1e, s1f, y2, s2a, s2b, s2c, s2d, s2e, s2f]
theorem ca_t4_4 {th : Nat} {n a p : Int} {bl : List Int} (s : CA M X th 4 n a bl p) (hl : bl.length + 9 ≤ 13) (x : Int32) : ∃ Y, fX4_tells_k4 X th x = some (((i2 0 - (x + i2 n) * i2 3) * i2 2 + (i2 0 - (i2 n + i2 n) * i2 3)) ^^^ i2 a, Y) ∧ CA M Y th 4 n a (bl ++ [13, 41, 11, 40, 30, 10, 40, 30, 10]) p := by
  obtain ⟨sa, sb, sc, sd, se, sf⟩ := ca_rd s
  obtain ⟨Y1, y1, s1⟩ := ca_add s (b := 13) (by omega) (by decide) (by decide)
  obtain ⟨s1a, s1b, s1c, s1d, s1e, s1f⟩ := ca_rd s1
  obtain ⟨Y2, y2, s2⟩ := ca_d1_4 s1 (by simp; omega) (x)
  obtain ⟨s2a, s2b, s2c, s2d, s2e, s2f⟩ := ca_rd s2
  refine ⟨_, ?_, by simpa using s2⟩
  unfold fX4_tells_k4
  simp -dsimp (disch := omega) only [↓B1_bp, ↓B2_bp, BP_some, BQ_some, ↓reduceIte, L_0, L_1, L_2, L_3, L_4, L_5, L_10, L_11, L_12, L_13, L_20, L_30, L_31, L_40, L_41, L_50, L_51, L_60, L_61, i2_eq, Int.reduceEq, if_true, if_false, vo, sa, sb, sc, sd, se, sf, y1, s1a, s1b, s1c, s1d, s1e, s1f, y2, s2a, s2b, s2c, s2d, s2e, s2f]
theorem ca_t4_5 {th : Nat} {n a p : Int} {bl : List Int} (s : CA M X th 6 n a bl p) (hl : bl.length + 3 ≤ 13) (x : Int32) : ∃ Y, fX4_tells_k6 X th x = some (((x + i2 n) * i2 2) ^^^ i2 a, Y) ∧ CA M Y th 6 n a (bl ++ [13, 11, 10]) p := by
  obtain ⟨sa, sb, sc, sd, se, sf⟩ := ca_rd s
  obtain ⟨Y1, y1, s1⟩ := ca_add s (b := 13) (by omega) (by decide) (by decide)
  obtain ⟨s1a, s1b, s1c, s1d, s1e, s1f⟩ := ca_rd s1
  obtain ⟨Y2, y2, s2⟩ := ca_d4_5 s1 (by simp; omega) (x)
  obtain ⟨s2a, s2b, s2c, s2d, s2e, s2f⟩ := ca_rd s2
  refine ⟨_, ?_, by simpa using s2⟩
  unfold fX4_tells_k6
  simp -dsimp (disch := omega) only [↓B1_bp, ↓B2_bp, BP_some, BQ_some, ↓reduceIte, L_0, L_1, L_2, L_3, L_4, L_5, L_10, L_11, L_12, L_13, L_20, L_30, L_31, L_40, L_41, L_50, L_51, L_60, L_61, i2_eq, Int.reduceEq, if_true, if_false, vo, sa, sb, sc, sd, se, sf, y1, s1a, s1b, s1c, s1d, s1e, s1f, y2, s2a, s2b, s2c, s2d, s2e, s2f]
theorem ca_t9_2_p {th : Nat} {n a p : Int} {bl : List Int} (s : CA M X th 12 n a bl p) (hz : (i2 a - i2 n = i2 0) = True) (hl : bl.length + 6 ≤ 13) (x : Int32) : ∃ Y, fX9_tells_k12 X th x = some (((((x + i2 n) * i2 3) * i2 2) ^^^ i2 a) + i2 0, Y) ∧ CA M Y th 12 n a (bl ++ [31, 13, 11, 30, 10, 12]) 1 := by
  obtain ⟨sa, sb, sc, sd, se, sf⟩ := ca_rd s
  obtain ⟨Y1, y1, s1⟩ := ca_add s (b := 31) (by omega) (by decide) (by decide)
  obtain ⟨s1a, s1b, s1c, s1d, s1e, s1f⟩ := ca_rd s1
  obtain ⟨Y2, y2, s2⟩ := ca_t4_2 s1 (by simp; omega) (x)
  obtain ⟨s2a, s2b, s2c, s2d, s2e, s2f⟩ := ca_rd s2
  obtain ⟨Y3, y3, s3⟩ := ca_h4_2_p s2 hz (by simp; omega) (i2 n)
  obtain ⟨s3a, s3b, s3c, s3d, s3e, s3f⟩ := ca_rd s3
  refine ⟨_, ?_, by simpa using s3⟩
  unfold fX9_tells_k12
  simp -dsimp (disch := omega) only [↓B1_bp, ↓B2_bp, BP_some, BQ_some, ↓reduceIte, L_0, L_1, L_2, L_3, L_4, L_5, L_10, L_11, L_12, L_13, L_20, L_30, L_31, L_40, L_41, L_50, L_51, L_60, L_61, i2_eq, Int.reduceEq, if_true, if_false, vo, sa, sb, sc, sd, se, sf, y1, s1a, s1b, s1c, s1d, s1e, s1f, y2, s2a, s2b, s2c, s2d, s2e, s2f, y3, s3a, s3b, s3c, s3d, s3e, s3f]
theorem ca_t9_2_q {th : Nat} {n a p : Int} {bl : List Int} (s : CA M X th 12 n a bl p) (hz : (i2 a - i2 n = i2 0) = False) (hl : bl.length + 6 ≤ 13) (x : Int32) : ∃ Y, fX9_tells_k12 X th x = some (((((x + i2 n) * i2 3) * i2 2) ^^^ i2 a) + (i2 n / (i2 a - i2 n)), Y) ∧ CA M Y th 12 n a (bl ++ [31, 13, 11, 30, 10, 12]) p := by
  obtain ⟨sa, sb, sc, sd, se, sf⟩ := ca_rd s
  obtain ⟨Y1, y1, s1⟩ := ca_add s (b := 31) (by omega) (by decide) (by decide)
  obtain ⟨s1a, s1b, s1c, s1d, s1e, s1f⟩ := ca_rd s1
  obtain ⟨Y2, y2, s2⟩ := ca_t4_2 s1 (by simp; omega) (x)
  obtain ⟨s2a, s2b, s2c, s2d, s2e, s2f⟩ := ca_rd s2
  obtain ⟨Y3, y3, s3⟩ := ca_h4_2_q s2 hz (by simp; omega) (i2 n)
  obtain ⟨s3a, s3b, s3c, s3d, s3e, s3f⟩ := ca_rd s3
  refine ⟨_, ?_, by simpa using s3⟩
  unfold fX9_tells_k12
  simp -dsimp (disch := omega) only [↓B1_bp, ↓B2_bp, BP_some, BQ_some, ↓reduceIte, L_0, L_1, L_2, L_3, L_4, L_5, L_10, L_11, L_12, L_13, L_20, L_30, L_31, L_40, L_41, L_50, L_51, L_60, L_61, i2_eq, Int.reduceEq, if_true, if_false, vo, sa, sb, sc, sd, se, sf, y1, s1a, s1b, s1c, s1d, s1e, s1f, y2, s2a, s2b, s2c, s2d, s2e, s2f, y3, s3a, s3b, s3c, s3d, s3e, s3f]
theorem ca_t9_4_p {th : Nat} {n a p : Int} {bl : List Int} (s : CA M X th 4 n a bl p) (hz : (i2 a - i2 n = i2 0) = True) (hl : bl.length + 11 ≤ 13) (x : Int32) : ∃ Y, fX9_tells_k4 X th x = some ((((i2 0 - (x + i2 n) * i2 3) * i2 2 + (i2 0 - (i2 n + i2 n) * i2 3)) ^^^ i2 a) + i2 0, Y) ∧ CA M Y th 4 n a (bl ++ [31, 13, 41, 11, 40, 30, 10, 40, 30, 10, 12]) 1 := by
  obtain ⟨sa, sb, sc, sd, se, sf⟩ := ca_rd s
  obtain ⟨Y1, y1, s1⟩ := ca_add s (b := 31) (by omega) (by decide) (by decide)
  obtain ⟨s1a, s1b, s1c, s1d, s1e, s1f⟩ := ca_rd s1
  obtain ⟨Y2, y2, s2⟩ := ca_t4_4 s1 (by simp; omega) (x)
  obtain ⟨s2a, s2b, s2c, s2d, s2e, s2f⟩ := ca_rd s2
  obtain ⟨Y3, y3, s3⟩ := ca_h4_4_p s2 hz (by simp; omega) (i2 n)
  obtain ⟨s3a, s3b, s3c, s3d, s3e, s3f⟩ := ca_rd s3
  refine ⟨_, ?_, by simpa using s3⟩
  unfold fX9_tells_k4
  simp -dsimp (disch := omega) only [↓B1_bp, ↓B2_bp, BP_some, BQ_some, ↓reduceIte, L_0, L_1, L_2, L_3, L_4, L_5, L_10, L_11, L_12, L_13, L_20, L_30, L_31, L_40, L_41, L_50, L_51, L_60, L_61, i2_eq, Int.reduceEq, if_true, if_false, vo, sa, sb, sc, sd, se, sf, y1, s1a, s1b, s1c, s1d, s1e, s1f, y2, s2a, s2b, s2c, s2d, s2e, s2f, y3, s3a, s3b, s3c, s3d, s3e, s3f]
theorem ca_t9_4_q {th : Nat} {n a p : Int} {bl : List Int} (s : CA M X th 4 n a bl p) (hz : (i2 a - i2 n = i2 0) = False) (hl : bl.length + 11 ≤ 13) (x : Int32) : ∃ Y, fX9_tells_k4 X th x = some ((((i2 0 - (x + i2 n) * i2 3) * i2 2 + (i2 0 - (i2 n + i2 n) * i2 3)) ^^^ i2 a) + (i2 n / (i2 a - i2 n)), Y) ∧ CA M Y th 4 n a (bl ++ [31, 13, 41, 11, 40, 30, 10, 40, 30, 10, 12]) p := by
  obtain ⟨sa, sb, sc, sd, se, sf⟩ := ca_rd s
  obtain ⟨Y1, y1, s1⟩ := ca_add s (b := 31) (by omega) (by decide) (by decide)
  obtain ⟨s1a, s1b, s1c, s1d, s1e, s1f⟩ := ca_rd s1
  obtain ⟨Y2, y2, s2⟩ := ca_t4_4 s1 (by simp; omega) (x)
  obtain ⟨s2a, s2b, s2c, s2d, s2e, s2f⟩ := ca_rd s2
  obtain ⟨Y3, y3, s3⟩ := ca_h4_4_q s2 hz (by simp; omega) (i2 n)
  obtain ⟨s3a, s3b, s3c, s3d, s3e, s3f⟩ := ca_rd s3
  refine ⟨_, ?_, by simpa using s3⟩
  unfold fX9_tells_k4
  simp -dsimp (disch := omega) only [↓B1_bp, ↓B2_bp, BP_some, BQ_some, ↓reduceIte, L_0, L_1, L_2, L_3, L_4, L_5, L_10, L_11, L_12, L_13, L_20, L_30, L_31, L_40, L_41, L_50, L_51, L_60, L_61, i2_eq, Int.reduceEq, if_true, if_false, vo, sa, sb, sc, sd, se, sf, y1, s1a, s1b, s1c, s1d, s1e, s1f, y2, s2a, s2b, s2c, s2d, s2e, s2f, y3, s3a, s3b, s3c, s3d, s3e, s3f]
theorem ca_t3_5 {th : Nat} {n a p : Int} {bl : List Int} (s : CA M X th 6 n a bl p) (hl : bl.length + 4 ≤ 13) (x : Int32) : ∃ Y, fX3_tells_k6 X th x = some ((((x + i2 n) * i2 2) ^^^ i2 a) * i2 2, Y) ∧ CA M Y th 6 n a (bl ++ [60, 13, 11, 10]) p := by
  obtain ⟨sa, sb, sc, sd, se, sf⟩ := ca_rd s
  obtain ⟨Y1, y1, s1⟩ := ca_add s (b := 60) (by omega) (by decide) (by decide)
  obtain ⟨s1a, s1b, s1c, s1d, s1e, s1f⟩ := ca_rd s1
  obtain ⟨Y2, y2, s2⟩ := ca_t4_5 s1 (by simp; omega) (x)
  obtain ⟨s2a, s2b, s2c, s2d, s2e, s2f⟩ := ca_rd s2
  refine ⟨_, ?_, by simpa using s2⟩
  unfold fX3_tells_k6
  simp -dsimp (disch := omega) only [↓B1_bp, ↓B2_bp, BP_some, BQ_some, ↓reduceIte, L_0, L_1, L_2, L_3, L_4, L_5, L_10, L_11, L_12, L_13, L_20, L_30, L_31, L_40, L_41, L_50, L_51, L_60, L_61, i2_eq, Int.reduceEq, if_true, if_false, vo, sa, sb, sc, sd, se, sf, y1, s1a, s1b, s1c, s1d, s1e, s1f, y2, s2a, s2b, s2c, s2d, s2e, s2f]
end ACTC
section ACTM
variable {M X : Mm}
theorem ra_pr {Y : Mm} {k n a p : Int} {bl : List Int} (s : RA M Y k n a bl p) (hl : bl.length + 1 ≤ 13) (x : Int32) : ∃ Z, fX12_plainRuns Y 164 x = some (x + i2 n, Z) ∧ RA M Z k n a (bl ++ [10]) p := by
  obtain ⟨sa, sb, sc, sd, se⟩ := ra_rd s
  obtain ⟨Y1, y1, s1⟩ := ra_add s (b := 10) (by omega) (by decide) (by decide)
  obtain ⟨s1a, s1b, s1c, s1d, s1e⟩ := ra_rd s1
  refine ⟨_, ?_, by simpa using s1⟩
  unfold fX12_plainRuns
  simp -dsimp (disch := omega) only [↓B1_bp, ↓B2_bp, BP_some, BQ_some, ↓reduceIte, L_0, L_1, L_2, L_3, L_4, L_5, L_10, L_11, L_12, L_13, L_20, L_30, L_31, L_40, L_41, L_50, L_51, L_60, L_61, i2_eq, Int.reduceEq, if_true, if_false, m3c, m2c, ngc, sa, sb, sc, sd, se, y1, s1a, s1b, s1c, s1d, s1e]
theorem ra_tr {Y : Mm} {k n a p : Int} {bl : List Int} (s : RA M Y k n a bl p) (hl : bl.length + 2 ≤ 13) (x : Int32) : ∃ Z, fX12_thickRuns Y 164 x = some ((x + i2 n) * i2 3, Z) ∧ RA M Z k n a (bl ++ [30, 10]) p := by
  obtain ⟨sa, sb, sc, sd, se⟩ := ra_rd s
  obtain ⟨Y1, y1, s1⟩ := ra_add s (b := 30) (by omega) (by decide) (by decide)
  obtain ⟨s1a, s1b, s1c, s1d, s1e⟩ := ra_rd s1
  obtain ⟨Y2, y2, s2⟩ := ra_pr s1 (by simp; omega) (x)
  obtain ⟨s2a, s2b, s2c, s2d, s2e⟩ := ra_rd s2
  refine ⟨_, ?_, by simpa using s2⟩
  unfold fX12_thickRuns
  simp -dsimp (disch := omega) only [↓B1_bp, ↓B2_bp, BP_some, BQ_some, ↓reduceIte, L_0, L_1, L_2, L_3, L_4, L_5, L_10, L_11, L_12, L_13, L_20, L_30, L_31, L_40, L_41, L_50, L_51, L_60, L_61, i2_eq, Int.reduceEq, if_true, if_false, m3c, m2c, ngc, sa, sb, sc, sd, se, y1, s1a, s1b, s1c, s1d, s1e, y2, s2a, s2b, s2c, s2d, s2e]
theorem ra_r_0 {Y : Mm} {n a p : Int} {bl : List Int} (s : RA M Y 0 n a bl p) (hl : bl.length + 1 ≤ 13) (x : Int32) : ∃ Z, fX12_runsOf Y 164 x = some ((x + i2 n), Z) ∧ RA M Z 0 n a (bl ++ [10]) p := by
  obtain ⟨sa, sb, sc, sd, se⟩ := ra_rd s
  obtain ⟨Y1, y1, s1⟩ := ra_pr s (by simp; omega) (x)
  obtain ⟨s1a, s1b, s1c, s1d, s1e⟩ := ra_rd s1
  refine ⟨_, ?_, by simpa using s1⟩
  unfold fX12_runsOf
  simp -dsimp (disch := omega) only [↓B1_bp, ↓B2_bp, BP_some, BQ_some, ↓reduceIte, L_0, L_1, L_2, L_3, L_4, L_5, L_10, L_11, L_12, L_13, L_20, L_30, L_31, L_40, L_41, L_50, L_51, L_60, L_61, i2_eq, Int.reduceEq, if_true, if_false, m3c, m2c, ngc, sa, sb, sc, sd, se, y1, s1a, s1b, s1c, s1d, s1e]
theorem ra_r_1 {Y : Mm} {n a p : Int} {bl : List Int} (s : RA M Y 1 n a bl p) (hl : bl.length + 1 ≤ 13) (x : Int32) : ∃ Z, fX12_runsOf Y 164 x = some ((x + i2 n), Z) ∧ RA M Z 1 n a (bl ++ [10]) p := by
  obtain ⟨sa, sb, sc, sd, se⟩ := ra_rd s
  obtain ⟨Y1, y1, s1⟩ := ra_pr s (by simp; omega) (x)
  obtain ⟨s1a, s1b, s1c, s1d, s1e⟩ := ra_rd s1
  refine ⟨_, ?_, by simpa using s1⟩
  unfold fX12_runsOf
  simp -dsimp (disch := omega) only [↓B1_bp, ↓B2_bp, BP_some, BQ_some, ↓reduceIte, L_0, L_1, L_2, L_3, L_4, L_5, L_10, L_11, L_12, L_13, L_20, L_30, L_31, L_40, L_41, L_50, L_51, L_60, L_61, i2_eq, Int.reduceEq, if_true, if_false, m3c, m2c, ngc, sa, sb, sc, sd, se, y1, s1a, s1b, s1c, s1d, s1e]
theorem ra_r_2 {Y : Mm} {n a p : Int} {bl : List Int} (s : RA M Y 2 n a bl p) (hl : bl.length + 2 ≤ 13) (x : Int32) : ∃ Z, fX12_runsOf Y 164 x = some (((x + i2 n) * i2 3), Z) ∧ RA M Z 2 n a (bl ++ [30, 10]) p := by
  obtain ⟨sa, sb, sc, sd, se⟩ := ra_rd s
  obtain ⟨Y1, y1, s1⟩ := ra_tr s (by simp; omega) (x)
  obtain ⟨s1a, s1b, s1c, s1d, s1e⟩ := ra_rd s1
  refine ⟨_, ?_, by simpa using s1⟩
  unfold fX12_runsOf
  simp -dsimp (disch := omega) only [↓B1_bp, ↓B2_bp, BP_some, BQ_some, ↓reduceIte, L_0, L_1, L_2, L_3, L_4, L_5, L_10, L_11, L_12, L_13, L_20, L_30, L_31, L_40, L_41, L_50, L_51, L_60, L_61, i2_eq, Int.reduceEq, if_true, if_false, m3c, m2c, ngc, sa, sb, sc, sd, se, y1, s1a, s1b, s1c, s1d, s1e]
theorem ra_r_3 {Y : Mm} {n a p : Int} {bl : List Int} (s : RA M Y 3 n a bl p) (hl : bl.length + 2 ≤ 13) (x : Int32) : ∃ Z, fX12_runsOf Y 164 x = some ((x + i2 n - i2 n), Z) ∧ RA M Z 3 n a (bl ++ [51, 10]) p := by
  obtain ⟨sa, sb, sc, sd, se⟩ := ra_rd s
  obtain ⟨Y1, y1, s1⟩ := ra_add s (b := 51) (by omega) (by decide) (by decide)
  obtain ⟨s1a, s1b, s1c, s1d, s1e⟩ := ra_rd s1
  obtain ⟨Y2, y2, s2⟩ := ra_pr s1 (by simp; omega) (x)
  obtain ⟨s2a, s2b, s2c, s2d, s2e⟩ := ra_rd s2
  refine ⟨_, ?_, by simpa using s2⟩
  unfold fX12_runsOf
  simp -dsimp (disch := omega) only [↓B1_bp, ↓B2_bp, BP_some, BQ_some, ↓reduceIte, L_0, L_1, L_2, L_3, L_4, L_5, L_10, L_11, L_12, L_13, L_20, L_30, L_31, L_40, L_41, L_50, L_51, L_60, L_61, i2_eq, Int.reduceEq, if_true, if_false, m3c, m2c, ngc, sa, sb, sc, sd, se, y1, s1a, s1b, s1c, s1d, s1e, y2, s2a, s2b, s2c, s2d, s2e]
theorem ra_r_4 {Y : Mm} {n a p : Int} {bl : List Int} (s : RA M Y 4 n a bl p) (hl : bl.length + 3 ≤ 13) (x : Int32) : ∃ Z, fX12_runsOf Y 164 x = some ((i2 0 - (x + i2 n) * i2 3), Z) ∧ RA M Z 4 n a (bl ++ [40, 30, 10]) p := by
  obtain ⟨sa, sb, sc, sd, se⟩ := ra_rd s
  obtain ⟨Y1, y1, s1⟩ := ra_add s (b := 40) (by omega) (by decide) (by decide)
  obtain ⟨s1a, s1b, s1c, s1d, s1e⟩ := ra_rd s1
  obtain ⟨Y2, y2, s2⟩ := ra_tr s1 (by simp; omega) (x)
  obtain ⟨s2a, s2b, s2c, s2d, s2e⟩ := ra_rd s2
  refine ⟨_, ?_, by simpa using s2⟩
  unfold fX12_runsOf
  simp -dsimp (disch := omega) only [↓B1_bp, ↓B2_bp, BP_some, BQ_some, ↓reduceIte, L_0, L_1, L_2, L_3, L_4, L_5, L_10, L_11, L_12, L_13, L_20, L_30, L_31, L_40, L_41, L_50, L_51, L_60, L_61, i2_eq, Int.reduceEq, if_true, if_false, m3c, m2c, ngc, sa, sb, sc, sd, se, y1, s1a, s1b, s1c, s1d, s1e, y2, s2a, s2b, s2c, s2d, s2e]
theorem ra_r_5 {Y : Mm} {n a p : Int} {bl : List Int} (s : RA M Y 5 n a bl p) (hl : bl.length + 1 ≤ 13) (x : Int32) : ∃ Z, fX12_runsOf Y 164 x = some ((x + i2 n), Z) ∧ RA M Z 5 n a (bl ++ [10]) p := by
  obtain ⟨sa, sb, sc, sd, se⟩ := ra_rd s
  obtain ⟨Y1, y1, s1⟩ := ra_pr s (by simp; omega) (x)
  obtain ⟨s1a, s1b, s1c, s1d, s1e⟩ := ra_rd s1
  refine ⟨_, ?_, by simpa using s1⟩
  unfold fX12_runsOf
  simp -dsimp (disch := omega) only [↓B1_bp, ↓B2_bp, BP_some, BQ_some, ↓reduceIte, L_0, L_1, L_2, L_3, L_4, L_5, L_10, L_11, L_12, L_13, L_20, L_30, L_31, L_40, L_41, L_50, L_51, L_60, L_61, i2_eq, Int.reduceEq, if_true, if_false, m3c, m2c, ngc, sa, sb, sc, sd, se, y1, s1a, s1b, s1c, s1d, s1e]
theorem ra_pd_0 {Y : Mm} {n a p : Int} {bl : List Int} (s : RA M Y 0 n a bl p) (hl : bl.length + 2 ≤ 13) (x : Int32) : ∃ Z, fX12_plainDries Y 164 x = some ((x + i2 n) * i2 2, Z) ∧ RA M Z 0 n a (bl ++ [11, 10]) p := by
  obtain ⟨sa, sb, sc, sd, se⟩ := ra_rd s
  obtain ⟨Y1, y1, s1⟩ := ra_add s (b := 11) (by omega) (by decide) (by decide)
  obtain ⟨s1a, s1b, s1c, s1d, s1e⟩ := ra_rd s1
  obtain ⟨Y2, y2, s2⟩ := ra_r_0 s1 (by simp; omega) (x)
  obtain ⟨s2a, s2b, s2c, s2d, s2e⟩ := ra_rd s2
  refine ⟨_, ?_, by simpa using s2⟩
  unfold fX12_plainDries
  simp -dsimp (disch := omega) only [↓B1_bp, ↓B2_bp, BP_some, BQ_some, ↓reduceIte, L_0, L_1, L_2, L_3, L_4, L_5, L_10, L_11, L_12, L_13, L_20, L_30, L_31, L_40, L_41, L_50, L_51, L_60, L_61, i2_eq, Int.reduceEq, if_true, if_false, m3c, m2c, ngc, sa, sb, sc, sd, se, y1, s1a, s1b, s1c, s1d, s1e, y2, s2a, s2b, s2c, s2d, s2e]
theorem ra_pd_1 {Y : Mm} {n a p : Int} {bl : List Int} (s : RA M Y 1 n a bl p) (hl : bl.length + 2 ≤ 13) (x : Int32) : ∃ Z, fX12_plainDries Y 164 x = some ((x + i2 n) * i2 2, Z) ∧ RA M Z 1 n a (bl ++ [11, 10]) p := by
  obtain ⟨sa, sb, sc, sd, se⟩ := ra_rd s
  obtain ⟨Y1, y1, s1⟩ := ra_add s (b := 11) (by omega) (by decide) (by decide)
  obtain ⟨s1a, s1b, s1c, s1d, s1e⟩ := ra_rd s1
  obtain ⟨Y2, y2, s2⟩ := ra_r_1 s1 (by simp; omega) (x)
  obtain ⟨s2a, s2b, s2c, s2d, s2e⟩ := ra_rd s2
  refine ⟨_, ?_, by simpa using s2⟩
  unfold fX12_plainDries
  simp -dsimp (disch := omega) only [↓B1_bp, ↓B2_bp, BP_some, BQ_some, ↓reduceIte, L_0, L_1, L_2, L_3, L_4, L_5, L_10, L_11, L_12, L_13, L_20, L_30, L_31, L_40, L_41, L_50, L_51, L_60, L_61, i2_eq, Int.reduceEq, if_true, if_false, m3c, m2c, ngc, sa, sb, sc, sd, se, y1, s1a, s1b, s1c, s1d, s1e, y2, s2a, s2b, s2c, s2d, s2e]
theorem ra_pd_2 {Y : Mm} {n a p : Int} {bl : List Int} (s : RA M Y 2 n a bl p) (hl : bl.length + 3 ≤ 13) (x : Int32) : ∃ Z, fX12_plainDries Y 164 x = some (((x + i2 n) * i2 3) * i2 2, Z) ∧ RA M Z 2 n a (bl ++ [11, 30, 10]) p := by
  obtain ⟨sa, sb, sc, sd, se⟩ := ra_rd s
  obtain ⟨Y1, y1, s1⟩ := ra_add s (b := 11) (by omega) (by decide) (by decide)
  obtain ⟨s1a, s1b, s1c, s1d, s1e⟩ := ra_rd s1
  obtain ⟨Y2, y2, s2⟩ := ra_r_2 s1 (by simp; omega) (x)
  obtain ⟨s2a, s2b, s2c, s2d, s2e⟩ := ra_rd s2
  refine ⟨_, ?_, by simpa using s2⟩
  unfold fX12_plainDries
  simp -dsimp (disch := omega) only [↓B1_bp, ↓B2_bp, BP_some, BQ_some, ↓reduceIte, L_0, L_1, L_2, L_3, L_4, L_5, L_10, L_11, L_12, L_13, L_20, L_30, L_31, L_40, L_41, L_50, L_51, L_60, L_61, i2_eq, Int.reduceEq, if_true, if_false, m3c, m2c, ngc, sa, sb, sc, sd, se, y1, s1a, s1b, s1c, s1d, s1e, y2, s2a, s2b, s2c, s2d, s2e]
theorem ra_pd_3 {Y : Mm} {n a p : Int} {bl : List Int} (s : RA M Y 3 n a bl p) (hl : bl.length + 3 ≤ 13) (x : Int32) : ∃ Z, fX12_plainDries Y 164 x = some ((x + i2 n - i2 n) * i2 2, Z) ∧ RA M Z 3 n a (bl ++ [11, 51, 10]) p := by
  obtain ⟨sa, sb, sc, sd, se⟩ := ra_rd s
  obtain ⟨Y1, y1, s1⟩ := ra_add s (b := 11) (by omega) (by decide) (by decide)
  obtain ⟨s1a, s1b, s1c, s1d, s1e⟩ := ra_rd s1
  obtain ⟨Y2, y2, s2⟩ := ra_r_3 s1 (by simp; omega) (x)
  obtain ⟨s2a, s2b, s2c, s2d, s2e⟩ := ra_rd s2
  refine ⟨_, ?_, by simpa using s2⟩
  unfold fX12_plainDries
  simp -dsimp (disch := omega) only [↓B1_bp, ↓B2_bp, BP_some, BQ_some, ↓reduceIte, L_0, L_1, L_2, L_3, L_4, L_5, L_10, L_11, L_12, L_13, L_20, L_30, L_31, L_40, L_41, L_50, L_51, L_60, L_61, i2_eq, Int.reduceEq, if_true, if_false, m3c, m2c, ngc, sa, sb, sc, sd, se, y1, s1a, s1b, s1c, s1d, s1e, y2, s2a, s2b, s2c, s2d, s2e]
theorem ra_pd_4 {Y : Mm} {n a p : Int} {bl : List Int} (s : RA M Y 4 n a bl p) (hl : bl.length + 4 ≤ 13) (x : Int32) : ∃ Z, fX12_plainDries Y 164 x = some ((i2 0 - (x + i2 n) * i2 3) * i2 2, Z) ∧ RA M Z 4 n a (bl ++ [11, 40, 30, 10]) p := by
  obtain ⟨sa, sb, sc, sd, se⟩ := ra_rd s
  obtain ⟨Y1, y1, s1⟩ := ra_add s (b := 11) (by omega) (by decide) (by decide)
  obtain ⟨s1a, s1b, s1c, s1d, s1e⟩ := ra_rd s1
  obtain ⟨Y2, y2, s2⟩ := ra_r_4 s1 (by simp; omega) (x)
  obtain ⟨s2a, s2b, s2c, s2d, s2e⟩ := ra_rd s2
  refine ⟨_, ?_, by simpa using s2⟩
  unfold fX12_plainDries
  simp -dsimp (disch := omega) only [↓B1_bp, ↓B2_bp, BP_some, BQ_some, ↓reduceIte, L_0, L_1, L_2, L_3, L_4, L_5, L_10, L_11, L_12, L_13, L_20, L_30, L_31, L_40, L_41, L_50, L_51, L_60, L_61, i2_eq, Int.reduceEq, if_true, if_false, m3c, m2c, ngc, sa, sb, sc, sd, se, y1, s1a, s1b, s1c, s1d, s1e, y2, s2a, s2b, s2c, s2d, s2e]
theorem ra_pd_5 {Y : Mm} {n a p : Int} {bl : List Int} (s : RA M Y 5 n a bl p) (hl : bl.length + 2 ≤ 13) (x : Int32) : ∃ Z, fX12_plainDries Y 164 x = some ((x + i2 n) * i2 2, Z) ∧ RA M Z 5 n a (bl ++ [11, 10]) p := by
  obtain ⟨sa, sb, sc, sd, se⟩ := ra_rd s
  obtain ⟨Y1, y1, s1⟩ := ra_add s (b := 11) (by omega) (by decide) (by decide)
  obtain ⟨s1a, s1b, s1c, s1d, s1e⟩ := ra_rd s1
  obtain ⟨Y2, y2, s2⟩ := ra_r_5 s1 (by simp; omega) (x)
  obtain ⟨s2a, s2b, s2c, s2d, s2e⟩ := ra_rd s2
  refine ⟨_, ?_, by simpa using s2⟩
  unfold fX12_plainDries
  simp -dsimp (disch := omega) only [↓B1_bp, ↓B2_bp, BP_some, BQ_some, ↓reduceIte, L_0, L_1, L_2, L_3, L_4, L_5, L_10, L_11, L_12, L_13, L_20, L_30, L_31, L_40, L_41, L_50, L_51, L_60, L_61, i2_eq, Int.reduceEq, if_true, if_false, m3c, m2c, ngc, sa, sb, sc, sd, se, y1, s1a, s1b, s1c, s1d, s1e, y2, s2a, s2b, s2c, s2d, s2e]
theorem ra_d_0 {Y : Mm} {n a p : Int} {bl : List Int} (s : RA M Y 0 n a bl p) (hl : bl.length + 2 ≤ 13) (x : Int32) : ∃ Z, fX12_driesOf Y 164 x = some (((x + i2 n) * i2 2), Z) ∧ RA M Z 0 n a (bl ++ [11, 10]) p := by
  obtain ⟨sa, sb, sc, sd, se⟩ := ra_rd s
  obtain ⟨Y1, y1, s1⟩ := ra_pd_0 s (by simp; omega) (x)
  obtain ⟨s1a, s1b, s1c, s1d, s1e⟩ := ra_rd s1
  refine ⟨_, ?_, by simpa using s1⟩
  unfold fX12_driesOf
  simp -dsimp (disch := omega) only [↓B1_bp, ↓B2_bp, BP_some, BQ_some, ↓reduceIte, L_0, L_1, L_2, L_3, L_4, L_5, L_10, L_11, L_12, L_13, L_20, L_30, L_31, L_40, L_41, L_50, L_51, L_60, L_61, i2_eq, Int.reduceEq, if_true, if_false, m3c, m2c, ngc, sa, sb, sc, sd, se, y1, s1a, s1b, s1c, s1d, s1e]
theorem ra_d_1 {Y : Mm} {n a p : Int} {bl : List Int} (s : RA M Y 1 n a bl p) (hl : bl.length + 3 ≤ 13) (x : Int32) : ∃ Z, fX12_driesOf Y 164 x = some (((x + i2 n) * i2 2 - i2 a), Z) ∧ RA M Z 1 n a (bl ++ [20, 11, 10]) p := by
  obtain ⟨sa, sb, sc, sd, se⟩ := ra_rd s
  obtain ⟨Y1, y1, s1⟩ := ra_add s (b := 20) (by omega) (by decide) (by decide)
  obtain ⟨s1a, s1b, s1c, s1d, s1e⟩ := ra_rd s1
  obtain ⟨Y2, y2, s2⟩ := ra_pd_1 s1 (by simp; omega) (x)
  obtain ⟨s2a, s2b, s2c, s2d, s2e⟩ := ra_rd s2
  refine ⟨_, ?_, by simpa using s2⟩
  unfold fX12_driesOf
  simp -dsimp (disch := omega) only [↓B1_bp, ↓B2_bp, BP_some, BQ_some, ↓reduceIte, L_0, L_1, L_2, L_3, L_4, L_5, L_10, L_11, L_12, L_13, L_20, L_30, L_31, L_40, L_41, L_50, L_51, L_60, L_61, i2_eq, Int.reduceEq, if_true, if_false, m3c, m2c, ngc, sa, sb, sc, sd, se, y1, s1a, s1b, s1c, s1d, s1e, y2, s2a, s2b, s2c, s2d, s2e]
theorem ra_d_2 {Y : Mm} {n a p : Int} {bl : List Int} (s : RA M Y 2 n a bl p) (hl : bl.length + 3 ≤ 13) (x : Int32) : ∃ Z, fX12_driesOf Y 164 x = some ((((x + i2 n) * i2 3) * i2 2), Z) ∧ RA M Z 2 n a (bl ++ [11, 30, 10]) p := by
  obtain ⟨sa, sb, sc, sd, se⟩ := ra_rd s
  obtain ⟨Y1, y1, s1⟩ := ra_pd_2 s (by simp; omega) (x)
  obtain ⟨s1a, s1b, s1c, s1d, s1e⟩ := ra_rd s1
  refine ⟨_, ?_, by simpa using s1⟩
  unfold fX12_driesOf
  simp -dsimp (disch := omega) only [↓B1_bp, ↓B2_bp, BP_some, BQ_some, ↓reduceIte, L_0, L_1, L_2, L_3, L_4, L_5, L_10, L_11, L_12, L_13, L_20, L_30, L_31, L_40, L_41, L_50, L_51, L_60, L_61, i2_eq, Int.reduceEq, if_true, if_false, m3c, m2c, ngc, sa, sb, sc, sd, se, y1, s1a, s1b, s1c, s1d, s1e]
theorem ra_d_3 {Y : Mm} {n a p : Int} {bl : List Int} (s : RA M Y 3 n a bl p) (hl : bl.length + 4 ≤ 13) (x : Int32) : ∃ Z, fX12_driesOf Y 164 x = some (((x + i2 n - i2 n) * i2 2 - i2 a), Z) ∧ RA M Z 3 n a (bl ++ [20, 11, 51, 10]) p := by
  obtain ⟨sa, sb, sc, sd, se⟩ := ra_rd s
  obtain ⟨Y1, y1, s1⟩ := ra_add s (b := 20) (by omega) (by decide) (by decide)
  obtain ⟨s1a, s1b, s1c, s1d, s1e⟩ := ra_rd s1
  obtain ⟨Y2, y2, s2⟩ := ra_pd_3 s1 (by simp; omega) (x)
  obtain ⟨s2a, s2b, s2c, s2d, s2e⟩ := ra_rd s2
  refine ⟨_, ?_, by simpa using s2⟩
  unfold fX12_driesOf
  simp -dsimp (disch := omega) only [↓B1_bp, ↓B2_bp, BP_some, BQ_some, ↓reduceIte, L_0, L_1, L_2, L_3, L_4, L_5, L_10, L_11, L_12, L_13, L_20, L_30, L_31, L_40, L_41, L_50, L_51, L_60, L_61, i2_eq, Int.reduceEq, if_true, if_false, m3c, m2c, ngc, sa, sb, sc, sd, se, y1, s1a, s1b, s1c, s1d, s1e, y2, s2a, s2b, s2c, s2d, s2e]
theorem ra_d_4 {Y : Mm} {n a p : Int} {bl : List Int} (s : RA M Y 4 n a bl p) (hl : bl.length + 8 ≤ 13) (x : Int32) : ∃ Z, fX12_driesOf Y 164 x = some (((i2 0 - (x + i2 n) * i2 3) * i2 2 + (i2 0 - (i2 n + i2 n) * i2 3)), Z) ∧ RA M Z 4 n a (bl ++ [41, 11, 40, 30, 10, 40, 30, 10]) p := by
  obtain ⟨sa, sb, sc, sd, se⟩ := ra_rd s
  obtain ⟨Y1, y1, s1⟩ := ra_add s (b := 41) (by omega) (by decide) (by decide)
  obtain ⟨s1a, s1b, s1c, s1d, s1e⟩ := ra_rd s1
  obtain ⟨Y2, y2, s2⟩ := ra_pd_4 s1 (by simp; omega) (x)
  obtain ⟨s2a, s2b, s2c, s2d, s2e⟩ := ra_rd s2
  obtain ⟨Y3, y3, s3⟩ := ra_r_4 s2 (by simp; omega) (i2 n)
  obtain ⟨s3a, s3b, s3c, s3d, s3e⟩ := ra_rd s3
  refine ⟨_, ?_, by simpa using s3⟩
  unfold fX12_driesOf
  simp -dsimp (disch := omega) only [↓B1_bp, ↓B2_bp, BP_some, BQ_some, ↓reduceIte, L_0, L_1, L_2, L_3, L_4, L_5, L_10, L_11, L_12, L_13, L_20, L_30, L_31, L_40, L_41, L_50, L_51, L_60, L_61, i2_eq, Int.reduceEq, if_true, if_false, m3c, m2c, ngc, sa, sb, sc, sd, se, y1, s1a, s1b, s1c, s1d, s1e, y2, s2a, s2b, s2c, s2d, s2e, y3, s3a, s3b, s3c, s3d, s3e]
theorem ra_d_5 {Y : Mm} {n a p : Int} {bl : List Int} (s : RA M Y 5 n a bl p) (hl : bl.length + 2 ≤ 13) (x : Int32) : ∃ Z, fX12_driesOf Y 164 x = some (((x + i2 n) * i2 2), Z) ∧ RA M Z 5 n a (bl ++ [11, 10]) p := by
  obtain ⟨sa, sb, sc, sd, se⟩ := ra_rd s
  obtain ⟨Y1, y1, s1⟩ := ra_pd_5 s (by simp; omega) (x)
  obtain ⟨s1a, s1b, s1c, s1d, s1e⟩ := ra_rd s1
  refine ⟨_, ?_, by simpa using s1⟩
  unfold fX12_driesOf
  simp -dsimp (disch := omega) only [↓B1_bp, ↓B2_bp, BP_some, BQ_some, ↓reduceIte, L_0, L_1, L_2, L_3, L_4, L_5, L_10, L_11, L_12, L_13, L_20, L_30, L_31, L_40, L_41, L_50, L_51, L_60, L_61, i2_eq, Int.reduceEq, if_true, if_false, m3c, m2c, ngc, sa, sb, sc, sd, se, y1, s1a, s1b, s1c, s1d, s1e]
theorem ra_ph_p {Y : Mm} {k n a : Int} {bl : List Int} (s : RA M Y k n a bl 0) (hz : (i2 a = i2 n) = True) (hl : bl.length + 1 ≤ 13) (x : Int32) : ∃ Z, fX12_plainHolds Y 164 x = some (i2 0, Z) ∧ RA M Z k n a (bl ++ [12]) 1 := by
  obtain ⟨sa, sb, sc, sd, se⟩ := ra_rd s
  obtain ⟨Y1, y1, s1⟩ := ra_add s (b := 12) (by omega) (by decide) (by decide)
  obtain ⟨s1a, s1b, s1c, s1d, s1e⟩ := ra_rd s1
  obtain ⟨Y2, y2, s2⟩ := ra_part s1 (v := 1) (by decide)
  obtain ⟨s2a, s2b, s2c, s2d, s2e⟩ := ra_rd s2
  refine ⟨_, ?_, by simpa using s2⟩
  unfold fX12_plainHolds
  simp -dsimp (disch := omega) only [↓B1_bp, ↓B2_bp, BP_some, BQ_some, ↓reduceIte, L_0, L_1, L_2, L_3, L_4, L_5, L_10, L_11, L_12, L_13, L_20, L_30, L_31, L_40, L_41, L_50, L_51, L_60, L_61, i2_eq, Int.reduceEq, if_true, if_false, m3c, m2c, ngc, hz, sa, sb, sc, sd, se, y1, s1a, s1b, s1c, s1d, s1e, y2, s2a, s2b, s2c, s2d, s2e]
theorem ra_ph_q {Y : Mm} {k n a : Int} {bl : List Int} (s : RA M Y k n a bl 0) (hz : (i2 a = i2 n) = False) (nz : nzI (i2 a - i2 n) = some ()) (hl : bl.length + 1 ≤ 13) (x : Int32) : ∃ Z, fX12_plainHolds Y 164 x = some (x / (i2 a - i2 n), Z) ∧ RA M Z k n a (bl ++ [12]) 0 := by
  obtain ⟨sa, sb, sc, sd, se⟩ := ra_rd s
  obtain ⟨Y1, y1, s1⟩ := ra_add s (b := 12) (by omega) (by decide) (by decide)
  obtain ⟨s1a, s1b, s1c, s1d, s1e⟩ := ra_rd s1
  obtain ⟨Y2, y2, s2⟩ := ra_part s1 (v := 0) (by decide)
  obtain ⟨s2a, s2b, s2c, s2d, s2e⟩ := ra_rd s2
  refine ⟨_, ?_, by simpa using s2⟩
  unfold fX12_plainHolds
  simp -dsimp (disch := omega) only [↓B1_bp, ↓B2_bp, BP_some, BQ_some, ↓reduceIte, L_0, L_1, L_2, L_3, L_4, L_5, L_10, L_11, L_12, L_13, L_20, L_30, L_31, L_40, L_41, L_50, L_51, L_60, L_61, i2_eq, Int.reduceEq, if_true, if_false, m3c, m2c, ngc, hz, nz, sa, sb, sc, sd, se, y1, s1a, s1b, s1c, s1d, s1e, y2, s2a, s2b, s2c, s2d, s2e]
theorem ra_h_0_p {Y : Mm} {n a : Int} {bl : List Int} (s : RA M Y 0 n a bl 0) (hz : (i2 a = i2 n) = True) (hl : bl.length + 1 ≤ 13) (x : Int32) : ∃ Z, fX12_holdsOf Y 164 x = some (i2 0, Z) ∧ RA M Z 0 n a (bl ++ [12]) 1 := by
  obtain ⟨sa, sb, sc, sd, se⟩ := ra_rd s
  obtain ⟨Y1, y1, s1⟩ := ra_ph_p s hz (by simp; omega) (x)
  obtain ⟨s1a, s1b, s1c, s1d, s1e⟩ := ra_rd s1
  refine ⟨_, ?_, by simpa using s1⟩
  unfold fX12_holdsOf
  simp -dsimp (disch := omega) only [↓B1_bp, ↓B2_bp, BP_some, BQ_some, ↓reduceIte, L_0, L_1, L_2, L_3, L_4, L_5, L_10, L_11, L_12, L_13, L_20, L_30, L_31, L_40, L_41, L_50, L_51, L_60, L_61, i2_eq, Int.reduceEq, if_true, if_false, m3c, m2c, ngc, hz, sa, sb, sc, sd, se, y1, s1a, s1b, s1c, s1d, s1e]
theorem ra_h_0_q {Y : Mm} {n a : Int} {bl : List Int} (s : RA M Y 0 n a bl 0) (hz : (i2 a = i2 n) = False) (nz : nzI (i2 a - i2 n) = some ()) (hl : bl.length + 1 ≤ 13) (x : Int32) : ∃ Z, fX12_holdsOf Y 164 x = some ((x / (i2 a - i2 n)), Z) ∧ RA M Z 0 n a (bl ++ [12]) 0 := by
  obtain ⟨sa, sb, sc, sd, se⟩ := ra_rd s
  obtain ⟨Y1, y1, s1⟩ := ra_ph_q s hz nz (by simp; omega) (x)
  obtain ⟨s1a, s1b, s1c, s1d, s1e⟩ := ra_rd s1
  refine ⟨_, ?_, by simpa using s1⟩
  unfold fX12_holdsOf
  simp -dsimp (disch := omega) only [↓B1_bp, ↓B2_bp, BP_some, BQ_some, ↓reduceIte, L_0, L_1, L_2, L_3, L_4, L_5, L_10, L_11, L_12, L_13, L_20, L_30, L_31, L_40, L_41, L_50, L_51, L_60, L_61, i2_eq, Int.reduceEq, if_true, if_false, m3c, m2c, ngc, hz, nz, sa, sb, sc, sd, se, y1, s1a, s1b, s1c, s1d, s1e]
theorem ra_h_1_p {Y : Mm} {n a : Int} {bl : List Int} (s : RA M Y 1 n a bl 0) (hz : (i2 a = i2 n) = True) (hl : bl.length + 1 ≤ 13) (x : Int32) : ∃ Z, fX12_holdsOf Y 164 x = some (i2 0, Z) ∧ RA M Z 1 n a (bl ++ [12]) 1 := by
  obtain ⟨sa, sb, sc, sd, se⟩ := ra_rd s
  obtain ⟨Y1, y1, s1⟩ := ra_ph_p s hz (by simp; omega) (x)
  obtain ⟨s1a, s1b, s1c, s1d, s1e⟩ := ra_rd s1
  refine ⟨_, ?_, by simpa using s1⟩
  unfold fX12_holdsOf
  simp -dsimp (disch := omega) only [↓B1_bp, ↓B2_bp, BP_some, BQ_some, ↓reduceIte, L_0, L_1, L_2, L_3, L_4, L_5, L_10, L_11, L_12, L_13, L_20, L_30, L_31, L_40, L_41, L_50, L_51, L_60, L_61, i2_eq, Int.reduceEq, if_true, if_false, m3c, m2c, ngc, hz, sa, sb, sc, sd, se, y1, s1a, s1b, s1c, s1d, s1e]
theorem ra_h_1_q {Y : Mm} {n a : Int} {bl : List Int} (s : RA M Y 1 n a bl 0) (hz : (i2 a = i2 n) = False) (nz : nzI (i2 a - i2 n) = some ()) (hl : bl.length + 1 ≤ 13) (x : Int32) : ∃ Z, fX12_holdsOf Y 164 x = some ((x / (i2 a - i2 n)), Z) ∧ RA M Z 1 n a (bl ++ [12]) 0 := by
  obtain ⟨sa, sb, sc, sd, se⟩ := ra_rd s
  obtain ⟨Y1, y1, s1⟩ := ra_ph_q s hz nz (by simp; omega) (x)
  obtain ⟨s1a, s1b, s1c, s1d, s1e⟩ := ra_rd s1
  refine ⟨_, ?_, by simpa using s1⟩
  unfold fX12_holdsOf
  simp -dsimp (disch := omega) only [↓B1_bp, ↓B2_bp, BP_some, BQ_some, ↓reduceIte, L_0, L_1, L_2, L_3, L_4, L_5, L_10, L_11, L_12, L_13, L_20, L_30, L_31, L_40, L_41, L_50, L_51, L_60, L_61, i2_eq, Int.reduceEq, if_true, if_false, m3c, m2c, ngc, hz, nz, sa, sb, sc, sd, se, y1, s1a, s1b, s1c, s1d, s1e]
theorem ra_h_2_p {Y : Mm} {n a : Int} {bl : List Int} (s : RA M Y 2 n a bl 0) (hz : (i2 a = i2 n) = True) (hl : bl.length + 1 ≤ 13) (x : Int32) : ∃ Z, fX12_holdsOf Y 164 x = some (i2 0, Z) ∧ RA M Z 2 n a (bl ++ [12]) 1 := by
  obtain ⟨sa, sb, sc, sd, se⟩ := ra_rd s
  obtain ⟨Y1, y1, s1⟩ := ra_ph_p s hz (by simp; omega) (x)
  obtain ⟨s1a, s1b, s1c, s1d, s1e⟩ := ra_rd s1
  refine ⟨_, ?_, by simpa using s1⟩
  unfold fX12_holdsOf
  simp -dsimp (disch := omega) only [↓B1_bp, ↓B2_bp, BP_some, BQ_some, ↓reduceIte, L_0, L_1, L_2, L_3, L_4, L_5, L_10, L_11, L_12, L_13, L_20, L_30, L_31, L_40, L_41, L_50, L_51, L_60, L_61, i2_eq, Int.reduceEq, if_true, if_false, m3c, m2c, ngc, hz, sa, sb, sc, sd, se, y1, s1a, s1b, s1c, s1d, s1e]
theorem ra_h_2_q {Y : Mm} {n a : Int} {bl : List Int} (s : RA M Y 2 n a bl 0) (hz : (i2 a = i2 n) = False) (nz : nzI (i2 a - i2 n) = some ()) (hl : bl.length + 1 ≤ 13) (x : Int32) : ∃ Z, fX12_holdsOf Y 164 x = some ((x / (i2 a - i2 n)), Z) ∧ RA M Z 2 n a (bl ++ [12]) 0 := by
  obtain ⟨sa, sb, sc, sd, se⟩ := ra_rd s
  obtain ⟨Y1, y1, s1⟩ := ra_ph_q s hz nz (by simp; omega) (x)
  obtain ⟨s1a, s1b, s1c, s1d, s1e⟩ := ra_rd s1
  refine ⟨_, ?_, by simpa using s1⟩
  unfold fX12_holdsOf
  simp -dsimp (disch := omega) only [↓B1_bp, ↓B2_bp, BP_some, BQ_some, ↓reduceIte, L_0, L_1, L_2, L_3, L_4, L_5, L_10, L_11, L_12, L_13, L_20, L_30, L_31, L_40, L_41, L_50, L_51, L_60, L_61, i2_eq, Int.reduceEq, if_true, if_false, m3c, m2c, ngc, hz, nz, sa, sb, sc, sd, se, y1, s1a, s1b, s1c, s1d, s1e]
theorem ra_h_3_p {Y : Mm} {n a : Int} {bl : List Int} (s : RA M Y 3 n a bl 0) (hz : (i2 a = i2 n) = True) (hl : bl.length + 2 ≤ 13) (x : Int32) : ∃ Z, fX12_holdsOf Y 164 x = some ((i2 0 ^^^ i2 1), Z) ∧ RA M Z 3 n a (bl ++ [50, 12]) 1 := by
  obtain ⟨sa, sb, sc, sd, se⟩ := ra_rd s
  obtain ⟨Y1, y1, s1⟩ := ra_add s (b := 50) (by omega) (by decide) (by decide)
  obtain ⟨s1a, s1b, s1c, s1d, s1e⟩ := ra_rd s1
  obtain ⟨Y2, y2, s2⟩ := ra_ph_p s1 hz (by simp; omega) (x + i2 2)
  obtain ⟨s2a, s2b, s2c, s2d, s2e⟩ := ra_rd s2
  refine ⟨_, ?_, by simpa using s2⟩
  unfold fX12_holdsOf
  simp -dsimp (disch := omega) only [↓B1_bp, ↓B2_bp, BP_some, BQ_some, ↓reduceIte, L_0, L_1, L_2, L_3, L_4, L_5, L_10, L_11, L_12, L_13, L_20, L_30, L_31, L_40, L_41, L_50, L_51, L_60, L_61, i2_eq, Int.reduceEq, if_true, if_false, m3c, m2c, ngc, hz, sa, sb, sc, sd, se, y1, s1a, s1b, s1c, s1d, s1e, y2, s2a, s2b, s2c, s2d, s2e]
theorem ra_h_3_q {Y : Mm} {n a : Int} {bl : List Int} (s : RA M Y 3 n a bl 0) (hz : (i2 a = i2 n) = False) (nz : nzI (i2 a - i2 n) = some ()) (hl : bl.length + 2 ≤ 13) (x : Int32) : ∃ Z, fX12_holdsOf Y 164 x = some (((x + i2 2) / (i2 a - i2 n) ^^^ i2 1), Z) ∧ RA M Z 3 n a (bl ++ [50, 12]) 0 := by
  obtain ⟨sa, sb, sc, sd, se⟩ := ra_rd s
  obtain ⟨Y1, y1, s1⟩ := ra_add s (b := 50) (by omega) (by decide) (by decide)
  obtain ⟨s1a, s1b, s1c, s1d, s1e⟩ := ra_rd s1
  obtain ⟨Y2, y2, s2⟩ := ra_ph_q s1 hz nz (by simp; omega) (x + i2 2)
  obtain ⟨s2a, s2b, s2c, s2d, s2e⟩ := ra_rd s2
  refine ⟨_, ?_, by simpa using s2⟩
  unfold fX12_holdsOf
  simp -dsimp (disch := omega) only [↓B1_bp, ↓B2_bp, BP_some, BQ_some, ↓reduceIte, L_0, L_1, L_2, L_3, L_4, L_5, L_10, L_11, L_12, L_13, L_20, L_30, L_31, L_40, L_41, L_50, L_51, L_60, L_61, i2_eq, Int.reduceEq, if_true, if_false, m3c, m2c, ngc, hz, nz, sa, sb, sc, sd, se, y1, s1a, s1b, s1c, s1d, s1e, y2, s2a, s2b, s2c, s2d, s2e]
theorem ra_h_4_p {Y : Mm} {n a : Int} {bl : List Int} (s : RA M Y 4 n a bl 0) (hz : (i2 a = i2 n) = True) (hl : bl.length + 1 ≤ 13) (x : Int32) : ∃ Z, fX12_holdsOf Y 164 x = some (i2 0, Z) ∧ RA M Z 4 n a (bl ++ [12]) 1 := by
  obtain ⟨sa, sb, sc, sd, se⟩ := ra_rd s
  obtain ⟨Y1, y1, s1⟩ := ra_ph_p s hz (by simp; omega) (x)
  obtain ⟨s1a, s1b, s1c, s1d, s1e⟩ := ra_rd s1
  refine ⟨_, ?_, by simpa using s1⟩
  unfold fX12_holdsOf
  simp -dsimp (disch := omega) only [↓B1_bp, ↓B2_bp, BP_some, BQ_some, ↓reduceIte, L_0, L_1, L_2, L_3, L_4, L_5, L_10, L_11, L_12, L_13, L_20, L_30, L_31, L_40, L_41, L_50, L_51, L_60, L_61, i2_eq, Int.reduceEq, if_true, if_false, m3c, m2c, ngc, hz, sa, sb, sc, sd, se, y1, s1a, s1b, s1c, s1d, s1e]
theorem ra_h_4_q {Y : Mm} {n a : Int} {bl : List Int} (s : RA M Y 4 n a bl 0) (hz : (i2 a = i2 n) = False) (nz : nzI (i2 a - i2 n) = some ()) (hl : bl.length + 1 ≤ 13) (x : Int32) : ∃ Z, fX12_holdsOf Y 164 x = some ((x / (i2 a - i2 n)), Z) ∧ RA M Z 4 n a (bl ++ [12]) 0 := by
  obtain ⟨sa, sb, sc, sd, se⟩ := ra_rd s
  obtain ⟨Y1, y1, s1⟩ := ra_ph_q s hz nz (by simp; omega) (x)
  obtain ⟨s1a, s1b, s1c, s1d, s1e⟩ := ra_rd s1
  refine ⟨_, ?_, by simpa using s1⟩
  unfold fX12_holdsOf
  simp -dsimp (disch := omega) only [↓B1_bp, ↓B2_bp, BP_some, BQ_some, ↓reduceIte, L_0, L_1, L_2, L_3, L_4, L_5, L_10, L_11, L_12, L_13, L_20, L_30, L_31, L_40, L_41, L_50, L_51, L_60, L_61, i2_eq, Int.reduceEq, if_true, if_false, m3c, m2c, ngc, hz, nz, sa, sb, sc, sd, se, y1, s1a, s1b, s1c, s1d, s1e]
theorem ra_h_5_p {Y : Mm} {n a : Int} {bl : List Int} (s : RA M Y 5 n a bl 0) (hz : (i2 a = i2 n) = True) (hl : bl.length + 2 ≤ 13) (x : Int32) : ∃ Z, fX12_holdsOf Y 164 x = some (i2 0, Z) ∧ RA M Z 5 n a (bl ++ [61, 12]) 1 := by
  obtain ⟨sa, sb, sc, sd, se⟩ := ra_rd s
  obtain ⟨Y1, y1, s1⟩ := ra_add s (b := 61) (by omega) (by decide) (by decide)
  obtain ⟨s1a, s1b, s1c, s1d, s1e⟩ := ra_rd s1
  obtain ⟨Y2, y2, s2⟩ := ra_ph_p s1 hz (by simp; omega) (x)
  obtain ⟨s2a, s2b, s2c, s2d, s2e⟩ := ra_rd s2
  refine ⟨_, ?_, by simpa using s2⟩
  unfold fX12_holdsOf
  simp -dsimp (disch := omega) only [↓B1_bp, ↓B2_bp, BP_some, BQ_some, ↓reduceIte, L_0, L_1, L_2, L_3, L_4, L_5, L_10, L_11, L_12, L_13, L_20, L_30, L_31, L_40, L_41, L_50, L_51, L_60, L_61, i2_eq, Int.reduceEq, if_true, if_false, m3c, m2c, ngc, hz, sa, sb, sc, sd, se, y1, s1a, s1b, s1c, s1d, s1e, y2, s2a, s2b, s2c, s2d, s2e]
theorem ra_h_5_q {Y : Mm} {n a : Int} {bl : List Int} (s : RA M Y 5 n a bl 0) (hz : (i2 a = i2 n) = False) (nz : nzI (i2 a - i2 n) = some ()) (hl : bl.length + 3 ≤ 13) (x : Int32) : ∃ Z, fX12_holdsOf Y 164 x = some ((x / (i2 a - i2 n) + (i2 a + i2 n)), Z) ∧ RA M Z 5 n a (bl ++ [61, 12, 10]) 0 := by
  obtain ⟨sa, sb, sc, sd, se⟩ := ra_rd s
  obtain ⟨Y1, y1, s1⟩ := ra_add s (b := 61) (by omega) (by decide) (by decide)
  obtain ⟨s1a, s1b, s1c, s1d, s1e⟩ := ra_rd s1
  obtain ⟨Y2, y2, s2⟩ := ra_ph_q s1 hz nz (by simp; omega) (x)
  obtain ⟨s2a, s2b, s2c, s2d, s2e⟩ := ra_rd s2
  obtain ⟨Y3, y3, s3⟩ := ra_r_5 s2 (by simp; omega) (i2 a)
  obtain ⟨s3a, s3b, s3c, s3d, s3e⟩ := ra_rd s3
  refine ⟨_, ?_, by simpa using s3⟩
  unfold fX12_holdsOf
  simp -dsimp (disch := omega) only [↓B1_bp, ↓B2_bp, BP_some, BQ_some, ↓reduceIte, L_0, L_1, L_2, L_3, L_4, L_5, L_10, L_11, L_12, L_13, L_20, L_30, L_31, L_40, L_41, L_50, L_51, L_60, L_61, i2_eq, Int.reduceEq, if_true, if_false, m3c, m2c, ngc, hz, nz, sa, sb, sc, sd, se, y1, s1a, s1b, s1c, s1d, s1e, y2, s2a, s2b, s2c, s2d, s2e, y3, s3a, s3b, s3c, s3d, s3e]
theorem ra_pt_0 {Y : Mm} {n a p : Int} {bl : List Int} (s : RA M Y 0 n a bl p) (hl : bl.length + 3 ≤ 13) (x : Int32) : ∃ Z, fX12_plainTells Y 164 x = some (((x + i2 n) * i2 2) ^^^ i2 a, Z) ∧ RA M Z 0 n a (bl ++ [13, 11, 10]) p := by
  obtain ⟨sa, sb, sc, sd, se⟩ := ra_rd s
  obtain ⟨Y1, y1, s1⟩ := ra_add s (b := 13) (by omega) (by decide) (by decide)
  obtain ⟨s1a, s1b, s1c, s1d, s1e⟩ := ra_rd s1
  obtain ⟨Y2, y2, s2⟩ := ra_d_0 s1 (by simp; omega) (x)
  obtain ⟨s2a, s2b, s2c, s2d, s2e⟩ := ra_rd s2
  refine ⟨_, ?_, by simpa using s2⟩
  unfold fX12_plainTells
  simp -dsimp (disch := omega) only [↓B1_bp, ↓B2_bp, BP_some, BQ_some, ↓reduceIte, L_0, L_1, L_2, L_3, L_4, L_5, L_10, L_11, L_12, L_13, L_20, L_30, L_31, L_40, L_41, L_50, L_51, L_60, L_61, i2_eq, Int.reduceEq, if_true, if_false, m3c, m2c, ngc, sa, sb, sc, sd, se, y1, s1a, s1b, s1c, s1d, s1e, y2, s2a, s2b, s2c, s2d, s2e]
theorem ra_pt_1 {Y : Mm} {n a p : Int} {bl : List Int} (s : RA M Y 1 n a bl p) (hl : bl.length + 4 ≤ 13) (x : Int32) : ∃ Z, fX12_plainTells Y 164 x = some (((x + i2 n) * i2 2 - i2 a) ^^^ i2 a, Z) ∧ RA M Z 1 n a (bl ++ [13, 20, 11, 10]) p := by
  obtain ⟨sa, sb, sc, sd, se⟩ := ra_rd s
  obtain ⟨Y1, y1, s1⟩ := ra_add s (b := 13) (by omega) (by decide) (by decide)
  obtain ⟨s1a, s1b, s1c, s1d, s1e⟩ := ra_rd s1
  obtain ⟨Y2, y2, s2⟩ := ra_d_1 s1 (by simp; omega) (x)
  obtain ⟨s2a, s2b, s2c, s2d, s2e⟩ := ra_rd s2
  refine ⟨_, ?_, by simpa using s2⟩
  unfold fX12_plainTells
  simp -dsimp (disch := omega) only [↓B1_bp, ↓B2_bp, BP_some, BQ_some, ↓reduceIte, L_0, L_1, L_2, L_3, L_4, L_5, L_10, L_11, L_12, L_13, L_20, L_30, L_31, L_40, L_41, L_50, L_51, L_60, L_61, i2_eq, Int.reduceEq, if_true, if_false, m3c, m2c, ngc, sa, sb, sc, sd, se, y1, s1a, s1b, s1c, s1d, s1e, y2, s2a, s2b, s2c, s2d, s2e]
theorem ra_pt_2 {Y : Mm} {n a p : Int} {bl : List Int} (s : RA M Y 2 n a bl p) (hl : bl.length + 4 ≤ 13) (x : Int32) : ∃ Z, fX12_plainTells Y 164 x = some ((((x + i2 n) * i2 3) * i2 2) ^^^ i2 a, Z) ∧ RA M Z 2 n a (bl ++ [13, 11, 30, 10]) p := by
  obtain ⟨sa, sb, sc, sd, se⟩ := ra_rd s
  obtain ⟨Y1, y1, s1⟩ := ra_add s (b := 13) (by omega) (by decide) (by decide)
  obtain ⟨s1a, s1b, s1c, s1d, s1e⟩ := ra_rd s1
  obtain ⟨Y2, y2, s2⟩ := ra_d_2 s1 (by simp; omega) (x)
  obtain ⟨s2a, s2b, s2c, s2d, s2e⟩ := ra_rd s2
  refine ⟨_, ?_, by simpa using s2⟩
  unfold fX12_plainTells
  simp -dsimp (disch := omega) only [↓B1_bp, ↓B2_bp, BP_some, BQ_some, ↓reduceIte, L_0, L_1, L_2, L_3, L_4, L_5, L_10, L_11, L_12, L_13, L_20, L_30, L_31, L_40, L_41, L_50, L_51, L_60, L_61, i2_eq, Int.reduceEq, if_true, if_false, m3c, m2c, ngc, sa, sb, sc, sd, se, y1, s1a, s1b, s1c, s1d, s1e, y2, s2a, s2b, s2c, s2d, s2e]
theorem ra_pt_3 {Y : Mm} {n a p : Int} {bl : List Int} (s : RA M Y 3 n a bl p) (hl : bl.length + 5 ≤ 13) (x : Int32) : ∃ Z, fX12_plainTells Y 164 x = some (((x + i2 n - i2 n) * i2 2 - i2 a) ^^^ i2 a, Z) ∧ RA M Z 3 n a (bl ++ [13, 20, 11, 51, 10]) p := by
  obtain ⟨sa, sb, sc, sd, se⟩ := ra_rd s
  obtain ⟨Y1, y1, s1⟩ := ra_add s (b := 13) (by omega) (by decide) (by decide)
  obtain ⟨s1a, s1b, s1c, s1d, s1e⟩ := ra_rd s1
  obtain ⟨Y2, y2, s2⟩ := ra_d_3 s1 (by simp; omega) (x)
  obtain ⟨s2a, s2b, s2c, s2d, s2e⟩ := ra_rd s2
  refine ⟨_, ?_, by simpa using s2⟩
  unfold fX12_plainTells
  simp -dsimp (disch := omega) only [↓B1_bp, ↓B2_bp, BP_some, BQ_some, ↓reduceIte, L_0, L_1, L_2, L_3, L_4, L_5, L_10, L_11, L_12, L_13, L_20, L_30, L_31, L_40, L_41, L_50, L_51, L_60, L_61, i2_eq, Int.reduceEq, if_true, if_false, m3c, m2c, ngc, sa, sb, sc, sd, se, y1, s1a, s1b, s1c, s1d, s1e, y2, s2a, s2b, s2c, s2d, s2e]
theorem ra_pt_4 {Y : Mm} {n a p : Int} {bl : List Int} (s : RA M Y 4 n a bl p) (hl : bl.length + 9 ≤ 13) (x : Int32) : ∃ Z, fX12_plainTells Y 164 x = some (((i2 0 - (x + i2 n) * i2 3) * i2 2 + (i2 0 - (i2 n + i2 n) * i2 3)) ^^^ i2 a, Z) ∧ RA M Z 4 n a (bl ++ [13, 41, 11, 40, 30, 10, 40, 30, 10]) p := by
  obtain ⟨sa, sb, sc, sd, se⟩ := ra_rd s
  obtain ⟨Y1, y1, s1⟩ := ra_add s (b := 13) (by omega) (by decide) (by decide)
  obtain ⟨s1a, s1b, s1c, s1d, s1e⟩ := ra_rd s1
  obtain ⟨Y2, y2, s2⟩ := ra_d_4 s1 (by simp; omega) (x)
  obtain ⟨s2a, s2b, s2c, s2d, s2e⟩ := ra_rd s2
  refine ⟨_, ?_, by simpa using s2⟩
  unfold fX12_plainTells
  simp -dsimp (disch := omega) only [↓B1_bp, ↓B2_bp, BP_some, BQ_some, ↓reduceIte, L_0, L_1, L_2, L_3, L_4, L_5, L_10, L_11, L_12, L_13, L_20, L_30, L_31, L_40, L_41, L_50, L_51, L_60, L_61, i2_eq, Int.reduceEq, if_true, if_false, m3c, m2c, ngc, sa, sb, sc, sd, se, y1, s1a, s1b, s1c, s1d, s1e, y2, s2a, s2b, s2c, s2d, s2e]
theorem ra_pt_5 {Y : Mm} {n a p : Int} {bl : List Int} (s : RA M Y 5 n a bl p) (hl : bl.length + 3 ≤ 13) (x : Int32) : ∃ Z, fX12_plainTells Y 164 x = some (((x + i2 n) * i2 2) ^^^ i2 a, Z) ∧ RA M Z 5 n a (bl ++ [13, 11, 10]) p := by
  obtain ⟨sa, sb, sc, sd, se⟩ := ra_rd s
  obtain ⟨Y1, y1, s1⟩ := ra_add s (b := 13) (by omega) (by decide) (by decide)
  obtain ⟨s1a, s1b, s1c, s1d, s1e⟩ := ra_rd s1
  obtain ⟨Y2, y2, s2⟩ := ra_d_5 s1 (by simp; omega) (x)
  obtain ⟨s2a, s2b, s2c, s2d, s2e⟩ := ra_rd s2
  refine ⟨_, ?_, by simpa using s2⟩
  unfold fX12_plainTells
  simp -dsimp (disch := omega) only [↓B1_bp, ↓B2_bp, BP_some, BQ_some, ↓reduceIte, L_0, L_1, L_2, L_3, L_4, L_5, L_10, L_11, L_12, L_13, L_20, L_30, L_31, L_40, L_41, L_50, L_51, L_60, L_61, i2_eq, Int.reduceEq, if_true, if_false, m3c, m2c, ngc, sa, sb, sc, sd, se, y1, s1a, s1b, s1c, s1d, s1e, y2, s2a, s2b, s2c, s2d, s2e]
theorem ra_t_0 {Y : Mm} {n a p : Int} {bl : List Int} (s : RA M Y 0 n a bl p) (hl : bl.length + 3 ≤ 13) (x : Int32) : ∃ Z, fX12_tellsOf Y 164 x = some (((x + i2 n) * i2 2) ^^^ i2 a, Z) ∧ RA M Z 0 n a (bl ++ [13, 11, 10]) p := by
  obtain ⟨sa, sb, sc, sd, se⟩ := ra_rd s
  obtain ⟨Y1, y1, s1⟩ := ra_pt_0 s (by simp; omega) (x)
  obtain ⟨s1a, s1b, s1c, s1d, s1e⟩ := ra_rd s1
  refine ⟨_, ?_, by simpa using s1⟩
  unfold fX12_tellsOf
  simp -dsimp (disch := omega) only [↓B1_bp, ↓B2_bp, BP_some, BQ_some, ↓reduceIte, L_0, L_1, L_2, L_3, L_4, L_5, L_10, L_11, L_12, L_13, L_20, L_30, L_31, L_40, L_41, L_50, L_51, L_60, L_61, i2_eq, Int.reduceEq, if_true, if_false, m3c, m2c, ngc, sa, sb, sc, sd, se, y1, s1a, s1b, s1c, s1d, s1e]
theorem ra_t_1 {Y : Mm} {n a p : Int} {bl : List Int} (s : RA M Y 1 n a bl p) (hl : bl.length + 4 ≤ 13) (x : Int32) : ∃ Z, fX12_tellsOf Y 164 x = some (((x + i2 n) * i2 2 - i2 a) ^^^ i2 a, Z) ∧ RA M Z 1 n a (bl ++ [13, 20, 11, 10]) p := by
  obtain ⟨sa, sb, sc, sd, se⟩ := ra_rd s
  obtain ⟨Y1, y1, s1⟩ := ra_pt_1 s (by simp; omega) (x)
  obtain ⟨s1a, s1b, s1c, s1d, s1e⟩ := ra_rd s1
  refine ⟨_, ?_, by simpa using s1⟩
  unfold fX12_tellsOf
  simp -dsimp (disch := omega) only [↓B1_bp, ↓B2_bp, BP_some, BQ_some, ↓reduceIte, L_0, L_1, L_2, L_3, L_4, L_5, L_10, L_11, L_12, L_13, L_20, L_30, L_31, L_40, L_41, L_50, L_51, L_60, L_61, i2_eq, Int.reduceEq, if_true, if_false, m3c, m2c, ngc, sa, sb, sc, sd, se, y1, s1a, s1b, s1c, s1d, s1e]
theorem ra_t_2_p {Y : Mm} {n a : Int} {bl : List Int} (s : RA M Y 2 n a bl 0) (hz : (i2 a = i2 n) = True) (hl : bl.length + 6 ≤ 13) (x : Int32) : ∃ Z, fX12_tellsOf Y 164 x = some (((((x + i2 n) * i2 3) * i2 2) ^^^ i2 a) + i2 0, Z) ∧ RA M Z 2 n a (bl ++ [31, 13, 11, 30, 10, 12]) 1 := by
  obtain ⟨sa, sb, sc, sd, se⟩ := ra_rd s
  obtain ⟨Y1, y1, s1⟩ := ra_add s (b := 31) (by omega) (by decide) (by decide)
  obtain ⟨s1a, s1b, s1c, s1d, s1e⟩ := ra_rd s1
  obtain ⟨Y2, y2, s2⟩ := ra_pt_2 s1 (by simp; omega) (x)
  obtain ⟨s2a, s2b, s2c, s2d, s2e⟩ := ra_rd s2
  obtain ⟨Y3, y3, s3⟩ := ra_h_2_p s2 hz (by simp; omega) (i2 n)
  obtain ⟨s3a, s3b, s3c, s3d, s3e⟩ := ra_rd s3
  refine ⟨_, ?_, by simpa using s3⟩
  unfold fX12_tellsOf
  simp -dsimp (disch := omega) only [↓B1_bp, ↓B2_bp, BP_some, BQ_some, ↓reduceIte, L_0, L_1, L_2, L_3, L_4, L_5, L_10, L_11, L_12, L_13, L_20, L_30, L_31, L_40, L_41, L_50, L_51, L_60, L_61, i2_eq, Int.reduceEq, if_true, if_false, m3c, m2c, ngc, sa, sb, sc, sd, se, y1, s1a, s1b, s1c, s1d, s1e, y2, s2a, s2b, s2c, s2d, s2e, y3, s3a, s3b, s3c, s3d, s3e]
theorem ra_t_2_q {Y : Mm} {n a : Int} {bl : List Int} (s : RA M Y 2 n a bl 0) (hz : (i2 a = i2 n) = False) (nz : nzI (i2 a - i2 n) = some ()) (hl : bl.length + 6 ≤ 13) (x : Int32) : ∃ Z, fX12_tellsOf Y 164 x = some (((((x + i2 n) * i2 3) * i2 2) ^^^ i2 a) + (i2 n / (i2 a - i2 n)), Z) ∧ RA M Z 2 n a (bl ++ [31, 13, 11, 30, 10, 12]) 0 := by
  obtain ⟨sa, sb, sc, sd, se⟩ := ra_rd s
  obtain ⟨Y1, y1, s1⟩ := ra_add s (b := 31) (by omega) (by decide) (by decide)
  obtain ⟨s1a, s1b, s1c, s1d, s1e⟩ := ra_rd s1
  obtain ⟨Y2, y2, s2⟩ := ra_pt_2 s1 (by simp; omega) (x)
  obtain ⟨s2a, s2b, s2c, s2d, s2e⟩ := ra_rd s2
  obtain ⟨Y3, y3, s3⟩ := ra_h_2_q s2 hz nz (by simp; omega) (i2 n)
  obtain ⟨s3a, s3b, s3c, s3d, s3e⟩ := ra_rd s3
  refine ⟨_, ?_, by simpa using s3⟩
  unfold fX12_tellsOf
  simp -dsimp (disch := omega) only [↓B1_bp, ↓B2_bp, BP_some, BQ_some, ↓reduceIte, L_0, L_1, L_2, L_3, L_4, L_5, L_10, L_11, L_12, L_13, L_20, L_30, L_31, L_40, L_41, L_50, L_51, L_60, L_61, i2_eq, Int.reduceEq, if_true, if_false, m3c, m2c, ngc, sa, sb, sc, sd, se, y1, s1a, s1b, s1c, s1d, s1e, y2, s2a, s2b, s2c, s2d, s2e, y3, s3a, s3b, s3c, s3d, s3e]
theorem ra_t_3 {Y : Mm} {n a p : Int} {bl : List Int} (s : RA M Y 3 n a bl p) (hl : bl.length + 5 ≤ 13) (x : Int32) : ∃ Z, fX12_tellsOf Y 164 x = some (((x + i2 n - i2 n) * i2 2 - i2 a) ^^^ i2 a, Z) ∧ RA M Z 3 n a (bl ++ [13, 20, 11, 51, 10]) p := by
  obtain ⟨sa, sb, sc, sd, se⟩ := ra_rd s
  obtain ⟨Y1, y1, s1⟩ := ra_pt_3 s (by simp; omega) (x)
  obtain ⟨s1a, s1b, s1c, s1d, s1e⟩ := ra_rd s1
  refine ⟨_, ?_, by simpa using s1⟩
  unfold fX12_tellsOf
  simp -dsimp (disch := omega) only [↓B1_bp, ↓B2_bp, BP_some, BQ_some, ↓reduceIte, L_0, L_1, L_2, L_3, L_4, L_5, L_10, L_11, L_12, L_13, L_20, L_30, L_31, L_40, L_41, L_50, L_51, L_60, L_61, i2_eq, Int.reduceEq, if_true, if_false, m3c, m2c, ngc, sa, sb, sc, sd, se, y1, s1a, s1b, s1c, s1d, s1e]
theorem ra_t_4_p {Y : Mm} {n a : Int} {bl : List Int} (s : RA M Y 4 n a bl 0) (hz : (i2 a = i2 n) = True) (hl : bl.length + 11 ≤ 13) (x : Int32) : ∃ Z, fX12_tellsOf Y 164 x = some ((((i2 0 - (x + i2 n) * i2 3) * i2 2 + (i2 0 - (i2 n + i2 n) * i2 3)) ^^^ i2 a) + i2 0, Z) ∧ RA M Z 4 n a (bl ++ [31, 13, 41, 11, 40, 30, 10, 40, 30, 10, 12]) 1 := by
  obtain ⟨sa, sb, sc, sd, se⟩ := ra_rd s
  obtain ⟨Y1, y1, s1⟩ := ra_add s (b := 31) (by omega) (by decide) (by decide)
  obtain ⟨s1a, s1b, s1c, s1d, s1e⟩ := ra_rd s1
  obtain ⟨Y2, y2, s2⟩ := ra_pt_4 s1 (by simp; omega) (x)
  obtain ⟨s2a, s2b, s2c, s2d, s2e⟩ := ra_rd s2
  obtain ⟨Y3, y3, s3⟩ := ra_h_4_p s2 hz (by simp; omega) (i2 n)
  obtain ⟨s3a, s3b, s3c, s3d, s3e⟩ := ra_rd s3
  refine ⟨_, ?_, by simpa using s3⟩
  unfold fX12_tellsOf
  simp -dsimp (disch := omega) only [↓B1_bp, ↓B2_bp, BP_some, BQ_some, ↓reduceIte, L_0, L_1, L_2, L_3, L_4, L_5, L_10, L_11, L_12, L_13, L_20, L_30, L_31, L_40, L_41, L_50, L_51, L_60, L_61, i2_eq, Int.reduceEq, if_true, if_false, m3c, m2c, ngc, sa, sb, sc, sd, se, y1, s1a, s1b, s1c, s1d, s1e, y2, s2a, s2b, s2c, s2d, s2e, y3, s3a, s3b, s3c, s3d, s3e]
theorem ra_t_4_q {Y : Mm} {n a : Int} {bl : List Int} (s : RA M Y 4 n a bl 0) (hz : (i2 a = i2 n) = False) (nz : nzI (i2 a - i2 n) = some ()) (hl : bl.length + 11 ≤ 13) (x : Int32) : ∃ Z, fX12_tellsOf Y 164 x = some ((((i2 0 - (x + i2 n) * i2 3) * i2 2 + (i2 0 - (i2 n + i2 n) * i2 3)) ^^^ i2 a) + (i2 n / (i2 a - i2 n)), Z) ∧ RA M Z 4 n a (bl ++ [31, 13, 41, 11, 40, 30, 10, 40, 30, 10, 12]) 0 := by
  obtain ⟨sa, sb, sc, sd, se⟩ := ra_rd s
  obtain ⟨Y1, y1, s1⟩ := ra_add s (b := 31) (by omega) (by decide) (by decide)
  obtain ⟨s1a, s1b, s1c, s1d, s1e⟩ := ra_rd s1
  obtain ⟨Y2, y2, s2⟩ := ra_pt_4 s1 (by simp; omega) (x)
  obtain ⟨s2a, s2b, s2c, s2d, s2e⟩ := ra_rd s2
  obtain ⟨Y3, y3, s3⟩ := ra_h_4_q s2 hz nz (by simp; omega) (i2 n)
  obtain ⟨s3a, s3b, s3c, s3d, s3e⟩ := ra_rd s3
  refine ⟨_, ?_, by simpa using s3⟩
  unfold fX12_tellsOf
  simp -dsimp (disch := omega) only [↓B1_bp, ↓B2_bp, BP_some, BQ_some, ↓reduceIte, L_0, L_1, L_2, L_3, L_4, L_5, L_10, L_11, L_12, L_13, L_20, L_30, L_31, L_40, L_41, L_50, L_51, L_60, L_61, i2_eq, Int.reduceEq, if_true, if_false, m3c, m2c, ngc, sa, sb, sc, sd, se, y1, s1a, s1b, s1c, s1d, s1e, y2, s2a, s2b, s2c, s2d, s2e, y3, s3a, s3b, s3c, s3d, s3e]
theorem ra_t_5 {Y : Mm} {n a p : Int} {bl : List Int} (s : RA M Y 5 n a bl p) (hl : bl.length + 4 ≤ 13) (x : Int32) : ∃ Z, fX12_tellsOf Y 164 x = some ((((x + i2 n) * i2 2) ^^^ i2 a) * i2 2, Z) ∧ RA M Z 5 n a (bl ++ [60, 13, 11, 10]) p := by
  obtain ⟨sa, sb, sc, sd, se⟩ := ra_rd s
  obtain ⟨Y1, y1, s1⟩ := ra_add s (b := 60) (by omega) (by decide) (by decide)
  obtain ⟨s1a, s1b, s1c, s1d, s1e⟩ := ra_rd s1
  obtain ⟨Y2, y2, s2⟩ := ra_pt_5 s1 (by simp; omega) (x)
  obtain ⟨s2a, s2b, s2c, s2d, s2e⟩ := ra_rd s2
  refine ⟨_, ?_, by simpa using s2⟩
  unfold fX12_tellsOf
  simp -dsimp (disch := omega) only [↓B1_bp, ↓B2_bp, BP_some, BQ_some, ↓reduceIte, L_0, L_1, L_2, L_3, L_4, L_5, L_10, L_11, L_12, L_13, L_20, L_30, L_31, L_40, L_41, L_50, L_51, L_60, L_61, i2_eq, Int.reduceEq, if_true, if_false, m3c, m2c, ngc, sa, sb, sc, sd, se, y1, s1a, s1b, s1c, s1d, s1e, y2, s2a, s2b, s2c, s2d, s2e]
end ACTM
