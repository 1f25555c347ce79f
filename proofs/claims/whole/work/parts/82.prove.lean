section PROVE
variable {M : Mm} {A : Int → Int}
/-- the stocking behind so many legs, and the rows that are due -/
def prS (A : Int → Int) (w : Int) (S : Int → Int) : Nat → Int → Int
  | 0 => S
  | n + 1 => wayS (lwA A) (wtA A w) (ntA A w) n 1 (prS A w S n)
def duA (A : Int → Int) (w : Int) (S : Int → Int) : Int → Int := fun y => if y % 3 = 0 then y / 3 else if y % 3 = 1 then cl (prS A w S ((y / 3).toNat + 1) 6) else cl (prS A w S ((y / 3).toNat + 1) 7)
theorem du_0 {w : Int} {S : Int → Int} (n : Nat) : duA A w S (3 * n) = n := by
  unfold duA
  rw [if_pos (by omega)]
  omega
theorem du_1 {w : Int} {S : Int → Int} (n : Nat) : duA A w S (3 * n + 1) = cl (prS A w S (n + 1) 6) := by
  unfold duA
  rw [if_neg (by omega), if_pos (by omega), show ((3 * (n : Int) + 1) / 3).toNat = n by omega]
theorem du_2 {w : Int} {S : Int → Int} (n : Nat) : duA A w S (3 * n + 2) = cl (prS A w S (n + 1) 7) := by
  unfold duA
  rw [if_neg (by omega), if_neg (by omega), show ((3 * (n : Int) + 2) / 3).toNat = n by omega]
theorem pr_gs (g : GA A) {w : Int} {S : Int → Int} (gs : GS S) : ∀ n : Nat, GS (prS A w S n)
  | 0 => gs
  | n + 1 => (pr_gs g gs n).way g.2.2.2.2.2.1 _ _
theorem cl_67 {S : Int → Int} (g : GS S) : (-9 ≤ cl (S 6) ∧ cl (S 6) ≤ 99) ∧ (-9 ≤ cl (S 7) ∧ cl (S 7) ≤ 99) := by
  obtain ⟨-, -, -, -, -, -, q, -⟩ := g
  have b6 := cl_b (x := S 6) (by omega)
  have b7 := cl_b (x := S 7) (by omega)
  omega
/-- the tried drawer and the rows -/
def PrP (p : Nat) : Prop := (71 ≤ p ∧ p < 106) ∨ (150 ≤ p ∧ p < 160)
theorem t_row (h : LayC M) : rdN M 0 14 6 = some 149 := by unfold rdN; rw [if_pos h.1.1]; exact h.1.2.2.2.2.2.2.1
theorem t_rowAt (h : LayC M) {i : Int} (i0 : 0 ≤ i) (i9 : i < 10) : alN M 149 26 (i2 i) = some (150 + i.toNat) := by
  obtain ⟨-, -, -, -, -, -, -, -, -, ⟨r1, r2, r3⟩, -⟩ := h
  unfold alN
  rw [if_pos, i2_nat (by omega) (by omega)]
  · exact r3 i.toNat (by omega)
  · refine ⟨r1, ?_⟩
    rw [r2, i2_inB (by omega) (by omega)]
    simp [i0]
    omega
theorem t_rowA (h : LayC M) {i : Nat} (i9 : i < 10) : Ar M (150 + i) 3 := h.2.2.2.2.2.2.2.2.2.2.1 i i9
theorem asI_g {X : Mm} {q N : Nat} {U : Int → Int} {x v : Int} (h : Ar X q N) (h0 : 0 ≤ x) (h1 : x < N) (h2 : x < 2147483648) : asI (X.row q U) q (i2 x) (i2 v) = some (X.row q (uA U x v)) := asI_row h h0 h1 h2
theorem TS.row {X : Mm} {k : Nat} {S U : Int → Int} {q : Nat} (t : TS X A k S) (g : GA A) (k8 : k < 8) (hq : 150 ≤ q) : TS (X.row q U) A k S := by
  obtain ⟨t1, t2, t3, t4⟩ := t
  have s := Same.row X q U
  exact ⟨t1.same s, t2.same s (by omega) g.1.2, t3.same (s.2 _ (by omega)) (s.2 _ (by omega)) (s.2 _ (by omega)), t4⟩
theorem TS.rowz {X : Mm} {k : Nat} {S U : Int → Int} (t : TS X A k S) (g : GA A) : TS (X.row 0 U) A k S := by
  obtain ⟨t1, t2, t3, t4⟩ := t
  have s := Same.row X 0 U
  exact ⟨t1.same s, t2.same s (by omega) g.1.2, t3.same (s.2 _ (by omega)) (s.2 _ (by omega)) (s.2 _ (by omega)), t4⟩
theorem t_rowR {X : Mm} {k : Nat} {S U : Int → Int} {q : Nat} (t : TS X A k S) (g : GA A) (k8 : k < 8) (hq : 150 ≤ q) : rdI (X.row q U) (71 + 11 + 3 * k) 10 6 = some (i2 (cl (S 6))) ∧ rdI (X.row q U) (71 + 11 + 3 * k) 10 7 = some (i2 (cl (S 7))) := t_67 (t.row g k8 hq) k8
theorem c_prove_L (g : GA A) {k : Nat} (k8 : k < 8) {w : Int} {S0 : Int → Int} (e : 0 ≤ w ∧ w ≤ 1) : ∀ (d N : Nat) (X : Mm) (n : Nat), TS X A k (prS A w S0 n) → (∀ i : Nat, i < n → ∀ j : Int, 0 ≤ j → j < 3 → gI X (150 + i) j = duA A w S0 (3 * i + j)) → d < N → (n : Int) + d = A (12 + w) → ∃ X', fX11_prove_L40 0 (1 + 5 + 3 * w.toNat) (71 + 11 + 3 * k) N (i2 n) X = some (i2 (A (12 + w)), X'.row 0 (uA (gI X' 0) 7 (A (12 + w)))) ∧ SmP PrP X X' ∧ (∀ i : Nat, (i : Int) < A (12 + w) → ∀ j : Int, 0 ≤ j → j < 3 → gI X' (150 + i) j = duA A w S0 (3 * i + j)) := by
  have gc := g_wcnt g e
  intro d
  induction d with
  | zero =>
    intro N X n t hr hN hn
    obtain ⟨N, rfl⟩ : ∃ k, N = k + 1 := ⟨N - 1, by omega⟩
    have wr := (d_wrx (t_d1 t.1) t.2.1 g e).2.1
    have q : A (12 + w) ≤ n := by omega
    have wi := g_wrI (M := X) (p := 0) (kd := 14) (j := 7) (v := A (12 + w)) t.1.1.1 (by decide)
    rw [show ((7 : Nat) : Int) = 7 from rfl] at wi
    have ri : rdI (X.row 0 (uA (gI X 0) 7 (A (12 + w)))) 0 14 7 = some (i2 (A (12 + w))) := by
      have z := g_rdI (M := X.row 0 (uA (gI X 0) 7 (A (12 + w)))) (p := 0) (kd := 14) t.1.1.1 7
      rw [show ((7 : Nat) : Int) = 7 from rfl, gI_u (by decide) (by omega) (by omega)] at z
      exact z
    refine ⟨X, ?_, SmP.rf _ _, fun i hi => hr i (by omega)⟩
    simp -dsimp (disch := omega) only [fX11_prove_L40, ↓B1_bp, ↓B2_bp, BP_some, BQ_some, ↓reduceIte, L_0, L_1, L_2, L_3, L_4, L_5, L_6, L_7, L_8, L_9, L_10, L_11, L_12, L_13, L_54, L_14, L_99, L_20, L_30, L_31, L_60, L_19, i2_add, i2_sub, i2_mul, i2_neg, Int.reduceAdd, Int.reduceSub, Int.reduceMul, Int.reduceNeg, Int.reduceLT, Int.reduceLE, Int.reduceEq, i2_le, i2_lt, i2_eq, uA_self, uA_ne, tf_0, not_true_eq_false, not_false_eq_true, wr, q, if_true, wi, ri]
  | succ d ih =>
    intro N X n t hr hN hn
    obtain ⟨N, rfl⟩ : ∃ k, N = k + 1 := ⟨N - 1, by omega⟩
    have wr := (d_wrx (t_d1 t.1) t.2.1 g e).2.1
    have q : ¬ A (12 + w) ≤ n := by omega
    obtain ⟨X1, p1, t1, s1⟩ := c_tPass t g k8 e (fr := n) (to := n + 1) (by omega) (by omega) (by omega)
    rw [show (min ((n : Int) + 1) (A (12 + w)) - n).toNat = 1 by omega] at t1
    change TS X1 A k (prS A w S0 (n + 1)) at t1
    have ra := t_rowA t1.1 (i := n) (by omega)
    have rt : ∀ U, alN (X1.row (150 + n) U) 149 26 (i2 n) = some (150 + n) := fun U => t_rowAt (t1.row (U := U) g k8 (q := 150 + n) (by omega)).1 (i := n) (by omega) (by omega)
    have rt0 : alN X1 149 26 (i2 n) = some (150 + n) := t_rowAt t1.1 (i := n) (by omega) (by omega)
    have r0 : ∀ U, rdN (X1.row (150 + n) U) 0 14 6 = some 149 := fun U => t_row (t1.row (U := U) g k8 (q := 150 + n) (by omega)).1
    have r00 := t_row t1.1
    have c67 := fun U => t_rowR (U := U) (q := 150 + n) t1 g k8 (by omega)
    have b67 := cl_67 t1.2.2.2
    have w0 : asI X1 (150 + n) (i2 0) (i2 n) = some (X1.row (150 + n) (uA (gI X1 (150 + n)) 0 n)) := by
      have z := asI_g (X := X1) (U := gI X1 (150 + n)) (x := 0) (v := n) ra (by decide) (by decide) (by decide)
      rwa [row_gI] at z
    have t2 := fun U => t1.row (U := U) g k8 (q := 150 + n) (by omega)
    have hr2 : ∀ i : Nat, i < n + 1 → ∀ j : Int, 0 ≤ j → j < 3 → gI (X1.row (150 + n) (uA (uA (uA (gI X1 (150 + n)) 0 n) 1 (cl (prS A w S0 (n + 1) 6))) 2 (cl (prS A w S0 (n + 1) 7)))) (150 + i) j = duA A w S0 (3 * i + j) := fun i hi j j0 j3 => by
      by_cases ei : i = n
      · subst ei
        have jj : j = 0 ∨ j = 1 ∨ j = 2 := by omega
        rcases jj with rfl | rfl | rfl
        · rw [gI_at (by decide) (by rw [uA_ne (by decide), uA_ne (by decide), uA_self]; omega) (by rw [uA_ne (by decide), uA_ne (by decide), uA_self]; omega), uA_ne (by decide), uA_ne (by decide), uA_self, Int.add_zero, du_0]
        · rw [gI_at (by decide) (by rw [uA_ne (by decide), uA_self]; omega) (by rw [uA_ne (by decide), uA_self]; omega), uA_ne (by decide), uA_self, du_1]
        · rw [gI_at (by decide) (by rw [uA_self]; omega) (by rw [uA_self]; omega), uA_self, du_2]
      · rw [gI_ne _ (by omega), gI_of (s1.2 (150 + i) (by unfold TrP; omega))]
        exact hr i (by omega) j j0 j3
    obtain ⟨X2, j1, j2, j3⟩ := ih N _ (n + 1) (t2 _) hr2 (by omega) (by omega)
    have sA : SmP PrP X X1 := ⟨s1.1, fun p hp => s1.2 p fun z => hp (Or.inl z)⟩
    have sB : ∀ U, SmP PrP X1 (X1.row (150 + n) U) := fun U => SmP.row X1 U (Or.inr (by omega))
    refine ⟨X2, ?_, (sA.tr (sB _)).tr j2, j3⟩
    rw [show (((n + 1 : Nat) : Int)) = (n : Int) + 1 from rfl] at j1
    rw [← j1]
    have nw := t_now t.1
    have lw := d_laws (t_d1 t.1)
    have gk1 := d_gk10 (t_d71 t.1) k8
    have c6 := fun U => (c67 U).1
    have c7 := fun U => (c67 U).2
    have as1 := fun U (x v : Int) (h0 : 0 ≤ x) (h3 : x < 3) => asI_g (X := X1) (U := U) (x := x) (v := v) ra h0 h3 (by omega)
    generalize cl (prS A w S0 (n + 1) 6) = v6 at c6 b67
    generalize cl (prS A w S0 (n + 1) 7) = v7 at c7 b67
    clear ih j1 j2 j3 t t1 t2 hr hr2 g c67 s1
    simp -dsimp (disch := omega) only [fX11_prove_L40, ↓B1_bp, ↓B2_bp, BP_some, BQ_some, ↓reduceIte, L_0, L_1, L_2, L_3, L_4, L_5, L_6, L_7, L_8, L_9, L_10, L_11, L_12, L_13, L_54, L_14, L_99, L_20, L_30, L_31, L_60, L_19, i2_add, i2_sub, i2_mul, i2_neg, Int.reduceAdd, Int.reduceSub, Int.reduceMul, Int.reduceNeg, Int.reduceLT, Int.reduceLE, Int.reduceEq, i2_le, i2_lt, i2_eq, uA_self, uA_ne, tf_0, not_true_eq_false, not_false_eq_true, wr, q, if_false, nw, lw, gk1, p1, r00, rt0, w0, r0, rt, c6, c7, as1]
/-! the reference's due rows -/
def DuP (p : Nat) : Prop := p = 165 ∨ p = 167 ∨ p = 171
theorem m_r12 (h : LayM M) : rdN M 164 15 12 = some 171 := by unfold rdN; rw [if_pos h.1.1]; exact h.1.2.2.2.2.2.2.2.1
theorem m_r10 (h : LayM M) : rdN M 164 15 10 = some 170 := by unfold rdN; rw [if_pos h.1.1]; exact h.1.2.2.2.2.2.2.1
theorem ar_du (h : LayM M) : Ar M 171 30 := h.2.2.2.2.1
theorem ar_ro (h : LayM M) : Ar M 170 30 := h.2.2.2.1
theorem m_du (h : LayM M) {Z R D : Int → Int} {x v : Int} (x0 : 0 ≤ x) (x9 : x < 30) : asI (((M.row 171 D).row 167 Z).row 165 R) 171 (i2 x) (i2 v) = some (((M.row 171 (uA D x v)).row 167 Z).row 165 R) := by
  have e : ∀ D, ((M.row 171 D).row 167 Z).row 165 R = ((M.row 167 Z).row 165 R).row 171 D := fun D => by
    rw [row_comm (M := M) (p := 171) (q := 167) _ _ (by decide), row_comm (M := M.row 167 Z) (p := 171) (q := 165) _ _ (by decide)]
  have hm : LayM ((M.row 167 Z).row 165 R) := h
  rw [e, e]
  exact asI_row (ar_du hm) x0 x9 (by omega)
theorem m_due_L (h : LayM M) (g : GA A) {Z : Int → Int} {k : Int} (k0 : 0 ≤ k) (k1 : k < A 0) (hf : A 2 = k ∨ A 3 = k) {w : Int} {S0 : Int → Int} (gs : GS S0) (e : 0 ≤ w ∧ w ≤ 1) : ∀ (d N : Nat) (R D : Int → Int) (n : Nat), Wk A R k (prS A w S0 n) → (∀ y : Int, 0 ≤ y → y < 3 * n → D y = duA A w S0 y) → d < N → (n : Int) + d = A (12 + w) → ∃ R' D', fX12_findDue_L16 164 (i2 w) (i2 k) N (i2 n) (((M.row 171 D).row 167 Z).row 165 R) = some (((M.row 171 D').row 167 Z).row 165 (mx Z R' 158)) ∧ ∀ y : Int, 0 ≤ y → y < 3 * A (12 + w) → D' y = duA A w S0 y := by
  have g0 := g.1
  have gc := g_wcnt g e
  intro d
  induction d with
  | zero =>
    intro N R D n t hd hN hn
    obtain ⟨N, rfl⟩ : ∃ k, N = k + 1 := ⟨N - 1, by omega⟩
    have hm : LayM ((M.row 171 D).row 167 Z) := h
    have q : A (12 + w) ≤ n := by omega
    have r7 : alI (((M.row 171 D).row 167 Z).row 165 R) 165 (i2 (12 + w)) = some (i2 (A (12 + w))) := by
      rw [m_al hm (by omega) (by omega), t.2.1 _ (by omega)]
    have lb := m_laysBack (M := M.row 171 D) (X := Z) (A := R) h
    refine ⟨R, D, ?_, fun y a b => hd y a (by omega)⟩
    clear t g
    simp -dsimp (disch := omega) only [fX12_findDue_L16, ↓B1_bp, ↓B2_bp, BP_some, BQ_some, ↓reduceIte, L_0, L_1, L_2, L_3, L_4, L_5, L_6, L_7, L_8, L_9, L_10, L_11, L_12, L_13, L_54, L_14, L_99, L_20, L_30, L_31, L_60, L_19, i2_add, i2_sub, i2_mul, i2_neg, Int.reduceAdd, Int.reduceSub, Int.reduceMul, Int.reduceNeg, Int.reduceLT, Int.reduceLE, Int.reduceEq, i2_le, i2_lt, i2_eq, uA_self, uA_ne, tf_0, not_true_eq_false, not_false_eq_true, rdN_row, rdm0 hm, gk_row, gk_m hm, r7, q, if_true, lb]
    all_goals first | rfl | (rw [gk_m h]; rfl)
  | succ d ih =>
    intro N R D n t hd hN hn
    obtain ⟨N, rfl⟩ : ∃ k, N = k + 1 := ⟨N - 1, by omega⟩
    have hm : LayM ((M.row 171 D).row 167 Z) := h
    have q : ¬ A (12 + w) ≤ n := by omega
    have r7 : alI (((M.row 171 D).row 167 Z).row 165 R) 165 (i2 (12 + w)) = some (i2 (A (12 + w))) := by
      rw [m_al hm (by omega) (by omega), t.2.1 _ (by omega)]
    obtain ⟨R1, p1, t1⟩ := m_wPass hm t g k0 k1 hf e (fr := n) (to := n + 1) (by omega) (by omega) (by omega)
    rw [show ((n : Int) + 1 - n).toNat = 1 by omega] at t1
    change Wk A R1 k (prS A w S0 (n + 1)) at t1
    have gp := pr_gs (w := w) g gs (n + 1)
    have b67 := cl_67 gp
    obtain ⟨-, -, -, -, -, -, q67, -⟩ := gp
    have it6 : ∀ D, fX12_its (((M.row 171 D).row 167 Z).row 165 R1) 164 (i2 k) (i2 6) = some (i2 (prS A w S0 (n + 1) 6)) := fun D => by
      have hm : LayM ((M.row 171 D).row 167 Z) := h
      rw [m_st hm k0 (by omega) (by decide) (by decide), t1.2.2 6 (by decide) (by decide)]
    have it7 : ∀ D, fX12_its (((M.row 171 D).row 167 Z).row 165 R1) 164 (i2 k) (i2 7) = some (i2 (prS A w S0 (n + 1) 7)) := fun D => by
      have hm : LayM ((M.row 171 D).row 167 Z) := h
      rw [m_st hm k0 (by omega) (by decide) (by decide), t1.2.2 7 (by decide) (by decide)]
    have hd2 : ∀ y : Int, 0 ≤ y → y < 3 * ((n + 1 : Nat) : Int) → uA (uA (uA D (3 * n) n) (3 * n + 1) (cl (prS A w S0 (n + 1) 6))) (3 * n + 2) (cl (prS A w S0 (n + 1) 7)) y = duA A w S0 y := fun y a b => by
      by_cases e2 : y = 3 * n + 2
      · rw [e2, uA_self, du_2]
      · rw [uA_ne e2]
        by_cases e1 : y = 3 * n + 1
        · rw [e1, uA_self, du_1]
        · rw [uA_ne e1]
          by_cases e0 : y = 3 * n
          · rw [e0, uA_self, du_0]
          · rw [uA_ne e0]
            exact hd y a (by omega)
    obtain ⟨R', D', j1, j2⟩ := ih N R1 _ (n + 1) t1 hd2 (by omega) (by omega)
    refine ⟨R', D', ?_, j2⟩
    rw [show (((n + 1 : Nat) : Int)) = (n : Int) + 1 from rfl] at j1
    rw [← j1]
    have du := fun (D : Int → Int) (x v : Int) (x0 : 0 ≤ x) (x9 : x < 30) => m_du (M := M) (Z := Z) (R := R1) (D := D) (x := x) (v := v) h x0 x9
    have gg := gk_m h
    have r12 := m_r12 h
    have r12' : ∀ D, rdN (M.row 171 D) 164 15 12 = some 171 := fun D => r12
    have gg' : ∀ D, gk (M.row 171 D) 164 15 = some () := fun D => gg
    generalize prS A w S0 (n + 1) 6 = v6 at it6 b67 q67
    generalize prS A w S0 (n + 1) 7 = v7 at it7 b67 q67
    have to6 := fun M => m_told M (x := v6) (by omega) (by omega)
    have to7 := fun M => m_told M (x := v7) (by omega) (by omega)
    clear ih j1 j2 t t1 hd hd2 g gs
    simp -dsimp (disch := omega) only [fX12_findDue_L16, ↓B1_bp, ↓B2_bp, BP_some, BQ_some, ↓reduceIte, L_0, L_1, L_2, L_3, L_4, L_5, L_6, L_7, L_8, L_9, L_10, L_11, L_12, L_13, L_54, L_14, L_99, L_20, L_30, L_31, L_60, L_19, i2_add, i2_sub, i2_mul, i2_neg, Int.reduceAdd, Int.reduceSub, Int.reduceMul, Int.reduceNeg, Int.reduceLT, Int.reduceLE, Int.reduceEq, i2_le, i2_lt, i2_eq, uA_self, uA_ne, tf_0, not_true_eq_false, not_false_eq_true, rdN_row, rdm0 h, gk_row, gg, r7, q, if_false, p1, r12, du, it6, it7, to6, to7]
theorem m_findDue (h : LayM M) (g : GA A) {f w : Int} (ef : 0 ≤ f ∧ f ≤ 1) (e : 0 ≤ w ∧ w ≤ 1) (e4 : 0 ≤ A (2 + f)) : ∃ Z R D, fX12_findDue (M.row 165 A) 164 (i2 f) (i2 w) = some (((M.row 171 D).row 167 Z).row 165 R) ∧ E158 R A ∧ ∀ y : Int, 0 ≤ y → y < 3 * A (12 + w) → D y = duA A w (stA A (A (2 + f))) y := by
  have g0 := g.1
  have bf := b_feet g ef.1 ef.2
  have gc := g_wcnt g e
  have la := m_lends (A := A) h
  obtain ⟨R', D', p1, p2⟩ := m_due_L (Z := mx A (gI M 167) 158) h g e4 bf.2 (on_foot ef) (w := w) (g.2.2.2.2.2.2.2 _ e4 bf.2) e (A (12 + w)).toNat FL A (gI M 171) 0 (Wk.rf g _) (fun y a b => absurd b (by omega)) (by show _ < 4096; omega) (by omega)
  rw [row_gI] at p1
  refine ⟨mx A (gI M 167) 158, mx (mx A (gI M 167) 158) R' 158, D', ?_, e_back, p2⟩
  have hm := h
  unfold fX12_findDue
  simp -dsimp (disch := omega) only [↓B1_bp, ↓B2_bp, BP_some, BQ_some, ↓reduceIte, gk_row, rdN_row, alN_row, alN__row, gk_m hm, rdm0 hm, rdm1 hm, rdm2 hm, rdm3 hm, L_0, L_1, L_2, L_3, L_4, L_5, L_6, L_7, L_8, L_9, L_10, L_11, L_12, L_13, L_54, L_14, L_99, L_20, L_30, L_31, L_60, L_19, i2_add, i2_sub, i2_mul, i2_neg, Int.reduceAdd, Int.reduceSub, Int.reduceMul, Int.reduceNeg, Int.reduceLT, Int.reduceLE, Int.reduceEq, i2_le, i2_lt, i2_eq, J_0, J_1, J_2, J_3, J_5, J_7, J_8, J_9, J_10, J_13, J_15, J_30, J_60, J_99, J_100, J_999, J_n1, i2_j2, m_in, tf_0, not_true_eq_false, not_false_eq_true, m_al hm, L_15, L_40, L_100, L_101, L_190, L_200, L_999, uA_self, and_self, if_true, if_false, and_true, true_and, and_false, false_and, la]
  exact p1
end PROVE
