section JUDGE
variable {M : Mm} {A : Int → Int}
def juF (n0 : Int) (P D : Int → Int) : Nat → Nat → Int
  | 0, _ => 0
  | d + 1, n => if (n : Int) < n0 ∧ P (3 * n) = D (3 * n) ∧ P (3 * n + 1) = D (3 * n + 1) ∧ P (3 * n + 2) = D (3 * n + 2) then juF n0 P D d (n + 1) else n + 1
theorem c_judge_L (g : GA A) {k : Nat} (k8 : k < 8) {w c : Int} {S0 P : Int → Int} (e : 0 ≤ w ∧ w ≤ 1) (c9 : c ≤ 10) : ∀ (d N : Nat) (X : Mm) (n : Nat), TS X A k (prS A w S0 n) → gI X 0 7 = c → (∀ i : Nat, (i : Int) < c → ∀ j : Int, 0 ≤ j → j < 3 → gI X (150 + i) j = P (3 * i + j)) → d < N → (n : Int) + d = c → (n : Int) ≤ A (12 + w) → ∃ X', fX11_judge_L40 0 (1 + 5 + 3 * w.toNat) (71 + 11 + 3 * k) N (i2 n) X = some (i2 (juF (A (12 + w)) P (duA A w S0) d n), X') ∧ SmP TrP X X' := by
  have gc := g_wcnt g e
  intro d
  induction d with
  | zero =>
    intro N X n t hc hr hN hn hn2
    obtain ⟨N, rfl⟩ : ∃ k, N = k + 1 := ⟨N - 1, by omega⟩
    have rd : rdI X 0 14 7 = some (i2 c) := by
      rw [g_rdI t.1.1.1, ← hc]
      rfl
    have q : c ≤ n := by omega
    refine ⟨X, ?_, SmP.rf _ _⟩
    simp -dsimp (disch := omega) only [fX11_judge_L40, ↓B1_bp, ↓B2_bp, BP_some, BQ_some, ↓reduceIte, L_0, L_1, L_2, L_3, L_4, L_5, L_6, L_7, L_8, L_9, L_10, L_11, L_12, L_13, L_54, L_14, L_99, L_20, L_30, L_31, L_60, L_19, i2_add, i2_sub, i2_mul, i2_neg, Int.reduceAdd, Int.reduceSub, Int.reduceMul, Int.reduceNeg, Int.reduceLT, Int.reduceLE, Int.reduceEq, i2_le, i2_lt, i2_eq, uA_self, uA_ne, tf_0, not_true_eq_false, not_false_eq_true, rd, q, if_true]
    rfl
  | succ d ih =>
    intro N X n t hc hr hN hn hn2
    obtain ⟨N, rfl⟩ : ∃ k, N = k + 1 := ⟨N - 1, by omega⟩
    have rd : rdI X 0 14 7 = some (i2 c) := by
      rw [g_rdI t.1.1.1, ← hc]
      rfl
    have q : ¬ c ≤ n := by omega
    obtain ⟨X1, p1, t1, s1⟩ := c_tPass t g k8 e (fr := n) (to := n + 1) (by omega) (by omega) (by omega)
    have hc1 : gI X1 0 7 = c := by rw [gI_of (s1.2 0 (by unfold TrP; omega))]; exact hc
    have hr1 : ∀ i : Nat, (i : Int) < c → ∀ j : Int, 0 ≤ j → j < 3 → gI X1 (150 + i) j = P (3 * i + j) := fun i hi j j0 j3 => by
      rw [gI_of (s1.2 (150 + i) (by unfold TrP; omega))]
      exact hr i hi j j0 j3
    have ra := t_rowA t1.1 (i := n) (by omega)
    have rb : ∀ j : Int, 0 ≤ j → j < 3 → -2147483648 ≤ P (3 * n + j) ∧ P (3 * n + j) < 2147483648 := fun j j0 j3 => by
      rw [← hr n (by omega) j j0 j3]
      exact gI_b _ _ _
    have b0 := rb 0 (by decide) (by decide)
    have b1 := rb 1 (by decide) (by decide)
    have b2 := rb 2 (by decide) (by decide)
    have al0 : alI X1 (150 + n) (i2 0) = some (i2 (P (3 * n))) := by
      rw [g_alI ra (by decide) (by decide) (by decide), hr1 n (by omega) 0 (by decide) (by decide), Int.add_zero]
    have al1 : alI X1 (150 + n) (i2 1) = some (i2 (P (3 * n + 1))) := by
      rw [g_alI ra (by decide) (by decide) (by decide), hr1 n (by omega) 1 (by decide) (by decide)]
    have al2 : alI X1 (150 + n) (i2 2) = some (i2 (P (3 * n + 2))) := by
      rw [g_alI ra (by decide) (by decide) (by decide), hr1 n (by omega) 2 (by decide) (by decide)]
    rw [Int.add_zero] at b0
    have rt0 : alN X1 149 26 (i2 n) = some (150 + n) := t_rowAt t1.1 (i := n) (by omega) (by omega)
    have r00 := t_row t1.1
    have wr1 := d_wrx (t_d1 t1.1) t1.2.1 g e
    have hl := c_hasLeg wr1 (i := n) (by omega) (by omega)
    have gw := wr1.1
    have nw := t_now t.1
    have lw := d_laws (t_d1 t.1)
    have gk1 := d_gk10 (t_d71 t.1) k8
    have b67 := cl_67 t1.2.2.2
    have c67 := t_67 t1 k8
    show ∃ X', _ = some (i2 (if (n : Int) < A (12 + w) ∧ P (3 * n) = duA A w S0 (3 * n) ∧ P (3 * n + 1) = duA A w S0 (3 * n + 1) ∧ P (3 * n + 2) = duA A w S0 (3 * n + 2) then juF (A (12 + w)) P (duA A w S0) d (n + 1) else n + 1), X') ∧ _
    by_cases b : (n : Int) < A (12 + w)
    · rw [show (min ((n : Int) + 1) (A (12 + w)) - n).toNat = 1 by omega] at t1 b67 c67
      change TS X1 A k (prS A w S0 (n + 1)) at t1
      change (-9 ≤ cl (prS A w S0 (n + 1) 6) ∧ cl (prS A w S0 (n + 1) 6) ≤ 99) ∧ (-9 ≤ cl (prS A w S0 (n + 1) 7) ∧ cl (prS A w S0 (n + 1) 7) ≤ 99) at b67
      change rdI X1 (71 + 11 + 3 * k) 10 6 = some (i2 (cl (prS A w S0 (n + 1) 6))) ∧ rdI X1 (71 + 11 + 3 * k) 10 7 = some (i2 (cl (prS A w S0 (n + 1) 7))) at c67
      rw [tf_t (show 0 ≤ (n : Int) ∧ (n : Int) ≤ A (12 + w) - 1 by omega)] at hl
      rw [du_0, du_1, du_2]
      obtain ⟨X2, j1, j2⟩ := ih N X1 (n + 1) t1 hc1 hr1 (by omega) (by omega) (by omega)
      rw [show (((n + 1 : Nat) : Int)) = (n : Int) + 1 from rfl] at j1
      obtain ⟨c6, c7⟩ := c67
      generalize cl (prS A w S0 (n + 1) 6) = v6 at c6 b67 ⊢
      generalize cl (prS A w S0 (n + 1) 7) = v7 at c7 b67 ⊢
      clear ih t t1 hr hr1 g wr1 rb
      by_cases a0 : P (3 * n) = n
      · rw [a0] at al0
        by_cases a1 : P (3 * n + 1) = v6
        · by_cases a2 : P (3 * n + 2) = v7
          · refine ⟨X2, ?_, s1.tr j2⟩
            rw [if_pos ⟨b, a0, a1, a2⟩, ← j1]
            simp -dsimp (disch := omega) only [fX11_judge_L40, ↓B1_bp, ↓B2_bp, BP_some, BQ_some, ↓reduceIte, L_0, L_1, L_2, L_3, L_4, L_5, L_6, L_7, L_8, L_9, L_10, L_11, L_12, L_13, L_54, L_14, L_99, L_20, L_30, L_31, L_60, L_19, i2_add, i2_sub, i2_mul, i2_neg, Int.reduceAdd, Int.reduceSub, Int.reduceMul, Int.reduceNeg, Int.reduceLT, Int.reduceLE, Int.reduceEq, i2_le, i2_lt, i2_eq, uA_self, uA_ne, tf_0, not_true_eq_false, not_false_eq_true, rd, q, if_false, nw, lw, gk1, p1, r00, rt0, al0, al1, al2, c6, c7, gw, hl, a1, a2, if_true]
          · refine ⟨X1, ?_, s1⟩
            rw [if_neg (fun z => a2 z.2.2.2)]
            simp -dsimp (disch := omega) only [fX11_judge_L40, ↓B1_bp, ↓B2_bp, BP_some, BQ_some, ↓reduceIte, L_0, L_1, L_2, L_3, L_4, L_5, L_6, L_7, L_8, L_9, L_10, L_11, L_12, L_13, L_54, L_14, L_99, L_20, L_30, L_31, L_60, L_19, i2_add, i2_sub, i2_mul, i2_neg, Int.reduceAdd, Int.reduceSub, Int.reduceMul, Int.reduceNeg, Int.reduceLT, Int.reduceLE, Int.reduceEq, i2_le, i2_lt, i2_eq, uA_self, uA_ne, tf_0, not_true_eq_false, not_false_eq_true, rd, q, if_false, nw, lw, gk1, p1, r00, rt0, al0, al1, al2, c6, c7, gw, hl, a1, a2, if_true]
        · refine ⟨X1, ?_, s1⟩
          rw [if_neg (fun z => a1 z.2.2.1)]
          simp -dsimp (disch := omega) only [fX11_judge_L40, ↓B1_bp, ↓B2_bp, BP_some, BQ_some, ↓reduceIte, L_0, L_1, L_2, L_3, L_4, L_5, L_6, L_7, L_8, L_9, L_10, L_11, L_12, L_13, L_54, L_14, L_99, L_20, L_30, L_31, L_60, L_19, i2_add, i2_sub, i2_mul, i2_neg, Int.reduceAdd, Int.reduceSub, Int.reduceMul, Int.reduceNeg, Int.reduceLT, Int.reduceLE, Int.reduceEq, i2_le, i2_lt, i2_eq, uA_self, uA_ne, tf_0, not_true_eq_false, not_false_eq_true, rd, q, if_false, nw, lw, gk1, p1, r00, rt0, al0, al1, c6, gw, hl, a1, if_true]
      · refine ⟨X1, ?_, s1⟩
        rw [if_neg (fun z => a0 z.2.1)]
        simp -dsimp (disch := omega) only [fX11_judge_L40, ↓B1_bp, ↓B2_bp, BP_some, BQ_some, ↓reduceIte, L_0, L_1, L_2, L_3, L_4, L_5, L_6, L_7, L_8, L_9, L_10, L_11, L_12, L_13, L_54, L_14, L_99, L_20, L_30, L_31, L_60, L_19, i2_add, i2_sub, i2_mul, i2_neg, Int.reduceAdd, Int.reduceSub, Int.reduceMul, Int.reduceNeg, Int.reduceLT, Int.reduceLE, Int.reduceEq, i2_le, i2_lt, i2_eq, uA_self, uA_ne, tf_0, not_true_eq_false, not_false_eq_true, rd, q, if_false, nw, lw, gk1, p1, r00, rt0, al0, gw, hl, a0]
    · rw [tf_f (show ¬ (0 ≤ (n : Int) ∧ (n : Int) ≤ A (12 + w) - 1) by omega)] at hl
      refine ⟨X1, ?_, s1⟩
      rw [if_neg (fun z => b z.1)]
      obtain ⟨c6, c7⟩ := c67
      generalize cl (wayS (lwA A) (wtA A w) (ntA A w) (n : Int) (min ((n : Int) + 1) (A (12 + w)) - n).toNat (prS A w S0 n) 6) = v6 at c6 b67
      generalize cl (wayS (lwA A) (wtA A w) (ntA A w) (n : Int) (min ((n : Int) + 1) (A (12 + w)) - n).toNat (prS A w S0 n) 7) = v7 at c7 b67
      clear ih t t1 hr hr1 g wr1 rb
      by_cases a0 : P (3 * n) = n
      · rw [a0] at al0
        by_cases a1 : P (3 * n + 1) = v6
        · by_cases a2 : P (3 * n + 2) = v7
          · simp -dsimp (disch := omega) only [fX11_judge_L40, ↓B1_bp, ↓B2_bp, BP_some, BQ_some, ↓reduceIte, L_0, L_1, L_2, L_3, L_4, L_5, L_6, L_7, L_8, L_9, L_10, L_11, L_12, L_13, L_54, L_14, L_99, L_20, L_30, L_31, L_60, L_19, i2_add, i2_sub, i2_mul, i2_neg, Int.reduceAdd, Int.reduceSub, Int.reduceMul, Int.reduceNeg, Int.reduceLT, Int.reduceLE, Int.reduceEq, i2_le, i2_lt, i2_eq, uA_self, uA_ne, tf_0, not_true_eq_false, not_false_eq_true, rd, q, if_false, nw, lw, gk1, p1, r00, rt0, al0, al1, al2, c6, c7, gw, hl, a1, a2, if_true]
          · simp -dsimp (disch := omega) only [fX11_judge_L40, ↓B1_bp, ↓B2_bp, BP_some, BQ_some, ↓reduceIte, L_0, L_1, L_2, L_3, L_4, L_5, L_6, L_7, L_8, L_9, L_10, L_11, L_12, L_13, L_54, L_14, L_99, L_20, L_30, L_31, L_60, L_19, i2_add, i2_sub, i2_mul, i2_neg, Int.reduceAdd, Int.reduceSub, Int.reduceMul, Int.reduceNeg, Int.reduceLT, Int.reduceLE, Int.reduceEq, i2_le, i2_lt, i2_eq, uA_self, uA_ne, tf_0, not_true_eq_false, not_false_eq_true, rd, q, if_false, nw, lw, gk1, p1, r00, rt0, al0, al1, al2, c6, c7, gw, hl, a1, a2, if_true]
        · simp -dsimp (disch := omega) only [fX11_judge_L40, ↓B1_bp, ↓B2_bp, BP_some, BQ_some, ↓reduceIte, L_0, L_1, L_2, L_3, L_4, L_5, L_6, L_7, L_8, L_9, L_10, L_11, L_12, L_13, L_54, L_14, L_99, L_20, L_30, L_31, L_60, L_19, i2_add, i2_sub, i2_mul, i2_neg, Int.reduceAdd, Int.reduceSub, Int.reduceMul, Int.reduceNeg, Int.reduceLT, Int.reduceLE, Int.reduceEq, i2_le, i2_lt, i2_eq, uA_self, uA_ne, tf_0, not_true_eq_false, not_false_eq_true, rd, q, if_false, nw, lw, gk1, p1, r00, rt0, al0, al1, c6, gw, hl, a1, if_true]
      · simp -dsimp (disch := omega) only [fX11_judge_L40, ↓B1_bp, ↓B2_bp, BP_some, BQ_some, ↓reduceIte, L_0, L_1, L_2, L_3, L_4, L_5, L_6, L_7, L_8, L_9, L_10, L_11, L_12, L_13, L_54, L_14, L_99, L_20, L_30, L_31, L_60, L_19, i2_add, i2_sub, i2_mul, i2_neg, Int.reduceAdd, Int.reduceSub, Int.reduceMul, Int.reduceNeg, Int.reduceLT, Int.reduceLE, Int.reduceEq, i2_le, i2_lt, i2_eq, uA_self, uA_ne, tf_0, not_true_eq_false, not_false_eq_true, rd, q, if_false, nw, lw, gk1, p1, r00, rt0, al0, gw, hl, a0]
theorem m_j71 {W : Mm} {kk : Int32 → Mm → Option (Int32 × Mm)} {v2 : Int32} {P D : Int → Int} {n b : Int} (h : LayM W) (n0 : 0 ≤ n) (n9 : n < 10) (hb : b = 0 ∨ b = 1) (pb : ∀ y, -2147483648 ≤ P y ∧ P y < 2147483648) (db : ∀ y, -2147483648 ≤ D y ∧ D y < 2147483648) (hp : ∀ j : Int, 0 ≤ j → j < 3 → alI W 170 (i2 (3 * n + j)) = some (i2 (P (3 * n + j)))) (hd : ∀ j : Int, 0 ≤ j → j < 3 → alI W 171 (i2 (3 * n + j)) = some (i2 (D (3 * n + j)))) : fX12_judge_L71 kk 164 v2 (i2 n) FL (i2 b) (i2 (3 * n)) W = kk (i2 (tf (b = 1 ∧ P (3 * n) = D (3 * n) ∧ P (3 * n + 1) = D (3 * n + 1) ∧ P (3 * n + 2) = D (3 * n + 2)))) W := by
  obtain ⟨N, hN⟩ := FL5
  rw [hN]
  have r10 := m_r10 h
  have r12 := m_r12 h
  have b0 := pb (3 * n)
  have b1 := pb (3 * n + 1)
  have b2 := pb (3 * n + 2)
  have d0 := db (3 * n)
  have d1 := db (3 * n + 1)
  have d2 := db (3 * n + 2)
  have p0 : alI W 170 (i2 (3 * n)) = some (i2 (P (3 * n))) := by
    have z := hp 0 (by decide) (by decide)
    rwa [Int.add_zero] at z
  have e0 : alI W 171 (i2 (3 * n)) = some (i2 (D (3 * n))) := by
    have z := hd 0 (by decide) (by decide)
    rwa [Int.add_zero] at z
  have p1 := hp 1 (by decide) (by decide)
  have p2 := hp 2 (by decide) (by decide)
  have e1 := hd 1 (by decide) (by decide)
  have e2 := hd 2 (by decide) (by decide)
  have s0 : ∀ (K : Nat) (v : Int), 3 * n + 3 ≤ v → v < 100 → ∀ u, fX12_judge_L71 kk 164 v2 (i2 n) (K + 1) u (i2 v) W = kk u W := fun K v hv h9 u => by
    show (if ((3 : Int32) * i2 n + 3) ≤ i2 v then _ else _) = _
    rw [if_pos]
    rw [L_3, i2_mul, i2_add, i2_le (by omega) (by omega) (by omega) (by omega)]
    exact hv
  have sz : ∀ (K : Nat) (v : Int), 3 * n ≤ v → v < 3 * n + 3 → fX12_judge_L71 kk 164 v2 (i2 n) (K + 1) (i2 0) (i2 v) W = fX12_judge_L71 kk 164 v2 (i2 n) K (i2 0) (i2 (v + 1)) W := fun K v hv h9 => by
    show (if ((3 : Int32) * i2 n + 3) ≤ i2 v then _ else _) = _
    rw [if_neg, if_pos L_0.symm, L_0, L_1, i2_add]
    rw [L_3, i2_mul, i2_add, i2_le (by omega) (by omega) (by omega) (by omega)]
    omega
  have so : ∀ (K : Nat) (v : Int), 3 * n ≤ v → v < 3 * n + 3 → alI W 170 (i2 v) = some (i2 (P v)) → alI W 171 (i2 v) = some (i2 (D v)) → fX12_judge_L71 kk 164 v2 (i2 n) (K + 1) (i2 1) (i2 v) W = fX12_judge_L71 kk 164 v2 (i2 n) K (i2 (tf (P v = D v))) (i2 (v + 1)) W := fun K v hv h9 h1 h2 => by
    have q := i2_eq (pb v).1 (pb v).2 (db v).1 (db v).2
    show (if ((3 : Int32) * i2 n + 3) ≤ i2 v then _ else _) = _
    rw [if_neg, if_neg (by decide +kernel), r10, B1_some, h1, B1_some, r12, B1_some, h2, B1_some]
    · by_cases z : P v = D v
      · rw [if_pos (q.mpr z), tf_t z, L_1, i2_add]
      · rw [if_neg (fun w => z (q.mp w)), tf_f z, L_0, L_1, i2_add]
    · rw [L_3, i2_mul, i2_add, i2_le (by omega) (by omega) (by omega) (by omega)]
      omega
  rcases hb with rfl | rfl
  · rw [sz _ _ (by omega) (by omega), sz _ _ (by omega) (by omega), sz _ _ (by omega) (by omega), s0 _ _ (by omega) (by omega), tf_f (p := (0 : Int) = 1 ∧ P (3 * n) = D (3 * n) ∧ P (3 * n + 1) = D (3 * n + 1) ∧ P (3 * n + 2) = D (3 * n + 2)) (fun z => absurd z.1 (by decide))]
  · rw [so _ _ (by omega) (by omega) p0 e0]
    by_cases a0 : P (3 * n) = D (3 * n)
    · rw [tf_t a0, so _ _ (by omega) (by omega) p1 e1]
      by_cases a1 : P (3 * n + 1) = D (3 * n + 1)
      · rw [tf_t a1, show 3 * n + 1 + 1 = 3 * n + 2 by omega, so _ _ (by omega) (by omega) p2 e2, s0 _ _ (by omega) (by omega)]
        by_cases a2 : P (3 * n + 2) = D (3 * n + 2)
        · rw [tf_t a2, tf_t ⟨rfl, a0, a1, a2⟩]
        · rw [tf_f a2, tf_f (fun z => a2 z.2.2.2)]
      · rw [tf_f a1, sz _ _ (by omega) (by omega), s0 _ _ (by omega) (by omega), tf_f (fun z => a1 z.2.2.1)]
    · rw [tf_f a0, sz _ _ (by omega) (by omega), sz _ _ (by omega) (by omega), s0 _ _ (by omega) (by omega), tf_f (fun z => a0 z.2.1)]
theorem m_judge_L {W : Mm} {P D : Int → Int} {w c n0 : Int} (h : LayM W) (hc : gI W 164 11 = c) (c9 : c ≤ 10) (r7 : alI W 165 (i2 (12 + w)) = some (i2 n0)) (w0 : 0 ≤ w) (w1 : w ≤ 1) (n00 : 0 ≤ n0) (n09 : n0 ≤ 10) (pb : ∀ y, -2147483648 ≤ P y ∧ P y < 2147483648) (db : ∀ y, -2147483648 ≤ D y ∧ D y < 2147483648) (hp : ∀ i : Int, 0 ≤ i → i < 30 → alI W 170 (i2 i) = some (i2 (P i))) (hd : ∀ i : Int, 0 ≤ i → i < 30 → alI W 171 (i2 i) = some (i2 (D i))) : ∀ (d N : Nat) (n : Nat), d < N → (n : Int) + d = c → fX12_judge_L38 164 (i2 w) N (i2 n) W = some (i2 (juF n0 P D d n), W) := by
  have rd : rdI W 164 15 11 = some (i2 c) := by
    rw [g_rdI h.1.1, ← hc]
    rfl
  intro d
  induction d with
  | zero =>
    intro N n hN hn
    obtain ⟨N, rfl⟩ : ∃ k, N = k + 1 := ⟨N - 1, by omega⟩
    have q : c ≤ n := by omega
    simp -dsimp (disch := omega) only [fX12_judge_L38, ↓B1_bp, ↓B2_bp, BP_some, BQ_some, ↓reduceIte, L_0, L_1, L_2, L_3, L_4, L_5, L_6, L_7, L_8, L_9, L_10, L_11, L_12, L_13, L_54, L_14, L_99, L_20, L_30, L_31, L_60, L_19, i2_add, i2_sub, i2_mul, i2_neg, Int.reduceAdd, Int.reduceSub, Int.reduceMul, Int.reduceNeg, Int.reduceLT, Int.reduceLE, Int.reduceEq, i2_le, i2_lt, i2_eq, uA_self, uA_ne, tf_0, not_true_eq_false, not_false_eq_true, rd, q, if_true]
    rfl
  | succ d ih =>
    intro N n hN hn
    obtain ⟨N, rfl⟩ : ∃ k, N = k + 1 := ⟨N - 1, by omega⟩
    have q : ¬ c ≤ n := by omega
    have j := ih N (n + 1) (by omega) (by omega)
    rw [show (((n + 1 : Nat) : Int)) = (n : Int) + 1 from rfl] at j
    have j71 := fun (kk : Int32 → Mm → Option (Int32 × Mm)) (b : Int) (hb : b = 0 ∨ b = 1) => m_j71 (kk := kk) (v2 := i2 w) (b := b) (n := n) h (by omega) (by omega) hb pb db (fun j j0 j3 => hp _ (by omega) (by omega)) (fun j j0 j3 => hd _ (by omega) (by omega))
    have rm := rdm0 h
    show _ = some (i2 (if (n : Int) < n0 ∧ P (3 * n) = D (3 * n) ∧ P (3 * n + 1) = D (3 * n + 1) ∧ P (3 * n + 2) = D (3 * n + 2) then juF n0 P D d (n + 1) else n + 1), W)
    have u : fX12_judge_L38 164 (i2 w) (N + 1) (i2 n) W = B1 (rdI W 164 15 11) fun x => if x ≤ i2 n then some (0, W) else B1 (rdN W 164 15 0) fun a => B1 (alI W a (12 + i2 w)) fun y => if y ≤ i2 n then fX12_judge_L71 (fun v M => if v = 0 then some (i2 n + 1, M) else fX12_judge_L38 164 (i2 w) N (i2 n + 1) M) 164 (i2 w) (i2 n) FL 0 (3 * i2 n) W else fX12_judge_L71 (fun v M => if v = 0 then some (i2 n + 1, M) else fX12_judge_L38 164 (i2 w) N (i2 n + 1) M) 164 (i2 w) (i2 n) FL 1 (3 * i2 n) W := rfl
    have c1 : ¬ i2 c ≤ i2 n := by rw [i2_le (by omega) (by omega) (by omega) (by omega)]; exact q
    rw [u, rd, B1_some, if_neg c1, rm, B1_some, L_12, i2_add, r7, B1_some]
    have c2 := i2_le (a := n0) (b := n) (by omega) (by omega) (by omega) (by omega)
    by_cases b : (n : Int) < n0
    · rw [if_neg (by rw [c2]; omega), L_3, i2_mul, show (1 : Int32) = i2 1 from L_1, j71 _ 1 (Or.inr rfl)]
      by_cases a : P (3 * n) = D (3 * n) ∧ P (3 * n + 1) = D (3 * n + 1) ∧ P (3 * n + 2) = D (3 * n + 2)
      · have t1 : tf ((1 : Int) = 1 ∧ P (3 * n) = D (3 * n) ∧ P (3 * n + 1) = D (3 * n + 1) ∧ P (3 * n + 2) = D (3 * n + 2)) = 1 := tf_t ⟨rfl, a⟩
        rw [t1, if_neg (show ¬ i2 1 = 0 by decide +kernel), if_pos ⟨b, a⟩, i2_add, j]
      · have t1 : tf ((1 : Int) = 1 ∧ P (3 * n) = D (3 * n) ∧ P (3 * n + 1) = D (3 * n + 1) ∧ P (3 * n + 2) = D (3 * n + 2)) = 0 := tf_f fun z => a z.2
        rw [t1, if_pos (show i2 0 = 0 by decide +kernel), if_neg (show ¬ ((n : Int) < n0 ∧ P (3 * n) = D (3 * n) ∧ P (3 * n + 1) = D (3 * n + 1) ∧ P (3 * n + 2) = D (3 * n + 2)) from fun z => a z.2), i2_add]
    · have t1 : tf ((0 : Int) = 1 ∧ P (3 * n) = D (3 * n) ∧ P (3 * n + 1) = D (3 * n + 1) ∧ P (3 * n + 2) = D (3 * n + 2)) = 0 := tf_f fun z => absurd z.1 (by decide)
      rw [if_pos (by rw [c2]; omega), L_3, i2_mul, show (0 : Int32) = i2 0 from L_0, j71 _ 0 (Or.inl rfl), t1, if_pos (show i2 0 = i2 0 from rfl), if_neg (show ¬ ((n : Int) < n0 ∧ P (3 * n) = D (3 * n) ∧ P (3 * n + 1) = D (3 * n + 1) ∧ P (3 * n + 2) = D (3 * n + 2)) from fun z => b z.1), L_1, i2_add]
theorem juF_cg {n0 : Int} {P D P' D' : Int → Int} {c : Int} (h : ∀ y, 0 ≤ y → y < 3 * c → P' y = P y) (h2 : ∀ y, 0 ≤ y → y < 3 * n0 → D' y = D y) : ∀ (d n : Nat), (n : Int) + d ≤ c → juF n0 P' D' d n = juF n0 P D d n
  | 0, _, _ => rfl
  | d + 1, n, hn => by
    show (if (n : Int) < n0 ∧ P' (3 * n) = D' (3 * n) ∧ P' (3 * n + 1) = D' (3 * n + 1) ∧ P' (3 * n + 2) = D' (3 * n + 2) then juF n0 P' D' d (n + 1) else n + 1) = (if (n : Int) < n0 ∧ P (3 * n) = D (3 * n) ∧ P (3 * n + 1) = D (3 * n + 1) ∧ P (3 * n + 2) = D (3 * n + 2) then juF n0 P D d (n + 1) else n + 1)
    rw [h _ (by omega) (by omega), h (3 * n + 1) (by omega) (by omega), h (3 * n + 2) (by omega) (by omega), juF_cg h h2 d (n + 1) (by omega)]
    by_cases b : (n : Int) < n0
    · rw [h2 _ (by omega) (by omega), h2 (3 * n + 1) (by omega) (by omega), h2 (3 * n + 2) (by omega) (by omega)]
    · rw [if_neg (fun z => b z.1), if_neg (fun z => b z.1)]
theorem op_judge (h : LayC M) (hm : LayM M) (c : CR M 1 A) (g : GA A) (ha : M.g 165 = rI A) {x y : Int} (x0 : -2147483648 ≤ x) (x1 : x < 2147483648) (y0 : -2147483648 ≤ y) (y1 : y < 2147483648) (hi : Inv M) : Op M (fun M => fX11_judge M 0 (i2 x) (i2 y)) (fun M => fX12_judge M 164 (i2 x) (i2 y)) := by
  have g0 := g.1
  have q1 := c_wayAt (t_d1 h) y0 y1
  have q2 := c_isFoot M x0 x1
  have a1 := m_isTwo (M.row 165 A) x0 x1
  have a2 := m_isTwo (M.row 165 A) y0 y1
  by_cases e1 : 0 ≤ x ∧ x ≤ 1
  · rw [tf_t e1] at q2 a1
    have bf := b_feet g e1.1 e1.2
    by_cases e2 : 0 ≤ y ∧ y ≤ 1
    · rw [if_pos e2] at q1
      rw [tf_t e2] at a2
      have gc := g_wcnt g e2
      obtain ⟨X, k1, k2, k3⟩ := c_beginTrial h c g e1.1 e1.2
      have cX := TrP.cr k3 g c
      have hX := h.sm k3
      by_cases e4 : 0 ≤ A (2 + x)
      · have e5 : 0 ≤ A (2 + x) ∧ A (2 + x) < A 0 := ⟨e4, bf.2⟩
        have hk : (((A (2 + x)).toNat : Nat) : Int) = A (2 + x) := by omega
        rw [show stAt A 71 (A (2 + x)) = some (71 + 11 + 3 * (A (2 + x)).toNat) from if_pos e5] at k1
        have t0 := ts_begin (k := (A (2 + x)).toNat) hX cX g k2 (by omega)
        rw [hk] at t0
        obtain ⟨r1, r2, r3⟩ := hi.2.2.2.1
        have u0 : gI X 0 7 = gI M 0 7 := by rw [gI_of (k3.2 0 (by unfold TrP; omega))]
        have ur : ∀ i : Nat, (i : Int) < gI M 0 7 → ∀ j : Int, 0 ≤ j → j < 3 → gI X (150 + i) j = gI M 170 (3 * i + j) := fun i hi' j j0 j3 => by
          rw [gI_of (k3.2 (150 + i) (by unfold TrP; omega))]
          exact r3 i hi' j j0 j3
        obtain ⟨X1, p1, p2⟩ := c_judge_L g (k := (A (2 + x)).toNat) (S0 := stA A (A (2 + x))) (P := gI M 170) (by omega) e2 r2.2 (gI M 0 7).toNat FL X 0 t0 u0 ur (by show _ < 4096; omega) (by omega) (by omega)
        rw [show ((0 : Nat) : Int) = 0 from rfl] at p1
        have sP := k3.tr p2
        have hm1 := hm.sm sP
        have eX : X1 = X1.row 165 A := row_of ((tr165 sP).trans ha)
        obtain ⟨Z, R, D, d1, d2, d3⟩ := m_findDue (A := A) hm1 g e1 e2 e4
        have sV : SmP Scr X1 (((X1.row 171 D).row 167 Z).row 165 R) := ((SmP.row X1 D (by unfold Scr; omega)).tr (SmP.row _ Z (by unfold Scr; omega))).tr (SmP.row _ R (by unfold Scr; omega))
        have hV := hm1.sm sV
        have sD : SmP DuP X1 (((X1.row 171 D).row 167 Z).row 165 R) := ((SmP.row X1 D (by unfold DuP; omega)).tr (SmP.row _ Z (by unfold DuP; omega))).tr (SmP.row _ R (by unfold DuP; omega))
        have r7 : alI (((X1.row 171 D).row 167 Z).row 165 R) 165 (i2 (12 + y)) = some (i2 (A (12 + y))) := by
          rw [m_al (show LayM ((X1.row 171 D).row 167 Z) from hm1) (by omega) (by omega), d2 _ (by omega) (by omega)]
        have z11 : gI (((X1.row 171 D).row 167 Z).row 165 R) 164 11 = gI M 0 7 := by
          rw [gI_of (sD.2 164 (by unfold DuP; omega)), gI_of (sP.2 164 (by unfold TrP; omega))]
          exact r1.symm
        have z170 : gI (((X1.row 171 D).row 167 Z).row 165 R) 170 = gI M 170 := by
          rw [gI_of (sD.2 170 (by unfold DuP; omega)), gI_of (sP.2 170 (by unfold TrP; omega))]
        have z171 : gI (((X1.row 171 D).row 167 Z).row 165 R) 171 = gI (X1.row 171 D) 171 := by
          rw [gI_ne _ (by decide), gI_ne _ (by decide)]
        have w165 : (((X1.row 171 D).row 167 Z).row 165 R).g 165 = rI R := row_g _ _ _
        generalize ((X1.row 171 D).row 167 Z).row 165 R = W at d1 sV hV sD r7 z11 z170 z171 w165
        have jl := m_judge_L (P := gI W 170) (D := gI W 171) hV z11 r2.2 r7 e2.1 e2.2 gc.1 gc.2 (fun y => gI_b _ _ _) (fun y => gI_b _ _ _) (fun i i0 i9 => g_alI (ar_ro hV) i0 i9 (by omega)) (fun i i0 i9 => g_alI (ar_du hV) i0 i9 (by omega)) (gI M 0 7).toNat FL 0 (by show _ < 4096; omega) (by omega)
        rw [z170, juF_cg (c := gI M 0 7) (P' := gI M 170) (P := gI M 170) (D' := gI W 171) (D := duA A y (stA A (A (2 + x)))) (fun _ _ _ => rfl) (fun v v0 v1 => by
          have gp := pr_gs (w := y) g (g.2.2.2.2.2.2.2 _ e4 bf.2) ((v / 3).toNat + 1)
          have b67 := cl_67 gp
          rw [z171, gI_row _ _ _ v0, nrI, d3 v v0 v1]
          have hb : -2147483648 ≤ duA A y (stA A (A (2 + x))) v ∧ duA A y (stA A (A (2 + x))) v < 2147483648 := by
            unfold duA
            repeat' split
            all_goals omega
          exact i2_toInt hb.1 hb.2) _ _ (by omega)] at jl
        rw [show ((0 : Nat) : Int) = 0 from rfl] at jl
        have gR := g.e d2
        have cW : CR W 1 R := ((TrP.cr sP g c).sm sD (fun p a b z => by unfold DuP at z; omega) g.1.2).e d2 g
        refine Op.scr (A' := R) (r := i2 (juF (A (12 + y)) (gI M 170) (duA A y (stA A (A (2 + x)))) (gI M 0 7).toNat 0)) (M1 := X1) (M2 := W) hi ?_ (TrP.scr sP) ?_ sV w165 gR cW
        · unfold fX11_judge
          simp -dsimp (disch := omega) only [↓B1_bp, ↓B2_bp, BP_some, BQ_some, ↓reduceIte, L_0, L_1, L_2, L_3, L_4, L_5, L_6, L_7, L_8, L_9, L_10, L_11, L_12, L_13, L_54, L_14, L_99, L_20, L_30, L_31, L_60, L_19, i2_add, i2_sub, i2_mul, i2_neg, Int.reduceAdd, Int.reduceSub, Int.reduceMul, Int.reduceNeg, Int.reduceLT, Int.reduceLE, Int.reduceEq, i2_le, i2_lt, i2_eq, uA_self, uA_ne, tf_0, not_true_eq_false, not_false_eq_true, L_15, L_40, L_100, L_101, L_200, L_999, ↓NL_bp, BNP_none, BNP_some, and_self, if_true, if_false, and_true, true_and, and_false, false_and, t_now h, d_gk (t_d1 h), q1, q2, t_gk h, k1, p1]
        · have a1 := m_isTwo (X1.row 165 A) x0 x1
          have a2 := m_isTwo (X1.row 165 A) y0 y1
          rw [tf_t e1] at a1
          rw [tf_t e2] at a2
          rw [eX]
          have hX := hm1
          unfold fX12_judge
          simp -dsimp (disch := omega) only [↓B1_bp, ↓B2_bp, BP_some, BQ_some, ↓reduceIte, gk_row, rdN_row, alN_row, alN__row, gk_m hX, rdm0 hX, rdm1 hX, rdm2 hX, rdm3 hX, L_0, L_1, L_2, L_3, L_4, L_5, L_6, L_7, L_8, L_9, L_10, L_11, L_12, L_13, L_54, L_14, L_99, L_20, L_30, L_31, L_60, L_19, i2_add, i2_sub, i2_mul, i2_neg, Int.reduceAdd, Int.reduceSub, Int.reduceMul, Int.reduceNeg, Int.reduceLT, Int.reduceLE, Int.reduceEq, i2_le, i2_lt, i2_eq, J_0, J_1, J_2, J_3, J_5, J_7, J_8, J_9, J_10, J_13, J_15, J_30, J_60, J_99, J_100, J_999, J_n1, i2_j2, m_in, tf_0, not_true_eq_false, not_false_eq_true, m_al hX, L_15, L_40, L_100, L_101, L_190, L_200, L_999, uA_self, and_self, if_true, if_false, and_true, true_and, and_false, false_and, a1, a2, e4, d1, jl]
      · rw [show stAt A 71 (A (2 + x)) = none from if_neg (fun q => e4 q.1)] at k1
        refine op_T0 (X := X) (r := i2 (-3)) hi hm ha g ?_ (TrP.scr k3) (tr165 k3) cX fun Y hY => ?_
        · unfold fX11_judge
          simp -dsimp (disch := omega) only [↓B1_bp, ↓B2_bp, BP_some, BQ_some, ↓reduceIte, L_0, L_1, L_2, L_3, L_4, L_5, L_6, L_7, L_8, L_9, L_10, L_11, L_12, L_13, L_54, L_14, L_99, L_20, L_30, L_31, L_60, L_19, i2_add, i2_sub, i2_mul, i2_neg, Int.reduceAdd, Int.reduceSub, Int.reduceMul, Int.reduceNeg, Int.reduceLT, Int.reduceLE, Int.reduceEq, i2_le, i2_lt, i2_eq, uA_self, uA_ne, tf_0, not_true_eq_false, not_false_eq_true, L_15, L_40, L_100, L_101, L_200, L_999, ↓NL_bp, BNP_none, BNP_some, and_self, if_true, if_false, and_true, true_and, and_false, false_and, t_now h, d_gk (t_d1 h), q1, q2, t_gk h, k1]
        · have a1 := m_isTwo (Y.row 165 A) x0 x1
          have a2 := m_isTwo (Y.row 165 A) y0 y1
          rw [tf_t e1] at a1
          rw [tf_t e2] at a2
          have hX := hY
          unfold fX12_judge
          simp -dsimp (disch := omega) only [↓B1_bp, ↓B2_bp, BP_some, BQ_some, ↓reduceIte, gk_row, rdN_row, alN_row, alN__row, gk_m hX, rdm0 hX, rdm1 hX, rdm2 hX, rdm3 hX, L_0, L_1, L_2, L_3, L_4, L_5, L_6, L_7, L_8, L_9, L_10, L_11, L_12, L_13, L_54, L_14, L_99, L_20, L_30, L_31, L_60, L_19, i2_add, i2_sub, i2_mul, i2_neg, Int.reduceAdd, Int.reduceSub, Int.reduceMul, Int.reduceNeg, Int.reduceLT, Int.reduceLE, Int.reduceEq, i2_le, i2_lt, i2_eq, J_0, J_1, J_2, J_3, J_5, J_7, J_8, J_9, J_10, J_13, J_15, J_30, J_60, J_99, J_100, J_999, J_n1, i2_j2, m_in, tf_0, not_true_eq_false, not_false_eq_true, m_al hX, L_15, L_40, L_100, L_101, L_190, L_200, L_999, uA_self, and_self, if_true, if_false, and_true, true_and, and_false, false_and, a1, a2, e4]
    · rw [if_neg e2] at q1
      rw [tf_f e2] at a2
      refine OpR.op hi (opR_keep (r := i2 (-1)) c g ha ?_ ?_)
      · unfold fX11_judge
        simp -dsimp (disch := omega) only [↓B1_bp, ↓B2_bp, BP_some, BQ_some, ↓reduceIte, L_0, L_1, L_2, L_3, L_4, L_5, L_6, L_7, L_8, L_9, L_10, L_11, L_12, L_13, L_54, L_14, L_99, L_20, L_30, L_31, L_60, L_19, i2_add, i2_sub, i2_mul, i2_neg, Int.reduceAdd, Int.reduceSub, Int.reduceMul, Int.reduceNeg, Int.reduceLT, Int.reduceLE, Int.reduceEq, i2_le, i2_lt, i2_eq, uA_self, uA_ne, tf_0, not_true_eq_false, not_false_eq_true, L_15, L_40, L_100, L_101, L_200, L_999, ↓NL_bp, BNP_none, BNP_some, and_self, if_true, if_false, and_true, true_and, and_false, false_and, t_now h, d_gk (t_d1 h), q1, q2]
      · unfold fX12_judge
        simp -dsimp (disch := omega) only [↓B1_bp, ↓B2_bp, BP_some, BQ_some, ↓reduceIte, gk_row, rdN_row, alN_row, alN__row, gk_m hm, rdm0 hm, rdm1 hm, rdm2 hm, rdm3 hm, L_0, L_1, L_2, L_3, L_4, L_5, L_6, L_7, L_8, L_9, L_10, L_11, L_12, L_13, L_54, L_14, L_99, L_20, L_30, L_31, L_60, L_19, i2_add, i2_sub, i2_mul, i2_neg, Int.reduceAdd, Int.reduceSub, Int.reduceMul, Int.reduceNeg, Int.reduceLT, Int.reduceLE, Int.reduceEq, i2_le, i2_lt, i2_eq, J_0, J_1, J_2, J_3, J_5, J_7, J_8, J_9, J_10, J_13, J_15, J_30, J_60, J_99, J_100, J_999, J_n1, i2_j2, m_in, tf_0, not_true_eq_false, not_false_eq_true, m_al hm, L_15, L_40, L_100, L_101, L_190, L_200, L_999, uA_self, and_self, if_true, if_false, and_true, true_and, and_false, false_and, a1, a2]
  · rw [tf_f e1] at q2 a1
    refine OpR.op hi (opR_keep (r := i2 (-1)) c g ha ?_ ?_)
    · unfold fX11_judge
      simp -dsimp (disch := omega) only [↓B1_bp, ↓B2_bp, BP_some, BQ_some, ↓reduceIte, L_0, L_1, L_2, L_3, L_4, L_5, L_6, L_7, L_8, L_9, L_10, L_11, L_12, L_13, L_54, L_14, L_99, L_20, L_30, L_31, L_60, L_19, i2_add, i2_sub, i2_mul, i2_neg, Int.reduceAdd, Int.reduceSub, Int.reduceMul, Int.reduceNeg, Int.reduceLT, Int.reduceLE, Int.reduceEq, i2_le, i2_lt, i2_eq, uA_self, uA_ne, tf_0, not_true_eq_false, not_false_eq_true, L_15, L_40, L_100, L_101, L_200, L_999, ↓NL_bp, BNP_none, BNP_some, and_self, if_true, if_false, and_true, true_and, and_false, false_and, t_now h, d_gk (t_d1 h), q1, q2]
    · unfold fX12_judge
      simp -dsimp (disch := omega) only [↓B1_bp, ↓B2_bp, BP_some, BQ_some, ↓reduceIte, gk_row, rdN_row, alN_row, alN__row, gk_m hm, rdm0 hm, rdm1 hm, rdm2 hm, rdm3 hm, L_0, L_1, L_2, L_3, L_4, L_5, L_6, L_7, L_8, L_9, L_10, L_11, L_12, L_13, L_54, L_14, L_99, L_20, L_30, L_31, L_60, L_19, i2_add, i2_sub, i2_mul, i2_neg, Int.reduceAdd, Int.reduceSub, Int.reduceMul, Int.reduceNeg, Int.reduceLT, Int.reduceLE, Int.reduceEq, i2_le, i2_lt, i2_eq, J_0, J_1, J_2, J_3, J_5, J_7, J_8, J_9, J_10, J_13, J_15, J_30, J_60, J_99, J_100, J_999, J_n1, i2_j2, m_in, tf_0, not_true_eq_false, not_false_eq_true, m_al hm, L_15, L_40, L_100, L_101, L_190, L_200, L_999, uA_self, and_self, if_true, if_false, and_true, true_and, and_false, false_and, a1]
end JUDGE
