section COSTS
variable {M : Mm} {A : Int → Int}
theorem j2_mul (a b : Int) : j2 a * j2 b = j2 (a * b) := (Int64.ofInt_mul ..).symm
theorem j2_sub (a b : Int) : j2 a - j2 b = j2 (a - b) := (Int64.ofInt_sub ..).symm
theorem j2_div {a b : Int} (h1 : -9223372036854775807 ≤ a) (h2 : a < 9223372036854775808) (h3 : -9223372036854775808 ≤ b) (h4 : b < 9223372036854775808) : j2 a / j2 b = j2 (a.tdiv b) := by
  apply Int64.toInt_inj.mp
  rw [Int64.toInt_div, j2_toInt (by omega) h2, j2_toInt h3 h4]
  show Int.bmod _ _ = (Int64.ofInt _).toInt
  rw [Int64.toInt_ofInt]
theorem nmod (a b : Nat) : (a : Int) - ((a : Int).tdiv b) * b = ((a % b : Nat) : Int) := by
  have h := Nat.div_add_mod a b
  have h2 : ((b * (a / b) : Nat) : Int) = (b : Int) * ((a / b : Nat) : Int) := Int.natCast_mul ..
  rw [show (a : Int).tdiv b = ((a / b : Nat) : Int) from (Int.ofNat_tdiv a b).symm, Int.mul_comm, ← h2]
  omega
theorem c_gcd_L : ∀ (b a i N : Nat), b ≤ 30 → a < 100000 → i + b ≤ 99 → b < N → fX11_greatestDivisor_L7 M N (i2 a) (i2 b) (i2 i) = some (i2 (max 1 (Nat.gcd a b))) := by
  intro b
  induction b using Nat.strongRecOn with
  | _ b ih =>
    intro a i N hb ha hi hN
    obtain ⟨N, rfl⟩ : ∃ k, N = k + 1 := ⟨N - 1, by omega⟩
    have q : ¬ (100 : Int32) ≤ i2 i := by
      rw [L_100, i2_le (by decide) (by decide) (by omega) (by omega)]
      omega
    show (if (100 : Int32) ≤ i2 i then _ else _) = _
    rw [if_neg q]
    by_cases z : b = 0
    · subst z
      rw [if_pos (by decide +kernel), Nat.gcd_zero_right, L_1, i2_max (by decide) (by decide) (by omega) (by omega)]
    · have nz : ¬ i2 b = 0 := by
        rw [L_0, i2_eq (by omega) (by omega) (by decide) (by decide)]
        omega
      rw [if_neg nz, nzI, if_neg nz, B1_some, i2_div (by omega) (by omega) (by omega) (by omega), i2_mul, i2_sub, nmod, L_1, i2_add]
      have lt := Nat.mod_lt a (show 0 < b by omega)
      have k := ih (a % b) lt b (i + 1) N (by omega) (by omega) (by omega) (by omega)
      rw [show Nat.gcd a b = Nat.gcd b (a % b) by rw [Nat.gcd_comm a b, Nat.gcd_rec b a, Nat.gcd_comm]]
      exact k
theorem c_gcd {a b : Nat} (ha : a ≤ 9900) (b0 : 1 ≤ b) (hb : b ≤ 30) : fX11_greatestDivisor M (i2 a) (i2 b) = some (i2 (Nat.gcd a b)) := by
  have gp : 1 ≤ Nat.gcd a b := Nat.gcd_pos_of_pos_right a (by omega)
  show fX11_greatestDivisor_L7 M (4095 + 1) (i2 b) (i2 a) 0 = _
  show (if (100 : Int32) ≤ 0 then _ else _) = _
  rw [if_neg (by decide +kernel)]
  by_cases z : a = 0
  · subst z
    rw [if_pos (by decide +kernel), Nat.gcd_zero_left, L_1, i2_max (by decide) (by decide) (by omega) (by omega)]
    congr 2
    omega
  · have nz : ¬ i2 a = 0 := by
      rw [L_0, i2_eq (by omega) (by omega) (by decide) (by decide)]
      omega
    rw [if_neg nz, nzI, if_neg nz, B1_some, i2_div (by omega) (by omega) (by omega) (by omega), i2_mul, i2_sub, nmod]
    have lt := Nat.mod_le b a
    have k := c_gcd_L (M := M) (b % a) a 1 4095 (by omega) (by omega) (by omega) (by omega)
    rw [show Nat.gcd a (b % a) = Nat.gcd a b by rw [Nat.gcd_rec a b, Nat.gcd_comm]] at k
    rw [show (max 1 ((Nat.gcd a b : Nat) : Int)) = (Nat.gcd a b : Int) by omega] at k
    exact k
theorem m_gcd_L {v0 v2 : Int64} {v4 : Int32} : ∀ (y x N : Nat), y ≤ 30 → x < 100000 → y < N → 1 ≤ Nat.gcd x y → fX12_part_L6 M v0 v2 v4 N (j2 x) (j2 y) = some (if v4 = 0 then v0 / j2 (Nat.gcd x y) else v2 / j2 (Nat.gcd x y)) := by
  intro y
  induction y using Nat.strongRecOn with
  | _ y ih =>
    intro x N hy hx hN gp
    obtain ⟨N, rfl⟩ : ∃ k, N = k + 1 := ⟨N - 1, by omega⟩
    have cm : (lg_cmp (j2 y) 0 = 0) = (y = 0) := by
      rw [J_0]
      unfold lg_cmp
      simp only [GT.gt, j2_lt (a := 0) (b := y) (by decide) (by decide) (by omega) (by omega), j2_eq (a := y) (b := 0) (by omega) (by omega) (by decide) (by decide)]
      by_cases z : y = 0
      · subst z
        simp
      · rw [if_pos (by omega)]
        simp [z]
    show (if lg_cmp (j2 y) 0 = 0 then _ else _) = _
    by_cases z : y = 0
    · subst z
      rw [if_pos (cm.mpr rfl)]
      rw [Nat.gcd_zero_right] at gp ⊢
      have nz : ¬ j2 x = 0 := by
        rw [J_0, j2_eq (by omega) (by omega) (by decide) (by decide)]
        omega
      rw [nzL, if_neg nz, B1_some, B1_some]
      split <;> rfl
    · have nz : ¬ j2 y = 0 := by
        rw [J_0, j2_eq (by omega) (by omega) (by decide) (by decide)]
        omega
      rw [if_neg (fun w => z (cm.mp w)), nzL, if_neg nz, B1_some, j2_div (by omega) (by omega) (by omega) (by omega), j2_mul, j2_sub, nmod]
      have lt := Nat.mod_lt x (show 0 < y by omega)
      have eg : Nat.gcd x y = Nat.gcd y (x % y) := by rw [Nat.gcd_comm x y, Nat.gcd_rec y x, Nat.gcd_comm]
      rw [eg]
      exact ih (x % y) lt y N (by omega) (by omega) (by omega) (by rw [← eg]; exact gp)
theorem m_part {a b : Nat} {p : Int} (ha : a ≤ 9900) (b0 : 1 ≤ b) (hb : b ≤ 30) (hp : p = 0 ∨ p = 1) : fX12_part M (j2 a) (j2 b) (i2 p) = some (j2 ((if p = 0 then (a : Int) else b).tdiv (Nat.gcd a b))) := by
  have gp : 1 ≤ Nat.gcd a b := Nat.gcd_pos_of_pos_right a (by omega)
  have gl : Nat.gcd a b ≤ b := Nat.gcd_le_right a (by omega)
  have k := m_gcd_L (M := M) (v0 := j2 a) (v2 := j2 b) (v4 := i2 p) b a FL hb (by omega) (by show _ < 4096; omega) gp
  rw [j2_div (by omega) (by omega) (by omega) (by omega), j2_div (by omega) (by omega) (by omega) (by omega)] at k
  show fX12_part_L6 M (j2 a) (j2 b) (i2 p) FL (j2 a) (j2 b) = _
  rw [k]
  rcases hp with rfl | rfl
  · rw [if_pos (by decide +kernel), if_pos rfl]
  · rw [if_neg (by decide +kernel), if_neg (by decide)]
theorem c_dvd {v g : Nat} (hv : v ≤ 9900) (g0 : 1 ≤ g) (g9 : g ≤ 30) : (i2 (v : Int) / i2 (g : Int)).toInt64 = j2 ((v : Int).tdiv g) := by
  rw [i2_div (by omega) (by omega) (by omega) (by omega)]
  have e : (v : Int).tdiv g = ((v / g : Nat) : Int) := (Int.ofNat_tdiv v g).symm
  have l := Nat.div_le_self v g
  rw [e]
  clear e
  generalize v / g = u at l
  exact i2_j2 (by omega) (by omega)
def OpL (f f' : Option Int64) : Prop := ∃ r, f = some r ∧ f' = some r
theorem m_isWornOut (h : LayM M) (g : GA A) {k : Int} (k0 : 0 ≤ k) (k1 : k < A 0) : fX12_isWornOut (M.row 165 A) 164 (i2 k) = some (i2 (tf (¬ stA A k 4 < stA A k 3))) := by
  have g0 := g.1
  have gs := g.2.2.2.2.2.2.2 k k0 k1
  have g3 := gs.2.2.2.1
  have g4 := gs.2.2.2.2.1
  have a3 := m_st (A := A) h k0 (show k < 8 by omega) (w := 3) (by decide) (by decide)
  have a4 := m_st (A := A) h k0 (show k < 8 by omega) (w := 4) (by decide) (by decide)
  have hm := h
  unfold fX12_isWornOut
  by_cases q : stA A k 4 < stA A k 3
  · rw [tf_f (fun z => z q)]
    clear gs
    simp -dsimp (disch := omega) only [↓B1_bp, ↓B2_bp, BP_some, BQ_some, ↓reduceIte, gk_row, rdN_row, alN_row, alN__row, gk_m hm, rdm0 hm, rdm1 hm, rdm2 hm, rdm3 hm, L_0, L_1, L_2, L_3, L_4, L_5, L_6, L_7, L_8, L_9, L_10, L_11, L_12, L_13, L_54, L_14, L_99, L_20, L_30, L_31, L_60, L_19, i2_add, i2_sub, i2_mul, i2_neg, Int.reduceAdd, Int.reduceSub, Int.reduceMul, Int.reduceNeg, Int.reduceLT, Int.reduceLE, Int.reduceEq, i2_le, i2_lt, i2_eq, J_0, J_1, J_2, J_3, J_5, J_7, J_8, J_9, J_10, J_13, J_15, J_30, J_60, J_99, J_100, J_999, J_n1, i2_j2, m_in, tf_0, not_true_eq_false, not_false_eq_true, m_al hm, L_15, L_40, L_100, L_101, L_190, L_200, L_999, uA_self, and_self, if_true, if_false, and_true, true_and, and_false, false_and, a4, a3, q]
  · rw [tf_t q]
    clear gs
    simp -dsimp (disch := omega) only [↓B1_bp, ↓B2_bp, BP_some, BQ_some, ↓reduceIte, gk_row, rdN_row, alN_row, alN__row, gk_m hm, rdm0 hm, rdm1 hm, rdm2 hm, rdm3 hm, L_0, L_1, L_2, L_3, L_4, L_5, L_6, L_7, L_8, L_9, L_10, L_11, L_12, L_13, L_54, L_14, L_99, L_20, L_30, L_31, L_60, L_19, i2_add, i2_sub, i2_mul, i2_neg, Int.reduceAdd, Int.reduceSub, Int.reduceMul, Int.reduceNeg, Int.reduceLT, Int.reduceLE, Int.reduceEq, i2_le, i2_lt, i2_eq, J_0, J_1, J_2, J_3, J_5, J_7, J_8, J_9, J_10, J_13, J_15, J_30, J_60, J_99, J_100, J_999, J_n1, i2_j2, m_in, tf_0, not_true_eq_false, not_false_eq_true, m_al hm, L_15, L_40, L_100, L_101, L_190, L_200, L_999, uA_self, and_self, if_true, if_false, and_true, true_and, and_false, false_and, a4, a3, q]
theorem m_mending (h : LayM M) (g : GA A) {k : Int} (k0 : 0 ≤ k) (k1 : k < A 0) : fX12_mending (M.row 165 A) 164 (i2 k) = some (j2 (lwA A 5 * opS (stA A k))) := by
  have g0 := g.1
  have gs := g.2.2.2.2.2.2.2 k k0 k1
  have ob := opS_b gs
  have l5 := g.2.2.2.2.2.1.2.2.2.2.2.1
  have a := m_openOf (A := A) h g k0 k1
  have hm := h
  have l9 : alI (M.row 165 A) 165 (i2 9) = some (i2 (lwA A 5)) := m_al h (by decide) (by decide)
  unfold fX12_mending
  rw [rdN_row, rdm0 h, B1_some, L_9, l9, B1_some, gk_row, gk_m h, B1_some, a, B1_some, i2_j2 (by omega) (by omega), i2_j2 (by omega) (by omega), j2_mul]
theorem mc_b (g : GA A) {k : Int} (k0 : 0 ≤ k) (k1 : k < A 0) : 0 ≤ lwA A 5 * opS (stA A k) ∧ lwA A 5 * opS (stA A k) ≤ 9900 := by
  have ob := opS_b (g.2.2.2.2.2.2.2 k k0 k1)
  have l5 := g.2.2.2.2.2.1.2.2.2.2.2.1
  have h1 := Int.mul_nonneg l5.1 ob.1
  have h2 := Int.mul_le_mul l5.2 ob.2 ob.1 (by decide)
  omega
theorem lg_ge {a b : Int} (h1 : -9223372036854775808 ≤ a) (h2 : a < 9223372036854775808) (h3 : -9223372036854775808 ≤ b) (h4 : b < 9223372036854775808) : (0 ≤ lg_cmp (j2 a) (j2 b)) = (b ≤ a) := by
  unfold lg_cmp
  simp only [GT.gt, j2_lt h3 h4 h1 h2, j2_eq h1 h2 h3 h4]
  by_cases q1 : b < a
  · rw [if_pos q1]; simp; omega
  · rw [if_neg q1]
    by_cases q2 : a = b
    · rw [if_pos q2]; simp; omega
    · rw [if_neg q2]; simp; omega
theorem op_worth (h : LayC M) (hm : LayM M) (c : CR M 1 A) (g : GA A) (ha : M.g 165 = rI A) {x : Int} (x0 : -2147483648 ≤ x) (x1 : x < 2147483648) : OpP (fX11_worth M 0 (i2 x)) (fX12_worth M 164 (i2 x)) := by
  have g0 := g.1
  have q2 := c_stockingAt (t_d1 h) c g x0 x1
  have a1 := m_isOne (A := A) hm g x0 x1
  by_cases e : 0 ≤ x ∧ x < A 0
  · have e1 : 0 ≤ x ∧ x ≤ A 0 - 1 := by omega
    have hx : ((x.toNat : Nat) : Int) = x := by omega
    rw [show stAt A 1 x = some (1 + 11 + 3 * x.toNat) from if_pos e] at q2
    rw [tf_t e1] at a1
    have gk1 := d_gk10 (t_d1 h) (k := x.toNat) (by omega)
    have hl := d_isLasting (t_d1 h) c g (k := x.toNat) (by omega)
    have hw := m_isWornOut (A := A) hm g e.1 e.2
    rw [hx] at hl
    by_cases p : stA A x 4 < stA A x 3
    · rw [tf_t p] at hl
      rw [tf_f (fun z => z p)] at hw
      have hc := d_mendingCosts (t_d1 h) c g (k := x.toNat) (by omega)
      have mc := m_mending (A := A) hm g e.1 e.2
      obtain ⟨⟨-, -, -, f3⟩, ⟨f4, -, -, -⟩, -⟩ := d_fld (t_d1 h) c g (k := x.toNat) (by omega)
      rw [hx] at hc f3 f4
      have a3 := m_st (A := A) hm e.1 (show x < 8 by omega) (w := 3) (by decide) (by decide)
      have a4 := m_st (A := A) hm e.1 (show x < 8 by omega) (w := 4) (by decide) (by decide)
      have ld : alI M (1 + 1) (i2 6) = some (i2 (A 10)) := d_law (t_d1 h) c 6 (by decide) (by decide)
      have gs := g.2.2.2.2.2.2.2 x e.1 e.2
      have g3 := gs.2.2.2.1
      have g4 := gs.2.2.2.2.1
      have mb := mc_b g e.1 e.2
      have nb : 1 ≤ A 10 ∧ A 10 ≤ 999 := g.2.2.2.2.2.1.2.2.2.2.2.2.1
      have b1 := Int.mul_nonneg mb.1 (show 0 ≤ stA A x 3 by omega)
      have b2 := Int.mul_le_mul mb.2 g3.2 (by omega) (by decide)
      have b3 := Int.mul_nonneg (show 0 ≤ A 10 by omega) (show 0 ≤ stA A x 3 - stA A x 4 by omega)
      have b4 := Int.mul_le_mul nb.2 (show stA A x 3 - stA A x 4 ≤ 30 by omega) (by omega) (by decide)
      have lg := lg_ge (a := lwA A 5 * opS (stA A x) * stA A x 3) (b := A 10 * (stA A x 3 - stA A x 4)) (by omega) (by omega) (by omega) (by omega)
      have le := i2_le (a := A 10 * (stA A x 3 - stA A x 4)) (b := lwA A 5 * opS (stA A x) * stA A x 3) (by omega) (by omega) (by omega) (by omega)
      refine ⟨if A 10 * (stA A x 3 - stA A x 4) ≤ lwA A 5 * opS (stA A x) * stA A x 3 then i2 0 else i2 1, ?_, ?_⟩
      · unfold fX11_worth
        simp -dsimp only [↓B1_bp, BP_some, ↓NL_bp, BNP_none, BNP_some, t_now h, d_gk (t_d1 h), q2, gk1, hl, show (i2 1 = 0) = False by decide +kernel, if_false, d_laws (t_d1 h), hc, f3, L_6, ld, f4, i2_sub, i2_mul, le]
        split <;> rfl
      · rw [row_of ha]
        unfold fX12_worth
        simp -dsimp only [↓B1_bp, BP_some, gk_row, gk_m hm, rdN_row, rdm0 hm, a1, show (i2 1 = 0) = False by decide +kernel, show (i2 0 = 0) = True by decide +kernel, if_false, if_true, hw, mc, L_3, L_4, L_10, a3, a4, m_al hm (show 0 ≤ (10 : Int) by decide) (show (10 : Int) < 158 by decide), i2_sub]
        rw [i2_j2 (by omega) (by omega), i2_j2 (by omega) (by omega), i2_j2 (by omega) (by omega), j2_mul, j2_mul]
        simp only [lg]
        split <;> rfl
    · rw [tf_f p] at hl
      rw [tf_t p] at hw
      refine ⟨i2 (-3), ?_, ?_⟩
      · unfold fX11_worth
        simp -dsimp (disch := omega) only [↓B1_bp, ↓B2_bp, BP_some, BQ_some, ↓reduceIte, L_0, L_1, L_2, L_3, L_4, L_5, L_6, L_7, L_8, L_9, L_10, L_11, L_12, L_13, L_54, L_14, L_99, L_20, L_30, L_31, L_60, L_19, i2_add, i2_sub, i2_mul, i2_neg, Int.reduceAdd, Int.reduceSub, Int.reduceMul, Int.reduceNeg, Int.reduceLT, Int.reduceLE, Int.reduceEq, i2_le, i2_lt, i2_eq, uA_self, uA_ne, tf_0, not_true_eq_false, not_false_eq_true, L_15, L_40, L_100, L_101, L_200, L_999, ↓NL_bp, BNP_none, BNP_some, and_self, if_true, if_false, and_true, true_and, and_false, false_and, t_now h, d_gk (t_d1 h), q2, gk1, hl]
      · rw [row_of ha]
        unfold fX12_worth
        simp -dsimp (disch := omega) only [↓B1_bp, ↓B2_bp, BP_some, BQ_some, ↓reduceIte, gk_row, rdN_row, alN_row, alN__row, gk_m hm, rdm0 hm, rdm1 hm, rdm2 hm, rdm3 hm, L_0, L_1, L_2, L_3, L_4, L_5, L_6, L_7, L_8, L_9, L_10, L_11, L_12, L_13, L_54, L_14, L_99, L_20, L_30, L_31, L_60, L_19, i2_add, i2_sub, i2_mul, i2_neg, Int.reduceAdd, Int.reduceSub, Int.reduceMul, Int.reduceNeg, Int.reduceLT, Int.reduceLE, Int.reduceEq, i2_le, i2_lt, i2_eq, J_0, J_1, J_2, J_3, J_5, J_7, J_8, J_9, J_10, J_13, J_15, J_30, J_60, J_99, J_100, J_999, J_n1, i2_j2, m_in, tf_0, not_true_eq_false, not_false_eq_true, m_al hm, L_15, L_40, L_100, L_101, L_190, L_200, L_999, uA_self, and_self, if_true, if_false, and_true, true_and, and_false, false_and, a1, hw]
  · have e1 : ¬ (0 ≤ x ∧ x ≤ A 0 - 1) := by omega
    rw [show stAt A 1 x = none from if_neg e] at q2
    rw [tf_f e1] at a1
    refine ⟨i2 (-1), ?_, ?_⟩
    · unfold fX11_worth
      simp -dsimp (disch := omega) only [↓B1_bp, ↓B2_bp, BP_some, BQ_some, ↓reduceIte, L_0, L_1, L_2, L_3, L_4, L_5, L_6, L_7, L_8, L_9, L_10, L_11, L_12, L_13, L_54, L_14, L_99, L_20, L_30, L_31, L_60, L_19, i2_add, i2_sub, i2_mul, i2_neg, Int.reduceAdd, Int.reduceSub, Int.reduceMul, Int.reduceNeg, Int.reduceLT, Int.reduceLE, Int.reduceEq, i2_le, i2_lt, i2_eq, uA_self, uA_ne, tf_0, not_true_eq_false, not_false_eq_true, L_15, L_40, L_100, L_101, L_200, L_999, ↓NL_bp, BNP_none, BNP_some, and_self, if_true, if_false, and_true, true_and, and_false, false_and, t_now h, d_gk (t_d1 h), q2]
    · rw [row_of ha]
      unfold fX12_worth
      simp -dsimp (disch := omega) only [↓B1_bp, ↓B2_bp, BP_some, BQ_some, ↓reduceIte, gk_row, rdN_row, alN_row, alN__row, gk_m hm, rdm0 hm, rdm1 hm, rdm2 hm, rdm3 hm, L_0, L_1, L_2, L_3, L_4, L_5, L_6, L_7, L_8, L_9, L_10, L_11, L_12, L_13, L_54, L_14, L_99, L_20, L_30, L_31, L_60, L_19, i2_add, i2_sub, i2_mul, i2_neg, Int.reduceAdd, Int.reduceSub, Int.reduceMul, Int.reduceNeg, Int.reduceLT, Int.reduceLE, Int.reduceEq, i2_le, i2_lt, i2_eq, J_0, J_1, J_2, J_3, J_5, J_7, J_8, J_9, J_10, J_13, J_15, J_30, J_60, J_99, J_100, J_999, J_n1, i2_j2, m_in, tf_0, not_true_eq_false, not_false_eq_true, m_al hm, L_15, L_40, L_100, L_101, L_190, L_200, L_999, uA_self, and_self, if_true, if_false, and_true, true_and, and_false, false_and, a1]
end COSTS
