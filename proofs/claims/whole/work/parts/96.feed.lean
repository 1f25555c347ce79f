section FEED
variable {M : Mm} {A : Int → Int}
def byV (v : Int64) (k : Nat) : Int := ((ushL v (i2 (8 * (k : Int)))).toInt32 &&& 255).toInt
theorem byV_b (v : Int64) (k : Nat) : 0 ≤ byV v k ∧ byV v k ≤ 255 := by_b _
theorem byV_c (v : Int64) (k : Nat) : (ushL v (i2 (8 * (k : Int)))).toInt32 &&& 255 = i2 (byV v k) := (i2_self _).symm
theorem byV_m (v : Int64) {k : Nat} (hk : k < 8) : (shL v (i2 (8 * (k : Int))) &&& 255).toInt32 = i2 (byV v k) := by rw [← by_k k hk v, byV_c]
/-- the tape with so many bytes more -/
def tpF (T : Int → Int) (L : Int) (v : Int64) : Int → Int := fun j => if j < L then T j else byV v (j - L).toNat
def FeP (p : Nat) : Prop := p = 109 ∨ p = 110
theorem c_addByte {X : Mm} (h : LayC X) {len b : Int} (hl : gI X 109 1 = len) (l0 : 0 ≤ len) (l9 : len < 200) : fX8_addByte X 109 (i2 b) = some ((X.row 110 (uA (gI X 110) len b)).row 109 (uA (gI X 109) 1 (len + 1))) := by
  obtain ⟨-, -, -, -, -, -, ⟨t1, t2, -⟩, ⟨a1, a2⟩, -⟩ := h
  have rd : rdI X 109 11 1 = some (i2 len) := by
    rw [g_rdI t1, ← hl]
    rfl
  have rN : rdN X 109 11 0 = some 110 := by unfold rdN; rw [if_pos t1]; exact t2
  have as1 := g_asI (M := X) (p := 110) (N := 200) (x := len) (v := b) ⟨a1, a2⟩ l0 (by omega) (by omega)
  have rd1 : rdI (X.row 110 (uA (gI X 110) len b)) 109 11 1 = some (i2 len) := by rw [rdI_row (by decide), rd]
  have w := g_wrI (M := X.row 110 (uA (gI X 110) len b)) (p := 109) (kd := 11) (j := 1) (v := len + 1) t1 (by decide)
  rw [gI_ne _ (by decide), show ((1 : Nat) : Int) = 1 from rfl] at w
  have q : ¬ 200 ≤ len := by omega
  unfold fX8_addByte
  simp -dsimp (disch := omega) only [↓B1_bp, ↓B2_bp, BP_some, BQ_some, ↓reduceIte, L_0, L_1, L_2, L_3, L_4, L_5, L_6, L_7, L_8, L_9, L_10, L_11, L_12, L_13, L_54, L_14, L_99, L_20, L_30, L_31, L_60, L_19, i2_add, i2_sub, i2_mul, i2_neg, Int.reduceAdd, Int.reduceSub, Int.reduceMul, Int.reduceNeg, Int.reduceLT, Int.reduceLE, Int.reduceEq, i2_le, i2_lt, i2_eq, uA_self, uA_ne, tf_0, not_true_eq_false, not_false_eq_true, L_200, rd, q, if_false, rN, as1, rd1, w]
theorem c_feed_L {v : Int64} {T : Int → Int} {L n : Int} (L0 : 0 ≤ L) (n0 : 1 ≤ n) (n8 : n ≤ 8) (Ln : L + n ≤ 200) : ∀ (d N i : Nat) (X : Mm), LayC X → gI X 109 1 = L + i → (∀ j : Int, 0 ≤ j → j < L + i → gI X 110 j = tpF T L v j) → d < N → (i : Int) + d = n → ∃ X', fX11_feed_L33 0 v (i2 n) N (i2 i) X = some (i2 (L + n), X') ∧ SmP FeP X X' ∧ gI X' 109 1 = L + n ∧ ∀ j : Int, 0 ≤ j → j < L + n → gI X' 110 j = tpF T L v j := by
  intro d
  induction d with
  | zero =>
    intro N i X h hl ht hN hi
    obtain ⟨N, rfl⟩ : ∃ k, N = k + 1 := ⟨N - 1, by omega⟩
    have q : n ≤ i := by omega
    have e : (i : Int) = n := by omega
    rw [e] at hl ht
    have rd := t_tp h
    rw [hl] at rd
    refine ⟨X, ?_, SmP.rf _ _, hl, ht⟩
    rw [e]
    simp -dsimp (disch := omega) only [fX11_feed_L33, ↓B1_bp, ↓B2_bp, BP_some, BQ_some, ↓reduceIte, L_0, L_1, L_2, L_3, L_4, L_5, L_6, L_7, L_8, L_9, L_10, L_11, L_12, L_13, L_54, L_14, L_99, L_20, L_30, L_31, L_60, L_19, i2_add, i2_sub, i2_mul, i2_neg, Int.reduceAdd, Int.reduceSub, Int.reduceMul, Int.reduceNeg, Int.reduceLT, Int.reduceLE, Int.reduceEq, i2_le, i2_lt, i2_eq, uA_self, uA_ne, tf_0, not_true_eq_false, not_false_eq_true, Int.le_refl, if_true, t_tape h, rd]
  | succ d ih =>
    intro N i X h hl ht hN hi
    obtain ⟨N, rfl⟩ : ∃ k, N = k + 1 := ⟨N - 1, by omega⟩
    have q : ¬ n ≤ i := by omega
    have ab := c_addByte h (b := byV v i) hl (by omega) (by omega)
    have s1 : SmP FeP X ((X.row 110 (uA (gI X 110) (L + i) (byV v i))).row 109 (uA (gI X 109) 1 (L + i + 1))) := (SmP.row X _ (by unfold FeP; omega)).tr (SmP.row _ _ (by unfold FeP; omega))
    have h1 := h.sm s1
    have bb := byV_b v i
    have l1 : gI ((X.row 110 (uA (gI X 110) (L + i) (byV v i))).row 109 (uA (gI X 109) 1 (L + i + 1))) 109 1 = L + ((i + 1 : Nat) : Int) := by
      rw [gI_at (by decide) (by rw [uA_self]; omega) (by rw [uA_self]; omega), uA_self]
      omega
    have t1 : ∀ j : Int, 0 ≤ j → j < L + ((i + 1 : Nat) : Int) → gI ((X.row 110 (uA (gI X 110) (L + i) (byV v i))).row 109 (uA (gI X 109) 1 (L + i + 1))) 110 j = tpF T L v j := fun j j0 j1 => by
      rw [gI_ne _ (by decide)]
      by_cases e : j = L + i
      · subst e
        rw [gI_u j0 (by omega) (by omega)]
        unfold tpF
        rw [if_neg (by omega), show (L + (i : Int) - L).toNat = i by omega]
      · rw [gI_u_ne j0 e]
        exact ht j j0 (by omega)
    obtain ⟨X', p1, p2, p3, p4⟩ := ih N (i + 1) _ h1 l1 t1 (by omega) (by omega)
    refine ⟨X', ?_, s1.tr p2, p3, p4⟩
    rw [show (((i + 1 : Nat)) : Int) = (i : Int) + 1 from rfl] at p1
    rw [← p1]
    have gt : gk X 109 11 = some () := if_pos h.2.2.2.2.2.2.1.1
    have bc := byV_c v i
    have tt := t_tape h
    clear ih p1 p2 p3 p4 ht t1 h1 h
    have u : fX11_feed_L33 0 v (i2 n) (N + 1) (i2 i) X = if i2 n ≤ i2 i then (B1 (rdN X 0 14 5) fun a => B1 (rdI X a 11 1) fun x => some (x, X)) else B1 (rdN X 0 14 5) fun a => B1 (gk X a 11) fun _ => B1 (fX8_addByte X a (((ushL v (8 * i2 i)).toInt32) &&& 255)) fun M' => fX11_feed_L33 0 v (i2 n) N (i2 i + 1) M' := rfl
    rw [u, if_neg (by rw [i2_le (by omega) (by omega) (by omega) (by omega)]; exact q), tt, B1_some, gt, B1_some, show (8 : Int32) * i2 i = i2 (8 * (i : Int)) by rw [L_8, i2_mul], bc, ab, B1_some, L_1, i2_add]
def FmP (p : Nat) : Prop := p = 164 ∨ p = 169
theorem m_r5 (h : LayM M) : rdN M 164 15 5 = some 169 := by unfold rdN; rw [if_pos h.1.1]; exact h.1.2.2.2.2.2.1
theorem ar_tp (h : LayM M) : Ar M 169 200 := h.2.2.1
theorem m_feed_L {v : Int64} {T : Int → Int} {L n : Int} (L0 : 0 ≤ L) (n0 : 1 ≤ n) (n8 : n ≤ 8) (Ln : L + n ≤ 200) : ∀ (d N i : Nat) (X : Mm), LayM X → gI X 164 6 = L + i → (∀ j : Int, 0 ≤ j → j < L + i → gI X 169 j = tpF T L v j) → d < N → (i : Int) + d = n → ∃ X', fX12_feed_L32 164 v (i2 n) N (i2 i) X = some (i2 (L + n), X') ∧ SmP FmP X X' ∧ gI X' 164 6 = L + n ∧ (∀ j : Int, 0 ≤ j → j ≠ 6 → gI X' 164 j = gI X 164 j) ∧ ∀ j : Int, 0 ≤ j → j < L + n → gI X' 169 j = tpF T L v j := by
  intro d
  induction d with
  | zero =>
    intro N i X h hl ht hN hi
    obtain ⟨N, rfl⟩ : ∃ k, N = k + 1 := ⟨N - 1, by omega⟩
    have e : (i : Int) = n := by omega
    rw [e] at hl ht
    have rd := m_rdI (j := 6) h
    rw [show gI X 164 ((6 : Nat) : Int) = gI X 164 6 from rfl, hl] at rd
    refine ⟨X, ?_, SmP.rf _ _, hl, fun _ _ _ => rfl, ht⟩
    rw [e]
    simp -dsimp (disch := omega) only [fX12_feed_L32, ↓B1_bp, ↓B2_bp, BP_some, BQ_some, ↓reduceIte, L_0, L_1, L_2, L_3, L_4, L_5, L_6, L_7, L_8, L_9, L_10, L_11, L_12, L_13, L_54, L_14, L_99, L_20, L_30, L_31, L_60, L_19, i2_add, i2_sub, i2_mul, i2_neg, Int.reduceAdd, Int.reduceSub, Int.reduceMul, Int.reduceNeg, Int.reduceLT, Int.reduceLE, Int.reduceEq, i2_le, i2_lt, i2_eq, uA_self, uA_ne, tf_0, not_true_eq_false, not_false_eq_true, Int.le_refl, if_true, rd]
  | succ d ih =>
    intro N i X h hl ht hN hi
    obtain ⟨N, rfl⟩ : ∃ k, N = k + 1 := ⟨N - 1, by omega⟩
    have q : ¬ n ≤ i := by omega
    have rd := m_rdI (j := 6) h
    rw [show gI X 164 ((6 : Nat) : Int) = gI X 164 6 from rfl, hl] at rd
    have as1 := g_asI (M := X) (ar_tp h) (x := L + i) (v := byV v i) (by omega) (by omega) (by omega)
    have rd1 : rdI (X.row 169 (uA (gI X 169) (L + i) (byV v i))) 164 15 6 = some (i2 (L + i)) := by rw [rdI_row (by decide), rd]
    have w := g_wrI (M := X.row 169 (uA (gI X 169) (L + i) (byV v i))) (p := 164) (kd := 15) (j := 6) (v := L + i + 1) h.1.1 (by decide)
    rw [gI_ne _ (by decide), show ((6 : Nat) : Int) = 6 from rfl] at w
    have s1 : SmP FmP X ((X.row 169 (uA (gI X 169) (L + i) (byV v i))).row 164 (uA (gI X 164) 6 (L + i + 1))) := (SmP.row X _ (by unfold FmP; omega)).tr (SmP.row _ _ (by unfold FmP; omega))
    have h1 := h.sm s1
    have bb := byV_b v i
    have l1 : gI ((X.row 169 (uA (gI X 169) (L + i) (byV v i))).row 164 (uA (gI X 164) 6 (L + i + 1))) 164 6 = L + ((i + 1 : Nat) : Int) := by
      rw [gI_at (by decide) (by rw [uA_self]; omega) (by rw [uA_self]; omega), uA_self]
      omega
    have o1 : ∀ j : Int, 0 ≤ j → j ≠ 6 → gI ((X.row 169 (uA (gI X 169) (L + i) (byV v i))).row 164 (uA (gI X 164) 6 (L + i + 1))) 164 j = gI X 164 j := fun j j0 jn => by
      have nb := gI_b X 164 j
      rw [gI_at j0 (by rw [uA_ne jn]; exact nb.1) (by rw [uA_ne jn]; exact nb.2), uA_ne jn]
    have t1 : ∀ j : Int, 0 ≤ j → j < L + ((i + 1 : Nat) : Int) → gI ((X.row 169 (uA (gI X 169) (L + i) (byV v i))).row 164 (uA (gI X 164) 6 (L + i + 1))) 169 j = tpF T L v j := fun j j0 j1 => by
      rw [gI_ne _ (by decide)]
      by_cases e : j = L + i
      · subst e
        rw [gI_u j0 (by omega) (by omega)]
        unfold tpF
        rw [if_neg (by omega), show (L + (i : Int) - L).toNat = i by omega]
      · rw [gI_u_ne j0 e]
        exact ht j j0 (by omega)
    obtain ⟨X', p1, p2, p3, p5, p4⟩ := ih N (i + 1) _ h1 l1 t1 (by omega) (by omega)
    refine ⟨X', ?_, s1.tr p2, p3, fun j j0 jn => (p5 j j0 jn).trans (o1 j j0 jn), p4⟩
    rw [show (((i + 1 : Nat)) : Int) = (i : Int) + 1 from rfl] at p1
    rw [← p1]
    have bc := byV_m v (k := i) (by omega)
    have r5 := m_r5 h
    clear ih p1 p2 p3 p4 p5 ht t1 h1 h o1
    have u : fX12_feed_L32 164 v (i2 n) (N + 1) (i2 i) X = if i2 n ≤ i2 i then (B1 (rdI X 164 15 6) fun x => some (x, X)) else B1 (rdN X 164 15 5) fun a => B1 (rdI X 164 15 6) fun x => B1 (asI X a x (((shL v (8 * i2 i)) &&& 255).toInt32)) fun M1 => B1 (rdI M1 164 15 6) fun x => B1 (wrI M1 164 15 6 (x + 1)) fun M' => fX12_feed_L32 164 v (i2 n) N (i2 i + 1) M' := rfl
    rw [u, if_neg (by rw [i2_le (by omega) (by omega) (by omega) (by omega)]; exact q), r5, B1_some, rd, B1_some, show (8 : Int32) * i2 i = i2 (8 * (i : Int)) by rw [L_8, i2_mul], bc, as1, B1_some, rd1, B1_some, L_1, i2_add, w, B1_some, i2_add]
theorem op_feed (h : LayC M) (hm : LayM M) (c : CR M 1 A) (g : GA A) (ha : M.g 165 = rI A) {v : Int64} {y : Int} (y0 : -2147483648 ≤ y) (y1 : y < 2147483648) (hi : Inv M) : Op M (fun M => fX11_feed M 0 v (i2 y)) (fun M => fX12_feed M 164 v (i2 y)) := by
  obtain ⟨k1, k2, k3, k4, k5, k6⟩ := hi.2
  obtain ⟨t1, t2, t3⟩ := k2
  have rd := t_tp h
  have rm := m_rdI (j := 6) hm
  rw [show gI M 164 ((6 : Nat) : Int) = gI M 164 6 from rfl, ← t1] at rm
  by_cases e : 1 ≤ y ∧ y ≤ 8
  · have te : tf (1 ≤ y ∧ y ≤ 8) = 1 := tf_t e
    by_cases f : gI M 109 1 + y ≤ 200
    · obtain ⟨X1, p1, p2, p3, p4⟩ := c_feed_L (v := v) (T := gI M 110) (L := gI M 109 1) (n := y) t2.1 e.1 e.2 f y.toNat FL 0 M h (by omega) (fun j j0 j1 => by unfold tpF; rw [if_pos (by omega)]) (by show _ < 4096; omega) (by omega)
      have hm1 := hm.sm p2
      have z164 : gI X1 164 = gI M 164 := gI_of (p2.2 164 (by unfold FeP; omega))
      have z169 : gI X1 169 = gI M 169 := gI_of (p2.2 169 (by unfold FeP; omega))
      obtain ⟨X2, q1, q2, q3, q5, q4⟩ := m_feed_L (v := v) (T := gI M 110) (L := gI M 109 1) (n := y) t2.1 e.1 e.2 f y.toNat FL 0 X1 hm1 (by rw [z164, ← t1]; omega) (fun j j0 j1 => by unfold tpF; rw [if_pos (by omega), z169]; exact (t3 j j0 (by omega)).1.symm) (by show _ < 4096; omega) (by omega)
      rw [show ((0 : Nat) : Int) = 0 from rfl] at p1 q1
      have s1 : SmP GnP M X2 := (p2.mono fun p hp => by unfold FeP at hp; unfold GnP; omega).tr (q2.mono fun p hp => by unfold FmP at hp; unfold GnP; omega)
      have sq : SmP (fun p => FeP p ∨ FmP p) M X2 := (p2.mono fun p hp => Or.inl hp).tr (q2.mono fun p hp => Or.inr hp)
      have e109 : gI X2 109 = gI X1 109 := gI_of (q2.2 109 (by unfold FmP; omega))
      have e110 : gI X2 110 = gI X1 110 := gI_of (q2.2 110 (by unfold FmP; omega))
      have e0 : gI X2 0 = gI M 0 := gI_of (sq.2 0 (by unfold FeP FmP; omega))
      have rm1 := m_rdI (j := 6) hm1
      rw [show gI X1 164 ((6 : Nat) : Int) = gI X1 164 6 from rfl, z164, ← t1] at rm1
      refine ⟨i2 (gI M 109 1 + y), X1, X2, ?_, ?_, Inv.gen (A' := A) hi s1 ?_ ⟨?_, ?_, fun j j0 j1 => ?_⟩ ?_ ?_ ?_ g ?_⟩
      · show fX11_feed M 0 v (i2 y) = _
        unfold fX11_feed
        have f2 : gI M 109 1 + y ≤ 200 := f
        simp -dsimp (disch := omega) only [↓B1_bp, ↓B2_bp, BP_some, BQ_some, ↓reduceIte, L_0, L_1, L_2, L_3, L_4, L_5, L_6, L_7, L_8, L_9, L_10, L_11, L_12, L_13, L_54, L_14, L_99, L_20, L_30, L_31, L_60, L_19, i2_add, i2_sub, i2_mul, i2_neg, Int.reduceAdd, Int.reduceSub, Int.reduceMul, Int.reduceNeg, Int.reduceLT, Int.reduceLE, Int.reduceEq, i2_le, i2_lt, i2_eq, uA_self, uA_ne, tf_0, not_true_eq_false, not_false_eq_true, L_15, L_40, L_100, L_101, L_200, L_999, ↓NL_bp, BNP_none, BNP_some, and_self, if_true, if_false, and_true, true_and, and_false, false_and, t_now h, d_gk (t_d1 h), c_isWithin, te, t_tape h, rd, f2, p1]
      · show fX12_feed X1 164 v (i2 y) = _
        unfold fX12_feed
        simp -dsimp (disch := omega) only [↓B1_bp, ↓B2_bp, BP_some, BQ_some, ↓reduceIte, L_0, L_1, L_2, L_3, L_4, L_5, L_6, L_7, L_8, L_9, L_10, L_11, L_12, L_13, L_54, L_14, L_99, L_20, L_30, L_31, L_60, L_19, i2_add, i2_sub, i2_mul, i2_neg, Int.reduceAdd, Int.reduceSub, Int.reduceMul, Int.reduceNeg, Int.reduceLT, Int.reduceLE, Int.reduceEq, i2_le, i2_lt, i2_eq, uA_self, uA_ne, tf_0, not_true_eq_false, not_false_eq_true, L_200, J_0, J_1, J_2, J_3, J_5, J_7, J_8, J_9, J_10, J_13, J_15, J_30, J_60, J_99, J_100, J_999, J_n1, i2_j2, m_in, te, rm1, f, if_true, q1]
      · exact k1.sm sq (by rw [e0]) ((q5 4 (by decide) (by decide)).trans (by rw [z164])) (by unfold FeP FmP; omega)
      · rw [e109, p3, q3]
      · rw [e109, p3]; omega
      · rw [e109, p3] at j1
        rw [e110, p4 j j0 j1, q4 j j0 j1]
        refine ⟨rfl, ?_⟩
        unfold tpF
        by_cases w : j < gI M 109 1
        · rw [if_pos w]
          exact (t3 j j0 w).2
        · rw [if_neg w]
          exact byV_b _ _
      · exact k3.sm sq (by rw [e0]) ((q5 11 (by decide) (by decide)).trans (by rw [z164])) (by unfold FeP FmP; omega)
      · exact (q5 20 (by decide) (by decide)).trans (by rw [z164])
      · exact (sq.2 165 (by unfold FeP FmP; omega)).trans ha
      · exact c.sm sq (fun p a b z => by unfold FeP FmP at z; omega) g.1.2
    · refine ⟨i2 (-2), M, M, ?_, ?_, hi⟩
      · show fX11_feed M 0 v (i2 y) = _
        unfold fX11_feed
        simp -dsimp (disch := omega) only [↓B1_bp, ↓B2_bp, BP_some, BQ_some, ↓reduceIte, L_0, L_1, L_2, L_3, L_4, L_5, L_6, L_7, L_8, L_9, L_10, L_11, L_12, L_13, L_54, L_14, L_99, L_20, L_30, L_31, L_60, L_19, i2_add, i2_sub, i2_mul, i2_neg, Int.reduceAdd, Int.reduceSub, Int.reduceMul, Int.reduceNeg, Int.reduceLT, Int.reduceLE, Int.reduceEq, i2_le, i2_lt, i2_eq, uA_self, uA_ne, tf_0, not_true_eq_false, not_false_eq_true, L_15, L_40, L_100, L_101, L_200, L_999, ↓NL_bp, BNP_none, BNP_some, and_self, if_true, if_false, and_true, true_and, and_false, false_and, t_now h, d_gk (t_d1 h), c_isWithin, te, t_tape h, rd, f]
      · show fX12_feed M 164 v (i2 y) = _
        unfold fX12_feed
        simp -dsimp (disch := omega) only [↓B1_bp, ↓B2_bp, BP_some, BQ_some, ↓reduceIte, L_0, L_1, L_2, L_3, L_4, L_5, L_6, L_7, L_8, L_9, L_10, L_11, L_12, L_13, L_54, L_14, L_99, L_20, L_30, L_31, L_60, L_19, i2_add, i2_sub, i2_mul, i2_neg, Int.reduceAdd, Int.reduceSub, Int.reduceMul, Int.reduceNeg, Int.reduceLT, Int.reduceLE, Int.reduceEq, i2_le, i2_lt, i2_eq, uA_self, uA_ne, tf_0, not_true_eq_false, not_false_eq_true, L_200, J_0, J_1, J_2, J_3, J_5, J_7, J_8, J_9, J_10, J_13, J_15, J_30, J_60, J_99, J_100, J_999, J_n1, i2_j2, m_in, te, rm, f, if_false]
  · have te : tf (1 ≤ y ∧ y ≤ 8) = 0 := tf_f e
    refine ⟨i2 (-1), M, M, ?_, ?_, hi⟩
    · show fX11_feed M 0 v (i2 y) = _
      unfold fX11_feed
      simp -dsimp (disch := omega) only [↓B1_bp, ↓B2_bp, BP_some, BQ_some, ↓reduceIte, L_0, L_1, L_2, L_3, L_4, L_5, L_6, L_7, L_8, L_9, L_10, L_11, L_12, L_13, L_54, L_14, L_99, L_20, L_30, L_31, L_60, L_19, i2_add, i2_sub, i2_mul, i2_neg, Int.reduceAdd, Int.reduceSub, Int.reduceMul, Int.reduceNeg, Int.reduceLT, Int.reduceLE, Int.reduceEq, i2_le, i2_lt, i2_eq, uA_self, uA_ne, tf_0, not_true_eq_false, not_false_eq_true, L_15, L_40, L_100, L_101, L_200, L_999, ↓NL_bp, BNP_none, BNP_some, and_self, if_true, if_false, and_true, true_and, and_false, false_and, t_now h, d_gk (t_d1 h), c_isWithin, te]
    · show fX12_feed M 164 v (i2 y) = _
      unfold fX12_feed
      simp -dsimp (disch := omega) only [↓B1_bp, ↓B2_bp, BP_some, BQ_some, ↓reduceIte, L_0, L_1, L_2, L_3, L_4, L_5, L_6, L_7, L_8, L_9, L_10, L_11, L_12, L_13, L_54, L_14, L_99, L_20, L_30, L_31, L_60, L_19, i2_add, i2_sub, i2_mul, i2_neg, Int.reduceAdd, Int.reduceSub, Int.reduceMul, Int.reduceNeg, Int.reduceLT, Int.reduceLE, Int.reduceEq, i2_le, i2_lt, i2_eq, uA_self, uA_ne, tf_0, not_true_eq_false, not_false_eq_true, J_0, J_1, J_2, J_3, J_5, J_7, J_8, J_9, J_10, J_13, J_15, J_30, J_60, J_99, J_100, J_999, J_n1, i2_j2, m_in, te]
end FEED
