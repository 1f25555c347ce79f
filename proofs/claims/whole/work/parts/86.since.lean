section SINCE
variable {M : Mm} {A : Int → Int}
theorem bgV_e {A' : Int → Int} (h : E158 A' A) (g : GA A) {k w i r : Int} (k0 : 0 ≤ k) (k1 : k < A 0) (e : 0 ≤ w ∧ w ≤ 1) (i0 : 0 ≤ i) (i1 : i ≤ A (12 + w)) : bgV A' k w i r = bgV A k w i r := by
  have g0 := g.1
  have gc := g_wcnt g e
  have hs := E158.st h k0 (show k < 8 by omega)
  have e0 : E13 (bg0 (stA A' k) r) (bg0 (stA A k) r) := fun j a b => by
    unfold bg0 uA
    rw [hs j a b]
  have e1 : E13 (bgT A' k w i r) (bgT A k w i r) := by
    unfold bgT
    rw [h (12 + w) (by omega) (by omega), way_e h e.1 e.2 i0 gc.2]
    exact Ex.way _ _ _ _ _ _ _ e0
  unfold bgV
  rw [e1 6 (by decide) (by decide), e1 7 (by decide) (by decide), hs 6 (by decide) (by decide), hs 7 (by decide) (by decide)]
theorem wt_put {S : Int → Int} {k w i : Int} (k0 : 0 ≤ k) (w1 : w ≤ 1) (i9 : i < 10) : wtA (putA A k S) w i = wtA A w i ∧ ntA (putA A k S) w i = ntA A w i := ⟨put_lo k0 (by omega), put_lo k0 (by omega)⟩
theorem m_bg67 (h : LayM M) (g : GA A) {kk : Mm → Option (Int32 × Mm)} {k w i tm : Int} {v5 v6 : Int32} (k0 : 0 ≤ k) (k1 : k < A 0) (e : 0 ≤ w ∧ w ≤ 1) (i0 : 0 ≤ i) (i1 : i < A (12 + w)) (t9 : tm ≤ 60) : ∀ (d N : Nat) (v : Int) (S : Int → Int), GS S → d < N → 0 ≤ v → v + d = tm → fX12_isBegun_L67 kk 164 (i2 k) (i2 w) v5 v6 (i2 i) (i2 tm) N (i2 v) (M.row 165 (putA A k S)) = kk (M.row 165 (putA A k (it (mvS (lwA A) (wtA A w i)) d S))) := by
  have g0 := g.1
  have gc := g_wcnt g e
  obtain ⟨h10, hw, hn⟩ := GA.leg g e.1 (by omega) i0 i1
  intro d
  induction d with
  | zero =>
    intro N v S gs hN v0 hv
    obtain ⟨N, rfl⟩ : ∃ k, N = k + 1 := ⟨N - 1, by omega⟩
    have q : tm ≤ v := by omega
    simp -dsimp (disch := omega) only [fX12_isBegun_L67, ↓B1_bp, ↓B2_bp, BP_some, BQ_some, ↓reduceIte, L_0, L_1, L_2, L_3, L_4, L_5, L_6, L_7, L_8, L_9, L_10, L_11, L_12, L_13, L_54, L_14, L_99, L_20, L_30, L_31, L_60, L_19, i2_add, i2_sub, i2_mul, i2_neg, Int.reduceAdd, Int.reduceSub, Int.reduceMul, Int.reduceNeg, Int.reduceLT, Int.reduceLE, Int.reduceEq, i2_le, i2_lt, i2_eq, uA_self, uA_ne, tf_0, not_true_eq_false, not_false_eq_true, q, if_true]
    rfl
  | succ d ih =>
    intro N v S gs hN v0 hv
    obtain ⟨N, rfl⟩ : ∃ k, N = k + 1 := ⟨N - 1, by omega⟩
    have q : ¬ tm ≤ v := by omega
    have m1 := m_whatOf (A := putA A k S) h e.1 (show w < 2 by omega) i0 h10
    rw [(wt_put k0 e.2 h10).1] at m1
    have m2 := m_moves (A := A) (S := S) h g.2.2.2.2.2.1 gs k0 (by omega) hw.1 hw.2
    have j := ih N (v + 1) _ (gs.mv (mv := wtA A w i) g.2.2.2.2.2.1) (by omega) (by omega) (by omega)
    show _ = kk (M.row 165 (putA A k (it (mvS (lwA A) (wtA A w i)) d (mvS (lwA A) (wtA A w i) S))))
    rw [← j]
    simp -dsimp (disch := omega) only [fX12_isBegun_L67, ↓B1_bp, ↓B2_bp, BP_some, BQ_some, ↓reduceIte, L_0, L_1, L_2, L_3, L_4, L_5, L_6, L_7, L_8, L_9, L_10, L_11, L_12, L_13, L_54, L_14, L_99, L_20, L_30, L_31, L_60, L_19, i2_add, i2_sub, i2_mul, i2_neg, Int.reduceAdd, Int.reduceSub, Int.reduceMul, Int.reduceNeg, Int.reduceLT, Int.reduceLE, Int.reduceEq, i2_le, i2_lt, i2_eq, uA_self, uA_ne, tf_0, not_true_eq_false, not_false_eq_true, q, if_false, gk_row, gk_m h, m1, m2]
theorem m_bg41 (h : LayM M) (g : GA A) {Z : Int → Int} {k w : Int} (k0 : 0 ≤ k) (k1 : k < A 0) (e : 0 ≤ w ∧ w ≤ 1) : ∀ (d N : Nat) (i : Int) (S : Int → Int), GS S → d < N → 0 ≤ i → i + d = A (12 + w) → fX12_isBegun_L41 164 (i2 k) (i2 w) (i2 (stA A k 6)) (i2 (stA A k 7)) N (i2 i) ((M.row 167 Z).row 165 (putA A k S)) = some (i2 (tf (wayS (lwA A) (wtA A w) (ntA A w) i d S 6 = stA A k 6 ∧ wayS (lwA A) (wtA A w) (ntA A w) i d S 7 = stA A k 7)), (M.row 167 Z).row 165 (mx Z (putA A k (wayS (lwA A) (wtA A w) (ntA A w) i d S)) 158)) := by
  have g0 := g.1
  have gc := g_wcnt g e
  have gk7 := (g.2.2.2.2.2.2.2 k k0 k1).2.2.2.2.2.2.1
  have hm : LayM (M.row 167 Z) := h
  intro d
  induction d with
  | zero =>
    intro N i S gs hN i0 hi
    obtain ⟨N, rfl⟩ : ∃ k, N = k + 1 := ⟨N - 1, by omega⟩
    have q : A (12 + w) ≤ i := by omega
    have r7 : alI ((M.row 167 Z).row 165 (putA A k S)) 165 (i2 (12 + w)) = some (i2 (A (12 + w))) := by
      rw [m_al hm (by omega) (by omega), put_lo k0 (by omega)]
    have a6 := m_itsP (A := A) (S := S) hm k0 (show k < 8 by omega) (w := 6) (by decide) (by decide)
    have a7 := m_itsP (A := A) (S := S) hm k0 (show k < 8 by omega) (w := 7) (by decide) (by decide)
    have lb := m_laysBack (X := Z) (A := putA A k S) h
    have s7 := gs.2.2.2.2.2.2.1
    show _ = some (i2 (tf (S 6 = stA A k 6 ∧ S 7 = stA A k 7)), (M.row 167 Z).row 165 (mx Z (putA A k S) 158))
    clear gs
    by_cases q6 : S 6 = stA A k 6
    · by_cases q7 : S 7 = stA A k 7
      · rw [tf_t ⟨q6, q7⟩]
        simp -dsimp (disch := omega) only [fX12_isBegun_L41, ↓B1_bp, ↓B2_bp, BP_some, BQ_some, ↓reduceIte, L_0, L_1, L_2, L_3, L_4, L_5, L_6, L_7, L_8, L_9, L_10, L_11, L_12, L_13, L_54, L_14, L_99, L_20, L_30, L_31, L_60, L_19, i2_add, i2_sub, i2_mul, i2_neg, Int.reduceAdd, Int.reduceSub, Int.reduceMul, Int.reduceNeg, Int.reduceLT, Int.reduceLE, Int.reduceEq, i2_le, i2_lt, i2_eq, uA_self, uA_ne, tf_0, not_true_eq_false, not_false_eq_true, rdN_row, rdm0 hm, gk_row, gk_m hm, r7, q, if_true, a6, a7, q6, q7, lb]
      · rw [tf_f (fun z => q7 z.2)]
        simp -dsimp (disch := omega) only [fX12_isBegun_L41, ↓B1_bp, ↓B2_bp, BP_some, BQ_some, ↓reduceIte, L_0, L_1, L_2, L_3, L_4, L_5, L_6, L_7, L_8, L_9, L_10, L_11, L_12, L_13, L_54, L_14, L_99, L_20, L_30, L_31, L_60, L_19, i2_add, i2_sub, i2_mul, i2_neg, Int.reduceAdd, Int.reduceSub, Int.reduceMul, Int.reduceNeg, Int.reduceLT, Int.reduceLE, Int.reduceEq, i2_le, i2_lt, i2_eq, uA_self, uA_ne, tf_0, not_true_eq_false, not_false_eq_true, rdN_row, rdm0 hm, gk_row, gk_m hm, r7, q, if_true, if_false, a6, a7, q6, q7, lb]
    · rw [tf_f (fun z => q6 z.1)]
      simp -dsimp (disch := omega) only [fX12_isBegun_L41, ↓B1_bp, ↓B2_bp, BP_some, BQ_some, ↓reduceIte, L_0, L_1, L_2, L_3, L_4, L_5, L_6, L_7, L_8, L_9, L_10, L_11, L_12, L_13, L_54, L_14, L_99, L_20, L_30, L_31, L_60, L_19, i2_add, i2_sub, i2_mul, i2_neg, Int.reduceAdd, Int.reduceSub, Int.reduceMul, Int.reduceNeg, Int.reduceLT, Int.reduceLE, Int.reduceEq, i2_le, i2_lt, i2_eq, uA_self, uA_ne, tf_0, not_true_eq_false, not_false_eq_true, rdN_row, rdm0 hm, gk_row, gk_m hm, r7, q, if_true, if_false, a6, a7, q6, lb]
  | succ d ih =>
    intro N i S gs hN i0 hi
    obtain ⟨N, rfl⟩ : ∃ k, N = k + 1 := ⟨N - 1, by omega⟩
    have q : ¬ A (12 + w) ≤ i := by omega
    have i1 : i < A (12 + w) := by omega
    obtain ⟨h10, hw, hn⟩ := GA.leg g e.1 (by omega) i0 i1
    have r7 : alI ((M.row 167 Z).row 165 (putA A k S)) 165 (i2 (12 + w)) = some (i2 (A (12 + w))) := by
      rw [m_al hm (by omega) (by omega), put_lo k0 (by omega)]
    have tm := m_timesOf (A := putA A k S) hm (g.put k0 gs) e.1 (show w < 2 by omega) i0 (by rw [put_lo k0 (by omega)]; exact i1)
    rw [(wt_put k0 e.2 h10).1, (wt_put k0 e.2 h10).2] at tm
    have tb : (if wtA A w i = 2 then 1 else ntA A w i) ≤ 60 ∧ 0 ≤ (if wtA A w i = 2 then 1 else ntA A w i) := by
      split <;> omega
    have b67 := m_bg67 (kk := fun X => fX12_isBegun_L41 164 (i2 k) (i2 w) (i2 (stA A k 6)) (i2 (stA A k 7)) N (i2 i + 1) X) (v5 := i2 (stA A k 6)) (v6 := i2 (stA A k 7)) hm g k0 k1 e i0 i1 (tm := if wtA A w i = 2 then 1 else ntA A w i) tb.1 (if wtA A w i = 2 then 1 else ntA A w i).toNat FL 0 S gs (by show _ < 4096; omega) (by decide) (by omega)
    have el : it (mvS (lwA A) (wtA A w i)) (if wtA A w i = 2 then 1 else ntA A w i).toNat S = legS (lwA A) (wtA A w i) (ntA A w i) S := by
      unfold legS
      split <;> rfl
    rw [el] at b67
    have j := ih N (i + 1) _ (gs.leg (what := wtA A w i) (n := ntA A w i) g.2.2.2.2.2.1) (by omega) (by omega) (by omega)
    show _ = some (i2 (tf (wayS (lwA A) (wtA A w) (ntA A w) (i + 1) d (legS (lwA A) (wtA A w i) (ntA A w i) S) 6 = stA A k 6 ∧ wayS (lwA A) (wtA A w) (ntA A w) (i + 1) d (legS (lwA A) (wtA A w i) (ntA A w i) S) 7 = stA A k 7)), (M.row 167 Z).row 165 (mx Z (putA A k (wayS (lwA A) (wtA A w) (ntA A w) (i + 1) d (legS (lwA A) (wtA A w i) (ntA A w i) S))) 158))
    rw [← j]
    have u : fX12_isBegun_L41 164 (i2 k) (i2 w) (i2 (stA A k 6)) (i2 (stA A k 7)) (N + 1) (i2 i) ((M.row 167 Z).row 165 (putA A k S)) = B1 (rdN ((M.row 167 Z).row 165 (putA A k S)) 164 15 0) fun a => B1 (alI ((M.row 167 Z).row 165 (putA A k S)) a (12 + i2 w)) fun y => if y ≤ i2 i then (B1 (gk ((M.row 167 Z).row 165 (putA A k S)) 164 15) fun _ => B1 (fX12_its ((M.row 167 Z).row 165 (putA A k S)) 164 (i2 k) 6) fun x => if x = i2 (stA A k 6) then (B1 (gk ((M.row 167 Z).row 165 (putA A k S)) 164 15) fun _ => B1 (fX12_its ((M.row 167 Z).row 165 (putA A k S)) 164 (i2 k) 7) fun x => if x = i2 (stA A k 7) then (B1 (gk ((M.row 167 Z).row 165 (putA A k S)) 164 15) fun _ => B1 (fX12_laysBack ((M.row 167 Z).row 165 (putA A k S)) 164) fun M' => some (1, M')) else (B1 (gk ((M.row 167 Z).row 165 (putA A k S)) 164 15) fun _ => B1 (fX12_laysBack ((M.row 167 Z).row 165 (putA A k S)) 164) fun M' => some (0, M'))) else (B1 (gk ((M.row 167 Z).row 165 (putA A k S)) 164 15) fun _ => B1 (fX12_laysBack ((M.row 167 Z).row 165 (putA A k S)) 164) fun M' => some (0, M'))) else (B1 (gk ((M.row 167 Z).row 165 (putA A k S)) 164 15) fun _ => B1 (fX12_timesOf ((M.row 167 Z).row 165 (putA A k S)) 164 (i2 w) (i2 i)) fun x => fX12_isBegun_L67 (fun X => fX12_isBegun_L41 164 (i2 k) (i2 w) (i2 (stA A k 6)) (i2 (stA A k 7)) N (i2 i + 1) X) 164 (i2 k) (i2 w) (i2 (stA A k 6)) (i2 (stA A k 7)) (i2 i) x FL 0 ((M.row 167 Z).row 165 (putA A k S))) := rfl
    rw [u, rdN_row, rdm0 hm, B1_some, L_12, i2_add, r7, B1_some, if_neg (by rw [i2_le (by omega) (by omega) (by omega) (by omega)]; exact q), gk_row, gk_m hm, B1_some, tm, B1_some, L_0, b67, L_1, i2_add]
theorem m_isBegun (h : LayM M) (g : GA A) {k w i r : Int} (k0 : 0 ≤ k) (k1 : k < A 0) (e : 0 ≤ w ∧ w ≤ 1) (i0 : 0 ≤ i) (i9 : i ≤ A (12 + w)) (r0 : 0 ≤ r) (r9 : r ≤ 99) : ∃ Z R, fX12_isBegun (M.row 165 A) 164 (i2 k) (i2 w) (i2 r) (i2 i) = some (i2 (bgV A k w i r), (M.row 167 Z).row 165 R) ∧ E158 R A := by
  have g0 := g.1
  have gs := g.2.2.2.2.2.2.2 k k0 k1
  have gc := g_wcnt g e
  have la := m_lends (A := A) h
  have hm2 : LayM (M.row 167 (mx A (gI M 167) 158)) := h
  have a6 := m_st (A := A) h k0 (show k < 8 by omega) (w := 6) (by decide) (by decide)
  have a7 := m_st (A := A) h k0 (show k < 8 by omega) (w := 7) (by decide) (by decide)
  have p8 := m_setP (A := A) hm2 k0 (show k < 8 by omega) (w := 8) (v := 0) (by decide) (by decide)
  have pl := m_ladder (A := A) (S := uA (stA A k) 8 0) (a := r) (b := r) hm2 k0 (show k < 8 by omega)
  have lp := m_bg41 (Z := mx A (gI M 167) 158) h g k0 k1 e (A (12 + w) - i).toNat FL i (bg0 (stA A k) r) (bg0_gs gs r0 r9) (by show _ < 4096; omega) i0 (by omega)
  refine ⟨mx A (gI M 167) 158, _, ?_, e_back (Z := gI M 167) (R := putA A k (wayS (lwA A) (wtA A w) (ntA A w) i (A (12 + w) - i).toNat (bg0 (stA A k) r)))⟩
  change _ = some (i2 (bgV A k w i r), _) at lp
  have hm := h
  unfold fX12_isBegun
  simp -dsimp (disch := omega) only [↓B1_bp, ↓B2_bp, BP_some, BQ_some, ↓reduceIte, gk_row, rdN_row, alN_row, alN__row, gk_m hm, rdm0 hm, rdm1 hm, rdm2 hm, rdm3 hm, L_0, L_1, L_2, L_3, L_4, L_5, L_6, L_7, L_8, L_9, L_10, L_11, L_12, L_13, L_54, L_14, L_99, L_20, L_30, L_31, L_60, L_19, i2_add, i2_sub, i2_mul, i2_neg, Int.reduceAdd, Int.reduceSub, Int.reduceMul, Int.reduceNeg, Int.reduceLT, Int.reduceLE, Int.reduceEq, i2_le, i2_lt, i2_eq, J_0, J_1, J_2, J_3, J_5, J_7, J_8, J_9, J_10, J_13, J_15, J_30, J_60, J_99, J_100, J_999, J_n1, i2_j2, m_in, tf_0, not_true_eq_false, not_false_eq_true, m_al hm, L_15, L_40, L_100, L_101, L_190, L_200, L_999, uA_self, and_self, if_true, if_false, and_true, true_and, and_false, false_and, a6, a7, la, gk_m hm2, p8, pl]
  exact lp
/-- searches -/
def sD (f : Int → Int) : Nat → Int → Int
  | 0, _ => -3
  | d + 1, i => if f i = 0 then sD f d (i + -1) else i
def sU (f : Int → Int) : Nat → Int → Int
  | 0, _ => -3
  | d + 1, i => if f i = 0 then sU f d (i + 1) else i
theorem c_since_L (g : GA A) {k : Nat} {w r : Int} (hk : (k : Int) < A 0) (e : 0 ≤ w ∧ w ≤ 1) (r0 : 0 ≤ r) (r9 : r ≤ 99) (hl : 0 ≤ stA A k 6) : ∀ (d N : Nat) (X : Mm) (i : Int), LayC X → CR X 1 A → d < N → i + 1 = d → i ≤ A (12 + w) → ∃ X', fX11_since_L57 0 (i2 r) (1 + 11 + 3 * k) (1 + 5 + 3 * w.toNat) N (i2 i) X = some (i2 (sD (fun i => bgV A k w i r) d i), X') ∧ SmP BgP X X' := by
  have gc := g_wcnt g e
  intro d
  induction d with
  | zero =>
    intro N X i h c hN hi i9
    obtain ⟨N, rfl⟩ : ∃ k, N = k + 1 := ⟨N - 1, by omega⟩
    have q : i < 0 := by omega
    refine ⟨X, ?_, SmP.rf _ _⟩
    simp -dsimp (disch := omega) only [fX11_since_L57, ↓B1_bp, ↓B2_bp, BP_some, BQ_some, ↓reduceIte, L_0, L_1, L_2, L_3, L_4, L_5, L_6, L_7, L_8, L_9, L_10, L_11, L_12, L_13, L_54, L_14, L_99, L_20, L_30, L_31, L_60, L_19, i2_add, i2_sub, i2_mul, i2_neg, Int.reduceAdd, Int.reduceSub, Int.reduceMul, Int.reduceNeg, Int.reduceLT, Int.reduceLE, Int.reduceEq, i2_le, i2_lt, i2_eq, uA_self, uA_ne, tf_0, not_true_eq_false, not_false_eq_true, q, if_true]
    rfl
  | succ d ih =>
    intro N X i h c hN hi i9
    obtain ⟨N, rfl⟩ : ∃ k, N = k + 1 := ⟨N - 1, by omega⟩
    have q : ¬ i < 0 := by omega
    obtain ⟨X1, p1, s1⟩ := c_hasBegun h c g hk e (i := i) (r := r) (by omega) i9 r0 r9 hl
    have tg := t_gk h
    show ∃ X', _ = some (i2 (if bgV A k w i r = 0 then _ else i), X') ∧ _
    rcases bgV_01 A k w i r with z | z
    · obtain ⟨X2, j1, j2⟩ := ih N X1 (i + -1) (h.sm s1) (BgP.cr s1 g c) (by omega) (by omega) (by omega)
      rw [z] at p1
      refine ⟨X2, ?_, s1.tr j2⟩
      rw [if_pos z, ← j1]
      clear ih j1 j2 g c
      simp -dsimp (disch := omega) only [fX11_since_L57, ↓B1_bp, ↓B2_bp, BP_some, BQ_some, ↓reduceIte, L_0, L_1, L_2, L_3, L_4, L_5, L_6, L_7, L_8, L_9, L_10, L_11, L_12, L_13, L_54, L_14, L_99, L_20, L_30, L_31, L_60, L_19, i2_add, i2_sub, i2_mul, i2_neg, Int.reduceAdd, Int.reduceSub, Int.reduceMul, Int.reduceNeg, Int.reduceLT, Int.reduceLE, Int.reduceEq, i2_le, i2_lt, i2_eq, uA_self, uA_ne, tf_0, not_true_eq_false, not_false_eq_true, q, if_false, tg, p1]
    · rw [z] at p1
      refine ⟨X1, ?_, s1⟩
      rw [if_neg (by rw [z]; decide)]
      clear ih g c
      simp -dsimp (disch := omega) only [fX11_since_L57, ↓B1_bp, ↓B2_bp, BP_some, BQ_some, ↓reduceIte, L_0, L_1, L_2, L_3, L_4, L_5, L_6, L_7, L_8, L_9, L_10, L_11, L_12, L_13, L_54, L_14, L_99, L_20, L_30, L_31, L_60, L_19, i2_add, i2_sub, i2_mul, i2_neg, Int.reduceAdd, Int.reduceSub, Int.reduceMul, Int.reduceNeg, Int.reduceLT, Int.reduceLE, Int.reduceEq, i2_le, i2_lt, i2_eq, uA_self, uA_ne, tf_0, not_true_eq_false, not_false_eq_true, q, if_false, tg, p1]
theorem c_from_L (g : GA A) {k : Nat} {w i : Int} (hk : (k : Int) < A 0) (e : 0 ≤ w ∧ w ≤ 1) (i0 : 0 ≤ i) (i9 : i ≤ A (12 + w)) (hl : 0 ≤ stA A k 6) : ∀ (d N : Nat) (X : Mm) (r : Int), LayC X → CR X 1 A → d < N → 0 ≤ r → r + d = stA A k 7 + 1 → ∃ X', fX11_from_L63 0 (i2 i) (1 + 11 + 3 * k) (1 + 5 + 3 * w.toNat) N (i2 r) X = some (i2 (sU (fun r => bgV A k w i r) d r), X') ∧ SmP BgP X X' := by
  have gc := g_wcnt g e
  have gs := g.2.2.2.2.2.2.2 k (by omega) hk
  have g7 := gs.2.2.2.2.2.2.1
  intro d
  induction d with
  | zero =>
    intro N X r h c hN r0 hr
    obtain ⟨N, rfl⟩ : ∃ k, N = k + 1 := ⟨N - 1, by omega⟩
    obtain ⟨-, ⟨-, -, -, F7⟩, -⟩ := d_fld (t_d1 h) c g hk
    rw [cl_n _ (by omega)] at F7
    have q : stA A k 7 < r := by omega
    refine ⟨X, ?_, SmP.rf _ _⟩
    clear g gs
    simp -dsimp (disch := omega) only [fX11_from_L63, ↓B1_bp, ↓B2_bp, BP_some, BQ_some, ↓reduceIte, L_0, L_1, L_2, L_3, L_4, L_5, L_6, L_7, L_8, L_9, L_10, L_11, L_12, L_13, L_54, L_14, L_99, L_20, L_30, L_31, L_60, L_19, i2_add, i2_sub, i2_mul, i2_neg, Int.reduceAdd, Int.reduceSub, Int.reduceMul, Int.reduceNeg, Int.reduceLT, Int.reduceLE, Int.reduceEq, i2_le, i2_lt, i2_eq, uA_self, uA_ne, tf_0, not_true_eq_false, not_false_eq_true, F7, q, if_true]
    rfl
  | succ d ih =>
    intro N X r h c hN r0 hr
    obtain ⟨N, rfl⟩ : ∃ k, N = k + 1 := ⟨N - 1, by omega⟩
    obtain ⟨-, ⟨-, -, -, F7⟩, -⟩ := d_fld (t_d1 h) c g hk
    rw [cl_n _ (by omega)] at F7
    have q : ¬ stA A k 7 < r := by omega
    obtain ⟨X1, p1, s1⟩ := c_hasBegun h c g hk e (i := i) (r := r) i0 i9 r0 (by omega) hl
    have tg := t_gk h
    show ∃ X', _ = some (i2 (if bgV A k w i r = 0 then _ else r), X') ∧ _
    rcases bgV_01 A k w i r with z | z
    · obtain ⟨X2, j1, j2⟩ := ih N X1 (r + 1) (h.sm s1) (BgP.cr s1 g c) (by omega) (by omega) (by omega)
      rw [z] at p1
      refine ⟨X2, ?_, s1.tr j2⟩
      rw [if_pos z, ← j1]
      clear ih j1 j2 g gs c
      simp -dsimp (disch := omega) only [fX11_from_L63, ↓B1_bp, ↓B2_bp, BP_some, BQ_some, ↓reduceIte, L_0, L_1, L_2, L_3, L_4, L_5, L_6, L_7, L_8, L_9, L_10, L_11, L_12, L_13, L_54, L_14, L_99, L_20, L_30, L_31, L_60, L_19, i2_add, i2_sub, i2_mul, i2_neg, Int.reduceAdd, Int.reduceSub, Int.reduceMul, Int.reduceNeg, Int.reduceLT, Int.reduceLE, Int.reduceEq, i2_le, i2_lt, i2_eq, uA_self, uA_ne, tf_0, not_true_eq_false, not_false_eq_true, F7, q, if_false, tg, p1]
    · rw [z] at p1
      refine ⟨X1, ?_, s1⟩
      rw [if_neg (by rw [z]; decide)]
      clear ih g gs c
      simp -dsimp (disch := omega) only [fX11_from_L63, ↓B1_bp, ↓B2_bp, BP_some, BQ_some, ↓reduceIte, L_0, L_1, L_2, L_3, L_4, L_5, L_6, L_7, L_8, L_9, L_10, L_11, L_12, L_13, L_54, L_14, L_99, L_20, L_30, L_31, L_60, L_19, i2_add, i2_sub, i2_mul, i2_neg, Int.reduceAdd, Int.reduceSub, Int.reduceMul, Int.reduceNeg, Int.reduceLT, Int.reduceLE, Int.reduceEq, i2_le, i2_lt, i2_eq, uA_self, uA_ne, tf_0, not_true_eq_false, not_false_eq_true, F7, q, if_false, tg, p1]
theorem m_since_L (h : LayM M) (g : GA A) {k w r : Int} (k0 : 0 ≤ k) (k1 : k < A 0) (e : 0 ≤ w ∧ w ≤ 1) (r0 : 0 ≤ r) (r9 : r ≤ 99) : ∀ (d N : Nat) (Z R : Int → Int) (i : Int), E158 R A → d < N → i + 1 = d → i ≤ A (12 + w) → ∃ Z' R', fX12_since_L47 164 (i2 k) (i2 w) (i2 r) N (i2 i) ((M.row 167 Z).row 165 R) = some (i2 (sD (fun i => bgV A k w i r) d i), (M.row 167 Z').row 165 R') ∧ E158 R' A := by
  have g0 := g.1
  have gc := g_wcnt g e
  intro d
  induction d with
  | zero =>
    intro N Z R i hR hN hi i9
    obtain ⟨N, rfl⟩ : ∃ k, N = k + 1 := ⟨N - 1, by omega⟩
    have q : i < 0 := by omega
    have q2 : ¬ 0 ≤ i := by omega
    refine ⟨Z, R, ?_, hR⟩
    simp -dsimp (disch := omega) only [fX12_since_L47, ↓B1_bp, ↓B2_bp, BP_some, BQ_some, ↓reduceIte, L_0, L_1, L_2, L_3, L_4, L_5, L_6, L_7, L_8, L_9, L_10, L_11, L_12, L_13, L_54, L_14, L_99, L_20, L_30, L_31, L_60, L_19, i2_add, i2_sub, i2_mul, i2_neg, Int.reduceAdd, Int.reduceSub, Int.reduceMul, Int.reduceNeg, Int.reduceLT, Int.reduceLE, Int.reduceEq, i2_le, i2_lt, i2_eq, uA_self, uA_ne, tf_0, not_true_eq_false, not_false_eq_true, q, q2, if_true, if_false]
    rfl
  | succ d ih =>
    intro N Z R i hR hN hi i9
    obtain ⟨N, rfl⟩ : ∃ k, N = k + 1 := ⟨N - 1, by omega⟩
    have q : ¬ i < 0 := by omega
    have q2 : 0 ≤ i := by omega
    have hm : LayM (M.row 167 Z) := h
    have gR := g.e hR
    have ea : ∀ y : Int, 0 ≤ y → y < 158 → R y = A y := hR
    obtain ⟨Z1, R1, p1, p2⟩ := m_isBegun (A := R) hm gR k0 (by rw [ea 0 (by decide) (by decide)]; exact k1) e (i := i) q2 (by rw [ea _ (by omega) (by omega)]; exact i9) r0 r9
    rw [bgV_e hR g k0 k1 e q2 i9, row_row] at p1
    have hR1 : E158 R1 A := fun y a b => (p2 y a b).trans (hR y a b)
    show ∃ Z' R', _ = some (i2 (if bgV A k w i r = 0 then _ else i), _) ∧ _
    rcases bgV_01 A k w i r with z | z
    · obtain ⟨Z2, R2, j1, j2⟩ := ih N Z1 R1 (i + -1) hR1 (by omega) (by omega) (by omega)
      rw [z] at p1
      refine ⟨Z2, R2, ?_, j2⟩
      rw [if_pos z, ← j1]
      clear ih j1 j2 g gR hR hR1 p2
      simp -dsimp (disch := omega) only [fX12_since_L47, ↓B1_bp, ↓B2_bp, BP_some, BQ_some, ↓reduceIte, L_0, L_1, L_2, L_3, L_4, L_5, L_6, L_7, L_8, L_9, L_10, L_11, L_12, L_13, L_54, L_14, L_99, L_20, L_30, L_31, L_60, L_19, i2_add, i2_sub, i2_mul, i2_neg, Int.reduceAdd, Int.reduceSub, Int.reduceMul, Int.reduceNeg, Int.reduceLT, Int.reduceLE, Int.reduceEq, i2_le, i2_lt, i2_eq, uA_self, uA_ne, tf_0, not_true_eq_false, not_false_eq_true, q, if_false, gk_row, gk_m hm, p1]
    · rw [z] at p1
      refine ⟨Z1, R1, ?_, hR1⟩
      rw [if_neg (by rw [z]; decide)]
      clear ih g gR hR hR1 p2
      simp -dsimp (disch := omega) only [fX12_since_L47, ↓B1_bp, ↓B2_bp, BP_some, BQ_some, ↓reduceIte, L_0, L_1, L_2, L_3, L_4, L_5, L_6, L_7, L_8, L_9, L_10, L_11, L_12, L_13, L_54, L_14, L_99, L_20, L_30, L_31, L_60, L_19, i2_add, i2_sub, i2_mul, i2_neg, Int.reduceAdd, Int.reduceSub, Int.reduceMul, Int.reduceNeg, Int.reduceLT, Int.reduceLE, Int.reduceEq, i2_le, i2_lt, i2_eq, uA_self, uA_ne, tf_0, not_true_eq_false, not_false_eq_true, q, if_false, gk_row, gk_m hm, p1, q2, if_true]
theorem m_from_L (h : LayM M) (g : GA A) {k w i : Int} (k0 : 0 ≤ k) (k1 : k < A 0) (e : 0 ≤ w ∧ w ≤ 1) (i0 : 0 ≤ i) (i9 : i ≤ A (12 + w)) : ∀ (d N : Nat) (Z R : Int → Int) (r : Int), E158 R A → d < N → 0 ≤ r → r + d = 100 → ∃ Z' R', fX12_from_L35 164 (i2 k) (i2 w) (i2 i) N (i2 r) ((M.row 167 Z).row 165 R) = some (i2 (sU (fun r => bgV A k w i r) d r), (M.row 167 Z').row 165 R') ∧ E158 R' A := by
  have g0 := g.1
  have gc := g_wcnt g e
  intro d
  induction d with
  | zero =>
    intro N Z R r hR hN r0 hr
    obtain ⟨N, rfl⟩ : ∃ k, N = k + 1 := ⟨N - 1, by omega⟩
    have q : 100 ≤ r := by omega
    refine ⟨Z, R, ?_, hR⟩
    simp -dsimp (disch := omega) only [fX12_from_L35, ↓B1_bp, ↓B2_bp, BP_some, BQ_some, ↓reduceIte, L_0, L_1, L_2, L_3, L_4, L_5, L_6, L_7, L_8, L_9, L_10, L_11, L_12, L_13, L_54, L_14, L_99, L_20, L_30, L_31, L_60, L_19, i2_add, i2_sub, i2_mul, i2_neg, Int.reduceAdd, Int.reduceSub, Int.reduceMul, Int.reduceNeg, Int.reduceLT, Int.reduceLE, Int.reduceEq, i2_le, i2_lt, i2_eq, uA_self, uA_ne, tf_0, not_true_eq_false, not_false_eq_true, L_100, q, if_true]
    rfl
  | succ d ih =>
    intro N Z R r hR hN r0 hr
    obtain ⟨N, rfl⟩ : ∃ k, N = k + 1 := ⟨N - 1, by omega⟩
    have q : ¬ 100 ≤ r := by omega
    have hm : LayM (M.row 167 Z) := h
    have gR := g.e hR
    have ea : ∀ y : Int, 0 ≤ y → y < 158 → R y = A y := hR
    obtain ⟨Z1, R1, p1, p2⟩ := m_isBegun (A := R) hm gR k0 (by rw [ea 0 (by decide) (by decide)]; exact k1) e (i := i) i0 (by rw [ea _ (by omega) (by omega)]; exact i9) r0 (by omega)
    rw [bgV_e hR g k0 k1 e i0 i9, row_row] at p1
    have hR1 : E158 R1 A := fun y a b => (p2 y a b).trans (hR y a b)
    show ∃ Z' R', _ = some (i2 (if bgV A k w i r = 0 then _ else r), _) ∧ _
    rcases bgV_01 A k w i r with z | z
    · obtain ⟨Z2, R2, j1, j2⟩ := ih N Z1 R1 (r + 1) hR1 (by omega) (by omega) (by omega)
      rw [z] at p1
      refine ⟨Z2, R2, ?_, j2⟩
      rw [if_pos z, ← j1]
      clear ih j1 j2 g gR hR hR1 p2
      simp -dsimp (disch := omega) only [fX12_from_L35, ↓B1_bp, ↓B2_bp, BP_some, BQ_some, ↓reduceIte, L_0, L_1, L_2, L_3, L_4, L_5, L_6, L_7, L_8, L_9, L_10, L_11, L_12, L_13, L_54, L_14, L_99, L_20, L_30, L_31, L_60, L_19, i2_add, i2_sub, i2_mul, i2_neg, Int.reduceAdd, Int.reduceSub, Int.reduceMul, Int.reduceNeg, Int.reduceLT, Int.reduceLE, Int.reduceEq, i2_le, i2_lt, i2_eq, uA_self, uA_ne, tf_0, not_true_eq_false, not_false_eq_true, L_100, q, if_false, gk_row, gk_m hm, p1]
    · rw [z] at p1
      refine ⟨Z1, R1, ?_, hR1⟩
      rw [if_neg (by rw [z]; decide)]
      clear ih g gR hR hR1 p2
      simp -dsimp (disch := omega) only [fX12_from_L35, ↓B1_bp, ↓B2_bp, BP_some, BQ_some, ↓reduceIte, L_0, L_1, L_2, L_3, L_4, L_5, L_6, L_7, L_8, L_9, L_10, L_11, L_12, L_13, L_54, L_14, L_99, L_20, L_30, L_31, L_60, L_19, i2_add, i2_sub, i2_mul, i2_neg, Int.reduceAdd, Int.reduceSub, Int.reduceMul, Int.reduceNeg, Int.reduceLT, Int.reduceLE, Int.reduceEq, i2_le, i2_lt, i2_eq, uA_self, uA_ne, tf_0, not_true_eq_false, not_false_eq_true, L_100, q, if_false, gk_row, gk_m hm, p1]
theorem sU_skip {f : Int → Int} : ∀ (n d : Nat) (r : Int), (∀ x, r ≤ x → x < r + n → f x = 0) → sU f (n + d) r = sU f d (r + n)
  | 0, d, r, _ => by rw [Nat.zero_add, show r + ((0 : Nat) : Int) = r from Int.add_zero r]
  | n + 1, d, r, h => by
    rw [show n + 1 + d = (n + d) + 1 by omega]
    show (if f r = 0 then sU f (n + d) (r + 1) else r) = _
    rw [if_pos (h r (by omega) (by omega)), sU_skip n d (r + 1) fun x a b => h x (by omega) (by omega)]
    congr 1
    omega
theorem sU_end {f : Int → Int} : ∀ (d n : Nat) (r : Int), (∀ x, r + d ≤ x → x < r + d + n → f x = 0) → sU f (d + n) r = sU f d r
  | 0, n, r, h => by
    rw [Nat.zero_add, show n = n + 0 from rfl, sU_skip n 0 r fun x a b => h x (by omega) (by omega)]
    rfl
  | d + 1, n, r, h => by
    rw [show d + 1 + n = (d + n) + 1 by omega]
    show (if f r = 0 then sU f (d + n) (r + 1) else r) = (if f r = 0 then sU f d (r + 1) else r)
    rw [sU_end d n (r + 1) fun x a b => h x (by omega) (by omega)]
theorem op_since (h : LayC M) (hm : LayM M) (c : CR M 1 A) (g : GA A) (ha : M.g 165 = rI A) {x y z : Int} (x0 : -2147483648 ≤ x) (x1 : x < 2147483648) (y0 : -2147483648 ≤ y) (y1 : y < 2147483648) (z0 : -2147483648 ≤ z) (z1 : z < 2147483648) (hi : Inv M) : Op M (fun M => fX11_since M 0 (i2 x) (i2 y) (i2 z)) (fun M => fX12_since M 164 (i2 x) (i2 y) (i2 z)) := by
  have g0 := g.1
  have q2 := c_stockingAt (t_d1 h) c g x0 x1
  have q1 := c_wayAt (t_d1 h) y0 y1
  have q3 := c_isRung M z0 z1
  have a1 := m_isOne (A := A) hm g x0 x1
  have a2 := m_isTwo (M.row 165 A) y0 y1
  have a3 := m_isRung (M.row 165 A) z0 z1
  by_cases e : 0 ≤ x ∧ x < A 0
  · have e1 : 0 ≤ x ∧ x ≤ A 0 - 1 := by omega
    have hx : ((x.toNat : Nat) : Int) = x := by omega
    rw [show stAt A 1 x = some (1 + 11 + 3 * x.toNat) from if_pos e] at q2
    rw [tf_t e1] at a1
    by_cases e2 : 0 ≤ y ∧ y ≤ 1
    · rw [if_pos e2] at q1
      rw [tf_t e2] at a2
      have gc := g_wcnt g e2
      have wr := d_wrx (t_d1 h) c g e2
      by_cases e3 : 0 ≤ z ∧ z ≤ 99
      · rw [tf_t e3] at q3 a3
        have gk1 := d_gk10 (t_d1 h) (k := x.toNat) (by omega)
        have hh := d_hasLadder (t_d1 h) c g (k := x.toNat) (by omega)
        have a4 := m_hasL (A := A) hm g e.1 e.2
        rw [hx] at hh
        by_cases p : 0 ≤ stA A x 6
        · rw [tf_t p] at hh a4
          obtain ⟨X, p1, p2⟩ := c_since_L g (k := x.toNat) (w := y) (r := z) (by omega) e2 e3.1 e3.2 (by rw [hx]; exact p) (A (12 + y) + 1).toNat FL M (A (12 + y)) h c (by show _ < 4096; omega) (by omega) (Int.le_refl _)
          rw [hx] at p1
          refine op_T (X := X) (r := i2 (sD (fun i => bgV A x y i z) (A (12 + y) + 1).toNat (A (12 + y)))) hi hm ha g ?_ (BgP.scr p2) (p2.2 165 (by unfold BgP; omega)) (BgP.cr p2 g c) fun Y hY => ?_
          · unfold fX11_since
            simp -dsimp (disch := omega) only [↓B1_bp, ↓B2_bp, BP_some, BQ_some, ↓reduceIte, L_0, L_1, L_2, L_3, L_4, L_5, L_6, L_7, L_8, L_9, L_10, L_11, L_12, L_13, L_54, L_14, L_99, L_20, L_30, L_31, L_60, L_19, i2_add, i2_sub, i2_mul, i2_neg, Int.reduceAdd, Int.reduceSub, Int.reduceMul, Int.reduceNeg, Int.reduceLT, Int.reduceLE, Int.reduceEq, i2_le, i2_lt, i2_eq, uA_self, uA_ne, tf_0, not_true_eq_false, not_false_eq_true, L_15, L_40, L_100, L_101, L_200, L_999, ↓NL_bp, BNP_none, BNP_some, and_self, if_true, if_false, and_true, true_and, and_false, false_and, t_now h, d_gk (t_d1 h), q2, q1, q3, gk1, hh, wr.2.1, p1]
          · have a1 := m_isOne (A := A) hY g x0 x1
            have a2 := m_isTwo (Y.row 165 A) y0 y1
            have a3 := m_isRung (Y.row 165 A) z0 z1
            have a4 := m_hasL (A := A) hY g e.1 e.2
            rw [tf_t e1] at a1
            rw [tf_t e2] at a2
            rw [tf_t e3] at a3
            rw [tf_t p] at a4
            obtain ⟨Z, R, u1, u2⟩ := m_since_L hY g e.1 e.2 e2 e3.1 e3.2 (A (12 + y) + 1).toNat FL (gI Y 167) A (A (12 + y)) (fun _ _ _ => rfl) (by show _ < 4096; omega) (by omega) (Int.le_refl _)
            rw [row_gI] at u1
            refine ⟨Z, R, ?_, u2⟩
            have hX := hY
            unfold fX12_since
            simp -dsimp (disch := omega) only [↓B1_bp, ↓B2_bp, BP_some, BQ_some, ↓reduceIte, gk_row, rdN_row, alN_row, alN__row, gk_m hX, rdm0 hX, rdm1 hX, rdm2 hX, rdm3 hX, L_0, L_1, L_2, L_3, L_4, L_5, L_6, L_7, L_8, L_9, L_10, L_11, L_12, L_13, L_54, L_14, L_99, L_20, L_30, L_31, L_60, L_19, i2_add, i2_sub, i2_mul, i2_neg, Int.reduceAdd, Int.reduceSub, Int.reduceMul, Int.reduceNeg, Int.reduceLT, Int.reduceLE, Int.reduceEq, i2_le, i2_lt, i2_eq, J_0, J_1, J_2, J_3, J_5, J_7, J_8, J_9, J_10, J_13, J_15, J_30, J_60, J_99, J_100, J_999, J_n1, i2_j2, m_in, tf_0, not_true_eq_false, not_false_eq_true, m_al hX, L_15, L_40, L_100, L_101, L_190, L_200, L_999, uA_self, and_self, if_true, if_false, and_true, true_and, and_false, false_and, a1, a2, a3, a4, u1]
        · rw [tf_f p] at hh a4
          have u : fX12_since_L47 164 (i2 x) (i2 y) (i2 z) FL (i2 (-1)) (M.row 165 A) = some (i2 (-3), M.row 165 A) := rfl
          refine OpR.op hi (opR_keep (r := i2 (-3)) c g ha ?_ ?_)
          · unfold fX11_since
            simp -dsimp (disch := omega) only [↓B1_bp, ↓B2_bp, BP_some, BQ_some, ↓reduceIte, L_0, L_1, L_2, L_3, L_4, L_5, L_6, L_7, L_8, L_9, L_10, L_11, L_12, L_13, L_54, L_14, L_99, L_20, L_30, L_31, L_60, L_19, i2_add, i2_sub, i2_mul, i2_neg, Int.reduceAdd, Int.reduceSub, Int.reduceMul, Int.reduceNeg, Int.reduceLT, Int.reduceLE, Int.reduceEq, i2_le, i2_lt, i2_eq, uA_self, uA_ne, tf_0, not_true_eq_false, not_false_eq_true, L_15, L_40, L_100, L_101, L_200, L_999, ↓NL_bp, BNP_none, BNP_some, and_self, if_true, if_false, and_true, true_and, and_false, false_and, t_now h, d_gk (t_d1 h), q2, q1, q3, gk1, hh]
          · unfold fX12_since
            simp -dsimp (disch := omega) only [↓B1_bp, ↓B2_bp, BP_some, BQ_some, ↓reduceIte, gk_row, rdN_row, alN_row, alN__row, gk_m hm, rdm0 hm, rdm1 hm, rdm2 hm, rdm3 hm, L_0, L_1, L_2, L_3, L_4, L_5, L_6, L_7, L_8, L_9, L_10, L_11, L_12, L_13, L_54, L_14, L_99, L_20, L_30, L_31, L_60, L_19, i2_add, i2_sub, i2_mul, i2_neg, Int.reduceAdd, Int.reduceSub, Int.reduceMul, Int.reduceNeg, Int.reduceLT, Int.reduceLE, Int.reduceEq, i2_le, i2_lt, i2_eq, J_0, J_1, J_2, J_3, J_5, J_7, J_8, J_9, J_10, J_13, J_15, J_30, J_60, J_99, J_100, J_999, J_n1, i2_j2, m_in, tf_0, not_true_eq_false, not_false_eq_true, m_al hm, L_15, L_40, L_100, L_101, L_190, L_200, L_999, uA_self, and_self, if_true, if_false, and_true, true_and, and_false, false_and, a1, a2, a3, a4, u]
      · rw [tf_f e3] at q3 a3
        refine OpR.op hi (opR_keep (r := i2 (-1)) c g ha ?_ ?_)
        · unfold fX11_since
          simp -dsimp (disch := omega) only [↓B1_bp, ↓B2_bp, BP_some, BQ_some, ↓reduceIte, L_0, L_1, L_2, L_3, L_4, L_5, L_6, L_7, L_8, L_9, L_10, L_11, L_12, L_13, L_54, L_14, L_99, L_20, L_30, L_31, L_60, L_19, i2_add, i2_sub, i2_mul, i2_neg, Int.reduceAdd, Int.reduceSub, Int.reduceMul, Int.reduceNeg, Int.reduceLT, Int.reduceLE, Int.reduceEq, i2_le, i2_lt, i2_eq, uA_self, uA_ne, tf_0, not_true_eq_false, not_false_eq_true, L_15, L_40, L_100, L_101, L_200, L_999, ↓NL_bp, BNP_none, BNP_some, and_self, if_true, if_false, and_true, true_and, and_false, false_and, t_now h, d_gk (t_d1 h), q2, q1, q3]
        · unfold fX12_since
          simp -dsimp (disch := omega) only [↓B1_bp, ↓B2_bp, BP_some, BQ_some, ↓reduceIte, gk_row, rdN_row, alN_row, alN__row, gk_m hm, rdm0 hm, rdm1 hm, rdm2 hm, rdm3 hm, L_0, L_1, L_2, L_3, L_4, L_5, L_6, L_7, L_8, L_9, L_10, L_11, L_12, L_13, L_54, L_14, L_99, L_20, L_30, L_31, L_60, L_19, i2_add, i2_sub, i2_mul, i2_neg, Int.reduceAdd, Int.reduceSub, Int.reduceMul, Int.reduceNeg, Int.reduceLT, Int.reduceLE, Int.reduceEq, i2_le, i2_lt, i2_eq, J_0, J_1, J_2, J_3, J_5, J_7, J_8, J_9, J_10, J_13, J_15, J_30, J_60, J_99, J_100, J_999, J_n1, i2_j2, m_in, tf_0, not_true_eq_false, not_false_eq_true, m_al hm, L_15, L_40, L_100, L_101, L_190, L_200, L_999, uA_self, and_self, if_true, if_false, and_true, true_and, and_false, false_and, a1, a2, a3]
    · rw [if_neg e2] at q1
      rw [tf_f e2] at a2
      refine OpR.op hi (opR_keep (r := i2 (-1)) c g ha ?_ ?_)
      · unfold fX11_since
        simp -dsimp (disch := omega) only [↓B1_bp, ↓B2_bp, BP_some, BQ_some, ↓reduceIte, L_0, L_1, L_2, L_3, L_4, L_5, L_6, L_7, L_8, L_9, L_10, L_11, L_12, L_13, L_54, L_14, L_99, L_20, L_30, L_31, L_60, L_19, i2_add, i2_sub, i2_mul, i2_neg, Int.reduceAdd, Int.reduceSub, Int.reduceMul, Int.reduceNeg, Int.reduceLT, Int.reduceLE, Int.reduceEq, i2_le, i2_lt, i2_eq, uA_self, uA_ne, tf_0, not_true_eq_false, not_false_eq_true, L_15, L_40, L_100, L_101, L_200, L_999, ↓NL_bp, BNP_none, BNP_some, and_self, if_true, if_false, and_true, true_and, and_false, false_and, t_now h, d_gk (t_d1 h), q2, q1]
      · unfold fX12_since
        simp -dsimp (disch := omega) only [↓B1_bp, ↓B2_bp, BP_some, BQ_some, ↓reduceIte, gk_row, rdN_row, alN_row, alN__row, gk_m hm, rdm0 hm, rdm1 hm, rdm2 hm, rdm3 hm, L_0, L_1, L_2, L_3, L_4, L_5, L_6, L_7, L_8, L_9, L_10, L_11, L_12, L_13, L_54, L_14, L_99, L_20, L_30, L_31, L_60, L_19, i2_add, i2_sub, i2_mul, i2_neg, Int.reduceAdd, Int.reduceSub, Int.reduceMul, Int.reduceNeg, Int.reduceLT, Int.reduceLE, Int.reduceEq, i2_le, i2_lt, i2_eq, J_0, J_1, J_2, J_3, J_5, J_7, J_8, J_9, J_10, J_13, J_15, J_30, J_60, J_99, J_100, J_999, J_n1, i2_j2, m_in, tf_0, not_true_eq_false, not_false_eq_true, m_al hm, L_15, L_40, L_100, L_101, L_190, L_200, L_999, uA_self, and_self, if_true, if_false, and_true, true_and, and_false, false_and, a1, a2]
  · have e1 : ¬ (0 ≤ x ∧ x ≤ A 0 - 1) := by omega
    rw [show stAt A 1 x = none from if_neg e] at q2
    rw [tf_f e1] at a1
    by_cases e2 : 0 ≤ y ∧ y ≤ 1
    · rw [if_pos e2] at q1
      refine OpR.op hi (opR_keep (r := i2 (-1)) c g ha ?_ ?_)
      · unfold fX11_since
        simp -dsimp (disch := omega) only [↓B1_bp, ↓B2_bp, BP_some, BQ_some, ↓reduceIte, L_0, L_1, L_2, L_3, L_4, L_5, L_6, L_7, L_8, L_9, L_10, L_11, L_12, L_13, L_54, L_14, L_99, L_20, L_30, L_31, L_60, L_19, i2_add, i2_sub, i2_mul, i2_neg, Int.reduceAdd, Int.reduceSub, Int.reduceMul, Int.reduceNeg, Int.reduceLT, Int.reduceLE, Int.reduceEq, i2_le, i2_lt, i2_eq, uA_self, uA_ne, tf_0, not_true_eq_false, not_false_eq_true, L_15, L_40, L_100, L_101, L_200, L_999, ↓NL_bp, BNP_none, BNP_some, and_self, if_true, if_false, and_true, true_and, and_false, false_and, t_now h, d_gk (t_d1 h), q2, q1]
      · unfold fX12_since
        simp -dsimp (disch := omega) only [↓B1_bp, ↓B2_bp, BP_some, BQ_some, ↓reduceIte, gk_row, rdN_row, alN_row, alN__row, gk_m hm, rdm0 hm, rdm1 hm, rdm2 hm, rdm3 hm, L_0, L_1, L_2, L_3, L_4, L_5, L_6, L_7, L_8, L_9, L_10, L_11, L_12, L_13, L_54, L_14, L_99, L_20, L_30, L_31, L_60, L_19, i2_add, i2_sub, i2_mul, i2_neg, Int.reduceAdd, Int.reduceSub, Int.reduceMul, Int.reduceNeg, Int.reduceLT, Int.reduceLE, Int.reduceEq, i2_le, i2_lt, i2_eq, J_0, J_1, J_2, J_3, J_5, J_7, J_8, J_9, J_10, J_13, J_15, J_30, J_60, J_99, J_100, J_999, J_n1, i2_j2, m_in, tf_0, not_true_eq_false, not_false_eq_true, m_al hm, L_15, L_40, L_100, L_101, L_190, L_200, L_999, uA_self, and_self, if_true, if_false, and_true, true_and, and_false, false_and, a1]
    · rw [if_neg e2] at q1
      refine OpR.op hi (opR_keep (r := i2 (-1)) c g ha ?_ ?_)
      · unfold fX11_since
        simp -dsimp (disch := omega) only [↓B1_bp, ↓B2_bp, BP_some, BQ_some, ↓reduceIte, L_0, L_1, L_2, L_3, L_4, L_5, L_6, L_7, L_8, L_9, L_10, L_11, L_12, L_13, L_54, L_14, L_99, L_20, L_30, L_31, L_60, L_19, i2_add, i2_sub, i2_mul, i2_neg, Int.reduceAdd, Int.reduceSub, Int.reduceMul, Int.reduceNeg, Int.reduceLT, Int.reduceLE, Int.reduceEq, i2_le, i2_lt, i2_eq, uA_self, uA_ne, tf_0, not_true_eq_false, not_false_eq_true, L_15, L_40, L_100, L_101, L_200, L_999, ↓NL_bp, BNP_none, BNP_some, and_self, if_true, if_false, and_true, true_and, and_false, false_and, t_now h, d_gk (t_d1 h), q2, q1]
      · unfold fX12_since
        simp -dsimp (disch := omega) only [↓B1_bp, ↓B2_bp, BP_some, BQ_some, ↓reduceIte, gk_row, rdN_row, alN_row, alN__row, gk_m hm, rdm0 hm, rdm1 hm, rdm2 hm, rdm3 hm, L_0, L_1, L_2, L_3, L_4, L_5, L_6, L_7, L_8, L_9, L_10, L_11, L_12, L_13, L_54, L_14, L_99, L_20, L_30, L_31, L_60, L_19, i2_add, i2_sub, i2_mul, i2_neg, Int.reduceAdd, Int.reduceSub, Int.reduceMul, Int.reduceNeg, Int.reduceLT, Int.reduceLE, Int.reduceEq, i2_le, i2_lt, i2_eq, J_0, J_1, J_2, J_3, J_5, J_7, J_8, J_9, J_10, J_13, J_15, J_30, J_60, J_99, J_100, J_999, J_n1, i2_j2, m_in, tf_0, not_true_eq_false, not_false_eq_true, m_al hm, L_15, L_40, L_100, L_101, L_190, L_200, L_999, uA_self, and_self, if_true, if_false, and_true, true_and, and_false, false_and, a1]
theorem op_from (h : LayC M) (hm : LayM M) (c : CR M 1 A) (g : GA A) (ha : M.g 165 = rI A) {x y z : Int} (x0 : -2147483648 ≤ x) (x1 : x < 2147483648) (y0 : -2147483648 ≤ y) (y1 : y < 2147483648) (z0 : -2147483648 ≤ z) (z1 : z < 2147483648) (hi : Inv M) : Op M (fun M => fX11_from M 0 (i2 x) (i2 y) (i2 z)) (fun M => fX12_from M 164 (i2 x) (i2 y) (i2 z)) := by
  have g0 := g.1
  have q2 := c_stockingAt (t_d1 h) c g x0 x1
  have q1 := c_wayAt (t_d1 h) y0 y1
  have a1 := m_isOne (A := A) hm g x0 x1
  by_cases e : 0 ≤ x ∧ x < A 0
  · have e1 : 0 ≤ x ∧ x ≤ A 0 - 1 := by omega
    have hx : ((x.toNat : Nat) : Int) = x := by omega
    rw [show stAt A 1 x = some (1 + 11 + 3 * x.toNat) from if_pos e] at q2
    rw [tf_t e1] at a1
    by_cases e2 : 0 ≤ y ∧ y ≤ 1
    · rw [if_pos e2] at q1
      have gc := g_wcnt g e2
      have wr := d_wrx (t_d1 h) c g e2
      have a2 := m_isWay (A := A) hm g e2.1 e2.2 z0 z1
      by_cases e3 : 0 ≤ z ∧ z ≤ A (12 + y)
      · have te3 : tf (0 ≤ z ∧ z ≤ A (12 + y)) = 1 := tf_t e3
        rw [te3] at a2
        have gk1 := d_gk10 (t_d1 h) (k := x.toNat) (by omega)
        have hh := d_hasLadder (t_d1 h) c g (k := x.toNat) (by omega)
        have a4 := m_hasL (A := A) hm g e.1 e.2
        rw [hx] at hh
        by_cases p : 0 ≤ stA A x 6
        · rw [tf_t p] at hh a4
          have gs := g.2.2.2.2.2.2.2 x e.1 e.2
          have g7 := gs.2.2.2.2.2.2.1
          obtain ⟨-, ⟨-, -, F6, -⟩, -⟩ := d_fld (t_d1 h) c g (k := x.toNat) (by omega)
          rw [hx, cl_n _ p] at F6
          obtain ⟨X, p1, p2⟩ := c_from_L g (k := x.toNat) (w := y) (i := z) (by omega) e2 e3.1 e3.2 (by rw [hx]; exact p) (stA A x 7 + 1 - stA A x 6).toNat FL M (stA A x 6) h c (by show _ < 4096; omega) p (by rw [hx]; omega)
          rw [hx] at p1
          have fin : sU (fun r => bgV A x y z r) 100 0 = sU (fun r => bgV A x y z r) (stA A x 7 + 1 - stA A x 6).toNat (stA A x 6) := by
            have k1 := sU_skip (f := fun r => bgV A x y z r) (stA A x 6).toNat (100 - (stA A x 6).toNat) 0 fun r a b => bgV_out g e.1 e.2 a (by omega) (Or.inl (by omega))
            have k2 := sU_end (f := fun r => bgV A x y z r) (stA A x 7 + 1 - stA A x 6).toNat (99 - stA A x 7).toNat (stA A x 6) fun r a b => bgV_out g e.1 e.2 (by omega) (by omega) (Or.inr (by omega))
            rw [show (stA A x 6).toNat + (100 - (stA A x 6).toNat) = 100 by omega, show (0 : Int) + ((stA A x 6).toNat : Int) = stA A x 6 by omega] at k1
            rw [k1, ← k2]
            congr 1
            omega
          refine op_T (X := X) (r := i2 (sU (fun r => bgV A x y z r) (stA A x 7 + 1 - stA A x 6).toNat (stA A x 6))) hi hm ha g ?_ (BgP.scr p2) (p2.2 165 (by unfold BgP; omega)) (BgP.cr p2 g c) fun Y hY => ?_
          · clear gs
            unfold fX11_from
            simp -dsimp (disch := omega) only [↓B1_bp, ↓B2_bp, BP_some, BQ_some, ↓reduceIte, L_0, L_1, L_2, L_3, L_4, L_5, L_6, L_7, L_8, L_9, L_10, L_11, L_12, L_13, L_54, L_14, L_99, L_20, L_30, L_31, L_60, L_19, i2_add, i2_sub, i2_mul, i2_neg, Int.reduceAdd, Int.reduceSub, Int.reduceMul, Int.reduceNeg, Int.reduceLT, Int.reduceLE, Int.reduceEq, i2_le, i2_lt, i2_eq, uA_self, uA_ne, tf_0, not_true_eq_false, not_false_eq_true, L_15, L_40, L_100, L_101, L_200, L_999, ↓NL_bp, BNP_none, BNP_some, and_self, if_true, if_false, and_true, true_and, and_false, false_and, t_now h, d_gk (t_d1 h), q2, q1, wr.2.1, c_isWithin, te3, gk1, hh, F6, p1]
          · have a1 := m_isOne (A := A) hY g x0 x1
            have a2 := m_isWay (A := A) hY g e2.1 e2.2 z0 z1
            have a4 := m_hasL (A := A) hY g e.1 e.2
            rw [tf_t e1] at a1
            rw [te3] at a2
            rw [tf_t p] at a4
            obtain ⟨Z, R, u1, u2⟩ := m_from_L hY g e.1 e.2 e2 e3.1 e3.2 100 FL (gI Y 167) A 0 (fun _ _ _ => rfl) (by decide) (by decide) (by decide)
            rw [row_gI, fin] at u1
            refine ⟨Z, R, ?_, u2⟩
            have hX := hY
            unfold fX12_from
            simp -dsimp (disch := omega) only [↓B1_bp, ↓B2_bp, BP_some, BQ_some, ↓reduceIte, gk_row, rdN_row, alN_row, alN__row, gk_m hX, rdm0 hX, rdm1 hX, rdm2 hX, rdm3 hX, L_0, L_1, L_2, L_3, L_4, L_5, L_6, L_7, L_8, L_9, L_10, L_11, L_12, L_13, L_54, L_14, L_99, L_20, L_30, L_31, L_60, L_19, i2_add, i2_sub, i2_mul, i2_neg, Int.reduceAdd, Int.reduceSub, Int.reduceMul, Int.reduceNeg, Int.reduceLT, Int.reduceLE, Int.reduceEq, i2_le, i2_lt, i2_eq, J_0, J_1, J_2, J_3, J_5, J_7, J_8, J_9, J_10, J_13, J_15, J_30, J_60, J_99, J_100, J_999, J_n1, i2_j2, m_in, tf_0, not_true_eq_false, not_false_eq_true, m_al hX, L_15, L_40, L_100, L_101, L_190, L_200, L_999, uA_self, and_self, if_true, if_false, and_true, true_and, and_false, false_and, a1, a2, a4, u1]
        · rw [tf_f p] at hh a4
          have u : fX12_from_L35 164 (i2 x) (i2 y) (i2 z) FL (i2 100) (M.row 165 A) = some (i2 (-3), M.row 165 A) := rfl
          refine OpR.op hi (opR_keep (r := i2 (-3)) c g ha ?_ ?_)
          · unfold fX11_from
            simp -dsimp (disch := omega) only [↓B1_bp, ↓B2_bp, BP_some, BQ_some, ↓reduceIte, L_0, L_1, L_2, L_3, L_4, L_5, L_6, L_7, L_8, L_9, L_10, L_11, L_12, L_13, L_54, L_14, L_99, L_20, L_30, L_31, L_60, L_19, i2_add, i2_sub, i2_mul, i2_neg, Int.reduceAdd, Int.reduceSub, Int.reduceMul, Int.reduceNeg, Int.reduceLT, Int.reduceLE, Int.reduceEq, i2_le, i2_lt, i2_eq, uA_self, uA_ne, tf_0, not_true_eq_false, not_false_eq_true, L_15, L_40, L_100, L_101, L_200, L_999, ↓NL_bp, BNP_none, BNP_some, and_self, if_true, if_false, and_true, true_and, and_false, false_and, t_now h, d_gk (t_d1 h), q2, q1, wr.2.1, c_isWithin, te3, gk1, hh]
          · unfold fX12_from
            simp -dsimp (disch := omega) only [↓B1_bp, ↓B2_bp, BP_some, BQ_some, ↓reduceIte, gk_row, rdN_row, alN_row, alN__row, gk_m hm, rdm0 hm, rdm1 hm, rdm2 hm, rdm3 hm, L_0, L_1, L_2, L_3, L_4, L_5, L_6, L_7, L_8, L_9, L_10, L_11, L_12, L_13, L_54, L_14, L_99, L_20, L_30, L_31, L_60, L_19, i2_add, i2_sub, i2_mul, i2_neg, Int.reduceAdd, Int.reduceSub, Int.reduceMul, Int.reduceNeg, Int.reduceLT, Int.reduceLE, Int.reduceEq, i2_le, i2_lt, i2_eq, J_0, J_1, J_2, J_3, J_5, J_7, J_8, J_9, J_10, J_13, J_15, J_30, J_60, J_99, J_100, J_999, J_n1, i2_j2, m_in, tf_0, not_true_eq_false, not_false_eq_true, m_al hm, L_15, L_40, L_100, L_101, L_190, L_200, L_999, uA_self, and_self, if_true, if_false, and_true, true_and, and_false, false_and, a1, a2, a4, u]
      · have te3 : tf (0 ≤ z ∧ z ≤ A (12 + y)) = 0 := tf_f e3
        rw [te3] at a2
        refine OpR.op hi (opR_keep (r := i2 (-1)) c g ha ?_ ?_)
        · unfold fX11_from
          simp -dsimp (disch := omega) only [↓B1_bp, ↓B2_bp, BP_some, BQ_some, ↓reduceIte, L_0, L_1, L_2, L_3, L_4, L_5, L_6, L_7, L_8, L_9, L_10, L_11, L_12, L_13, L_54, L_14, L_99, L_20, L_30, L_31, L_60, L_19, i2_add, i2_sub, i2_mul, i2_neg, Int.reduceAdd, Int.reduceSub, Int.reduceMul, Int.reduceNeg, Int.reduceLT, Int.reduceLE, Int.reduceEq, i2_le, i2_lt, i2_eq, uA_self, uA_ne, tf_0, not_true_eq_false, not_false_eq_true, L_15, L_40, L_100, L_101, L_200, L_999, ↓NL_bp, BNP_none, BNP_some, and_self, if_true, if_false, and_true, true_and, and_false, false_and, t_now h, d_gk (t_d1 h), q2, q1, wr.2.1, c_isWithin, te3]
        · unfold fX12_from
          simp -dsimp (disch := omega) only [↓B1_bp, ↓B2_bp, BP_some, BQ_some, ↓reduceIte, gk_row, rdN_row, alN_row, alN__row, gk_m hm, rdm0 hm, rdm1 hm, rdm2 hm, rdm3 hm, L_0, L_1, L_2, L_3, L_4, L_5, L_6, L_7, L_8, L_9, L_10, L_11, L_12, L_13, L_54, L_14, L_99, L_20, L_30, L_31, L_60, L_19, i2_add, i2_sub, i2_mul, i2_neg, Int.reduceAdd, Int.reduceSub, Int.reduceMul, Int.reduceNeg, Int.reduceLT, Int.reduceLE, Int.reduceEq, i2_le, i2_lt, i2_eq, J_0, J_1, J_2, J_3, J_5, J_7, J_8, J_9, J_10, J_13, J_15, J_30, J_60, J_99, J_100, J_999, J_n1, i2_j2, m_in, tf_0, not_true_eq_false, not_false_eq_true, m_al hm, L_15, L_40, L_100, L_101, L_190, L_200, L_999, uA_self, and_self, if_true, if_false, and_true, true_and, and_false, false_and, a1, a2]
    · rw [if_neg e2] at q1
      have a2 := m_isWayN (M := M.row 165 A) (y := i2 z) y0 y1 e2
      refine OpR.op hi (opR_keep (r := i2 (-1)) c g ha ?_ ?_)
      · unfold fX11_from
        simp -dsimp (disch := omega) only [↓B1_bp, ↓B2_bp, BP_some, BQ_some, ↓reduceIte, L_0, L_1, L_2, L_3, L_4, L_5, L_6, L_7, L_8, L_9, L_10, L_11, L_12, L_13, L_54, L_14, L_99, L_20, L_30, L_31, L_60, L_19, i2_add, i2_sub, i2_mul, i2_neg, Int.reduceAdd, Int.reduceSub, Int.reduceMul, Int.reduceNeg, Int.reduceLT, Int.reduceLE, Int.reduceEq, i2_le, i2_lt, i2_eq, uA_self, uA_ne, tf_0, not_true_eq_false, not_false_eq_true, L_15, L_40, L_100, L_101, L_200, L_999, ↓NL_bp, BNP_none, BNP_some, and_self, if_true, if_false, and_true, true_and, and_false, false_and, t_now h, d_gk (t_d1 h), q2, q1]
      · unfold fX12_from
        simp -dsimp (disch := omega) only [↓B1_bp, ↓B2_bp, BP_some, BQ_some, ↓reduceIte, gk_row, rdN_row, alN_row, alN__row, gk_m hm, rdm0 hm, rdm1 hm, rdm2 hm, rdm3 hm, L_0, L_1, L_2, L_3, L_4, L_5, L_6, L_7, L_8, L_9, L_10, L_11, L_12, L_13, L_54, L_14, L_99, L_20, L_30, L_31, L_60, L_19, i2_add, i2_sub, i2_mul, i2_neg, Int.reduceAdd, Int.reduceSub, Int.reduceMul, Int.reduceNeg, Int.reduceLT, Int.reduceLE, Int.reduceEq, i2_le, i2_lt, i2_eq, J_0, J_1, J_2, J_3, J_5, J_7, J_8, J_9, J_10, J_13, J_15, J_30, J_60, J_99, J_100, J_999, J_n1, i2_j2, m_in, tf_0, not_true_eq_false, not_false_eq_true, m_al hm, L_15, L_40, L_100, L_101, L_190, L_200, L_999, uA_self, and_self, if_true, if_false, and_true, true_and, and_false, false_and, a1, a2]
  · have e1 : ¬ (0 ≤ x ∧ x ≤ A 0 - 1) := by omega
    rw [show stAt A 1 x = none from if_neg e] at q2
    rw [tf_f e1] at a1
    by_cases e2 : 0 ≤ y ∧ y ≤ 1
    · rw [if_pos e2] at q1
      refine OpR.op hi (opR_keep (r := i2 (-1)) c g ha ?_ ?_)
      · unfold fX11_from
        simp -dsimp (disch := omega) only [↓B1_bp, ↓B2_bp, BP_some, BQ_some, ↓reduceIte, L_0, L_1, L_2, L_3, L_4, L_5, L_6, L_7, L_8, L_9, L_10, L_11, L_12, L_13, L_54, L_14, L_99, L_20, L_30, L_31, L_60, L_19, i2_add, i2_sub, i2_mul, i2_neg, Int.reduceAdd, Int.reduceSub, Int.reduceMul, Int.reduceNeg, Int.reduceLT, Int.reduceLE, Int.reduceEq, i2_le, i2_lt, i2_eq, uA_self, uA_ne, tf_0, not_true_eq_false, not_false_eq_true, L_15, L_40, L_100, L_101, L_200, L_999, ↓NL_bp, BNP_none, BNP_some, and_self, if_true, if_false, and_true, true_and, and_false, false_and, t_now h, d_gk (t_d1 h), q2, q1]
      · unfold fX12_from
        simp -dsimp (disch := omega) only [↓B1_bp, ↓B2_bp, BP_some, BQ_some, ↓reduceIte, gk_row, rdN_row, alN_row, alN__row, gk_m hm, rdm0 hm, rdm1 hm, rdm2 hm, rdm3 hm, L_0, L_1, L_2, L_3, L_4, L_5, L_6, L_7, L_8, L_9, L_10, L_11, L_12, L_13, L_54, L_14, L_99, L_20, L_30, L_31, L_60, L_19, i2_add, i2_sub, i2_mul, i2_neg, Int.reduceAdd, Int.reduceSub, Int.reduceMul, Int.reduceNeg, Int.reduceLT, Int.reduceLE, Int.reduceEq, i2_le, i2_lt, i2_eq, J_0, J_1, J_2, J_3, J_5, J_7, J_8, J_9, J_10, J_13, J_15, J_30, J_60, J_99, J_100, J_999, J_n1, i2_j2, m_in, tf_0, not_true_eq_false, not_false_eq_true, m_al hm, L_15, L_40, L_100, L_101, L_190, L_200, L_999, uA_self, and_self, if_true, if_false, and_true, true_and, and_false, false_and, a1]
    · rw [if_neg e2] at q1
      refine OpR.op hi (opR_keep (r := i2 (-1)) c g ha ?_ ?_)
      · unfold fX11_from
        simp -dsimp (disch := omega) only [↓B1_bp, ↓B2_bp, BP_some, BQ_some, ↓reduceIte, L_0, L_1, L_2, L_3, L_4, L_5, L_6, L_7, L_8, L_9, L_10, L_11, L_12, L_13, L_54, L_14, L_99, L_20, L_30, L_31, L_60, L_19, i2_add, i2_sub, i2_mul, i2_neg, Int.reduceAdd, Int.reduceSub, Int.reduceMul, Int.reduceNeg, Int.reduceLT, Int.reduceLE, Int.reduceEq, i2_le, i2_lt, i2_eq, uA_self, uA_ne, tf_0, not_true_eq_false, not_false_eq_true, L_15, L_40, L_100, L_101, L_200, L_999, ↓NL_bp, BNP_none, BNP_some, and_self, if_true, if_false, and_true, true_and, and_false, false_and, t_now h, d_gk (t_d1 h), q2, q1]
      · unfold fX12_from
        simp -dsimp (disch := omega) only [↓B1_bp, ↓B2_bp, BP_some, BQ_some, ↓reduceIte, gk_row, rdN_row, alN_row, alN__row, gk_m hm, rdm0 hm, rdm1 hm, rdm2 hm, rdm3 hm, L_0, L_1, L_2, L_3, L_4, L_5, L_6, L_7, L_8, L_9, L_10, L_11, L_12, L_13, L_54, L_14, L_99, L_20, L_30, L_31, L_60, L_19, i2_add, i2_sub, i2_mul, i2_neg, Int.reduceAdd, Int.reduceSub, Int.reduceMul, Int.reduceNeg, Int.reduceLT, Int.reduceLE, Int.reduceEq, i2_le, i2_lt, i2_eq, J_0, J_1, J_2, J_3, J_5, J_7, J_8, J_9, J_10, J_13, J_15, J_30, J_60, J_99, J_100, J_999, J_n1, i2_j2, m_in, tf_0, not_true_eq_false, not_false_eq_true, m_al hm, L_15, L_40, L_100, L_101, L_190, L_200, L_999, uA_self, and_self, if_true, if_false, and_true, true_and, and_false, false_and, a1]
end SINCE
