section TRACE
variable {M X : Mm} {A : Int → Int}
theorem row_k (M : Mm) (p : Nat) (A : Int → Int) : (M.row p A).k = M.k := rfl
theorem row_r (M : Mm) (p : Nat) (A : Int → Int) : (M.row p A).r = M.r := rfl
theorem row_n (M : Mm) (p : Nat) (A : Int → Int) : (M.row p A).n = M.n := rfl
theorem row_len (M : Mm) (p : Nat) (A : Int → Int) : (M.row p A).len = M.len := rfl
theorem c_clear_L {d s : Nat} (k : X.k d = 27) (d0 : d ≠ 0) (sl : s ≤ X.len d) (s15 : s ≤ 15) : ∀ (q N i : Nat) (Y : Mm), (Y.n = X.n ∧ Y.k = X.k ∧ Y.len = X.len ∧ Y.g = X.g ∧ Y.l = X.l) → (∀ p, p ≠ d → Y.r p = X.r p) → q < N → i + q = s → ∃ Z, fJx4a65c_clear_da8c8_L27 d (i2 s) N (i2 i) Y = some Z ∧ (Z.n = X.n ∧ Z.k = X.k ∧ Z.len = X.len ∧ Z.g = X.g ∧ Z.l = X.l) ∧ ∀ p, p ≠ d → Z.r p = X.r p := by
  intro q
  induction q with
  | zero =>
    intro N i Y h h2 hN hi
    obtain ⟨N, rfl⟩ : ∃ k, N = k + 1 := ⟨N - 1, by omega⟩
    exact ⟨Y, if_pos (by rw [i2_le (by omega) (by omega) (by omega) (by omega)]; omega), h, h2⟩
  | succ q ih =>
    intro N i Y h h2 hN hi
    obtain ⟨N, rfl⟩ : ∃ k, N = k + 1 := ⟨N - 1, by omega⟩
    have ds : dsn Y d (i2 i) = some (Y.sr d i none) := by
      have hn : (i2 (i : Int)).toNatClampNeg = i := by rw [i2_nat (by omega) (by omega)]; omega
      unfold dsn
      rw [hn, if_pos]
      refine ⟨d0, by rw [h.2.1]; exact k, ?_⟩
      rw [i2_inB (by omega) (by omega), h.2.2.1, Bool.and_eq_true, decide_eq_true_eq, decide_eq_true_eq]
      omega
    obtain ⟨Z, z1, z2, z3⟩ := ih N (i + 1) (Y.sr d i none) h (fun p hp => (funext fun j => up2_nea _ _ hp : (Y.sr d i none).r p = Y.r p).trans (h2 p hp)) (by omega) (by omega)
    refine ⟨Z, ?_, z2, z3⟩
    rw [← z1]
    show (if i2 (s : Int) ≤ i2 i then _ else _) = _
    rw [if_neg (by rw [i2_le (by omega) (by omega) (by omega) (by omega)]; omega), ds, B1_some, L_1, i2_add]
    rfl
theorem c_clear {bl : List Int} (n9 : 179 ≤ X.n) (h : LiI X bl) (hl : bl.length ≤ 15) : ∃ Y, fJx4a65c_clear_da8c8 X 163 = some Y ∧ LiI Y [] ∧ Nx (LiP X) (LiP X) NoP X Y := by
  obtain ⟨h1, h2, h3, h4⟩ := h
  have rd0 : rdI X 163 2 0 = some (i2 (gI X 163 0)) := g_rdI h1 0
  have w0 := g_wrI (M := X) (p := 163) (kd := 2) (j := 0) (v := gI X 163 0 + 1) h1 (by decide)
  rw [show ((0 : Nat) : Int) = 0 from rfl] at w0
  have nx0 : Nx (LiP X) (LiP X) NoP X (X.row 163 (uA (gI X 163) 0 (gI X 163 0 + 1))) := Nx.of (SmP.row X _ (Or.inl rfl))
  have k1 : (X.row 163 (uA (gI X 163) 0 (gI X 163 0 + 1))).k 163 = 2 := h1
  have sz : gI (X.row 163 (uA (gI X 163) 0 (gI X 163 0 + 1))) 163 2 = bl.length := by rw [gI_u_ne (by decide) (by decide), h2]
  have h4' : (((X.row 163 (uA (gI X 163) 0 (gI X 163 0 + 1))).r 163 1 = some 0 ∧ bl = []) ∨ ∃ o, (X.row 163 (uA (gI X 163) 0 (gI X 163 0 + 1))).r 163 1 = some o ∧ LiA (X.row 163 (uA (gI X 163) 0 (gI X 163 0 + 1))) o bl) := h4.imp id fun ⟨o, r, ⟨a1, a2⟩, a3, a4, a5, a6⟩ => ⟨o, r, ⟨a1, a2⟩, a3, a4, a5, fun i hi => by rw [gI_ne _ (by omega)]; exact a6 i hi⟩
  have n1 : 179 ≤ (X.row 163 (uA (gI X 163) 0 (gI X 163 0 + 1))).n := n9
  generalize X.row 163 (uA (gI X 163) 0 (gI X 163 0 + 1)) = X1 at w0 nx0 k1 sz h4' n1
  have rd2 : rdI X1 163 2 2 = some (i2 bl.length) := by
    rw [g_rdI k1, ← sz]
    rfl
  have w2 := g_wrI (M := X1) (p := 163) (kd := 2) (j := 2) (v := 0) k1 (by decide)
  rw [show ((2 : Nat) : Int) = 2 from rfl] at w2
  have nx2 : Nx (LiP X1) (LiP X1) NoP X1 (X1.row 163 (uA (gI X1 163) 2 0)) := Nx.of (SmP.row X1 _ (Or.inl rfl))
  have nil0 : ((([] : List Int).length : Nat) : Int) = 0 := by simp
  have sz2 : gI (X1.row 163 (uA (gI X1 163) 2 0)) 163 2 = ((([] : List Int).length : Nat) : Int) := by
    rw [nil0]
    exact gI_u (by decide) (by decide) (by decide)
  have head : ∀ d Y, X1.r 163 1 = some d → fJx4a65c_clear_da8c8_L27 d (i2 bl.length) FL 0 (X1.row 163 (uA (gI X1 163) 2 0)) = some Y → fJx4a65c_clear_da8c8 X 163 = some Y := by
    intro d Y hd hY
    have rN : rdN X1 163 2 1 = some d := by unfold rdN; rw [if_pos k1]; exact hd
    unfold fJx4a65c_clear_da8c8
    rw [rd0, B1_some, L_1, i2_add, w0, B1_some, rN, B1_some, rd2, B1_some, L_0, w2, B1_some, ← L_0]
    exact hY
  rcases h4' with ⟨r, e⟩ | ⟨o, r, la⟩
  · refine ⟨X1.row 163 (uA (gI X1 163) 2 0), head 0 _ r ?_, ⟨by rw [row_k]; exact k1, sz2, fun b hb => absurd hb (by simp), Or.inl ⟨by rw [row_r]; exact r, rfl⟩⟩, nx0.go nx2⟩
    rw [e]
    have u : ∀ (N : Nat) (Y : Mm), fJx4a65c_clear_da8c8_L27 0 (i2 ((([] : List Int).length : Nat) : Int)) (N + 1) 0 Y = some Y := fun N Y => if_pos (by decide +kernel)
    exact u 4095 _
  · obtain ⟨⟨a1, a2⟩, a3, a4, a5, a6⟩ := la
    have k3 : (X1.row 163 (uA (gI X1 163) 2 0)).k o = 27 := by rw [row_k]; exact a3
    obtain ⟨Z, z1, z2, z3⟩ := c_clear_L (X := X1.row 163 (uA (gI X1 163) 2 0)) (d := o) (s := bl.length) k3 (by omega) (by rw [row_len]; exact a5) hl bl.length FL 0 (X1.row 163 (uA (gI X1 163) 2 0)) ⟨rfl, rfl, rfl, rfl, rfl⟩ (fun _ _ => rfl) (by show _ < 4096; omega) (by omega)
    have nxZ : Nx (LiP X1) (LiP X1) NoP (X1.row 163 (uA (gI X1 163) 2 0)) Z := ⟨by rw [z2.1]; exact Nat.le_refl _, fun p _ => ⟨by rw [z2.2.1], by rw [z2.2.2.1]⟩, fun p _ _ => by rw [z2.2.2.2.1], fun p _ q => z3 p (fun e => q (Or.inr (by rw [e]; exact ⟨a1, a3⟩))), fun p _ _ => by rw [z2.2.2.2.2]⟩
    refine ⟨Z, head o Z r ?_, ⟨?_, ?_, fun b hb => absurd hb (by simp), Or.inr ⟨o, ?_, ⟨⟨a1, ?_⟩, ?_, ?_, ?_, fun i hi => absurd hi (by simp)⟩⟩⟩, nx0.go (nx2.tr nxZ)⟩
    · rw [show ((0 : Nat) : Int) = 0 from rfl, ← L_0] at z1
      exact z1
    · rw [z2.2.1, row_k]; exact k1
    · rw [gI_of (congrFun z2.2.2.2.1 163)]; exact sz2
    · rw [z3 163 (by omega), row_r]; exact r
    · rw [z2.1, row_n]; exact a2
    · rw [z2.2.1, row_k]; exact a3
    · rw [z2.2.2.1, row_len]; exact a4
    · exact Nat.zero_le _
/-- what holds between two calls, told as a list -/
def blF (f : Int → Int) : Nat → List Int
  | 0 => []
  | n + 1 => blF f n ++ [f n]
theorem blF_len (f : Int → Int) : ∀ n, (blF f n).length = n
  | 0 => rfl
  | n + 1 => by rw [blF, List.length_append, blF_len f n]; rfl
theorem blF_at (f : Int → Int) : ∀ (n i : Nat), i < n → (blF f n).getD i 0 = f i
  | 0, i, h => absurd h (by omega)
  | n + 1, i, h => by
    by_cases e : i = n
    · have k := gd_last (blF f n) (f n)
      rw [blF_len] at k
      rw [e]
      exact k
    · rw [blF, gd_init _ (by rw [blF_len]; omega)]
      exact blF_at f n i (by omega)
theorem blF_mem (f : Int → Int) : ∀ (n : Nat) (b : Int), b ∈ blF f n → ∃ i : Nat, i < n ∧ b = f i
  | 0, b, h => absurd h (by simp [blF])
  | n + 1, b, h => by
    rcases List.mem_append.mp h with z | z
    · obtain ⟨i, h1, h2⟩ := blF_mem f n b z
      exact ⟨i, by omega, h2⟩
    · rw [List.mem_singleton] at z
      exact ⟨n, by omega, z⟩
theorem NI.li (h : LayC M) (n : NI M) : LiI M (blF (gI M 178) (gI M 163 2).toNat) ∧ (blF (gI M 178) (gI M 163 2).toNat).length ≤ 15 := by
  obtain ⟨n1, n2, n3⟩ := n
  have hl := blF_len (gI M 178) (gI M 163 2).toNat
  refine ⟨⟨t_k163 h, by rw [hl]; omega, fun b hb => ?_, ?_⟩, by rw [hl]; omega⟩
  · obtain ⟨i, i1, i2'⟩ := blF_mem _ _ _ hb
    rcases n3 with ⟨a, b'⟩ | ⟨o, a1, a2, a3, a4, a5, a6, a7⟩
    · omega
    · have k := a7 i (by omega)
      rw [i2', ← k.2.1]
      exact ⟨k.2.2.1, k.2.2.2⟩
  · rcases n3 with ⟨a, b'⟩ | ⟨o, a1, a2, a3, a4, a5, a6, a7⟩
    · exact Or.inl ⟨a, by rw [b']; rfl⟩
    · refine Or.inr ⟨o, a1, ⟨a2, a3⟩, a4, a5, by rw [hl]; omega, fun i hi => ?_⟩
      rw [hl] at hi
      have k := a7 i (by omega)
      exact ⟨k.1, by rw [blF_at _ _ _ hi]; exact k.2.1⟩
theorem op_trace (h : LayC M) (hm : LayM M) (c : CR M 1 A) (g : GA A) (ha : M.g 165 = rI A) {x : Int} (x0 : -2147483648 ≤ x) (x1 : x < 2147483648) (hi : Inv M) : OpP (fX11_trace M 0 (i2 x)) (fX12_trace M 164 (i2 x)) := by
  obtain ⟨n1, n2, n3⟩ := hi.2.2.2.2.2.2
  have bd := c_bodies h ⟨n1, n2, n3⟩
  have rm := m_rdI (j := 20) hm
  rw [show gI M 164 ((20 : Nat) : Int) = gI M 164 20 from rfl, n2] at rm
  by_cases e : 0 ≤ x ∧ x ≤ gI M 163 2 - 1
  · have te : tf (0 ≤ x ∧ x ≤ gI M 163 2 - 1) = 1 := tf_t e
    rcases n3 with ⟨a, b⟩ | ⟨o, a1, a2, a3, a4, a5, a6, a7⟩
    · omega
    · have hx : ((x.toNat : Nat) : Int) = x := by omega
      have k := a7 x.toNat (by omega)
      rw [hx] at k
      have k163 := t_k163 h
      have rd2 : rdI M 163 2 2 = some (i2 (gI M 163 2)) := g_rdI k163 2
      have gk1 : gk M 163 2 = some () := if_pos k163
      have rN : rdN M 163 2 1 = some o := by unfold rdN; rw [if_pos k163]; exact a1
      have hn : (i2 x).toNatClampNeg = x.toNat := i2_nat (by omega) (by omega)
      have gv : M.g o x.toNat = i2 (gI M o x) := by
        unfold gI
        rw [i2_self]
      have dl : dlb M o (i2 x) = some (i2 (gI M o x)) := by
        unfold dlb
        rw [hn, if_pos, gv]
        refine ⟨by omega, a4, ?_, ?_⟩
        · rw [i2_inB (by omega) (by omega), Bool.and_eq_true, decide_eq_true_eq, decide_eq_true_eq]
          omega
        · rw [Option.isSome_iff_ne_none]
          exact k.1
      have ib : ibx (i2 (gI M o x)) = some (i2 (gI M o x)) := by
        unfold ibx
        rw [if_pos]
        rw [i2_inB (by omega) (by omega), Bool.and_eq_true, decide_eq_true_eq, decide_eq_true_eq]
        omega
      have ci : fJ3_checkIndex_8e157 M (i2 x) (i2 (gI M 163 2)) = some (i2 x) := by
        unfold fJ3_checkIndex_8e157
        rw [L_0, if_neg (by rw [i2_lt (by omega) (by omega) (by decide) (by decide)]; omega), if_pos (by rw [i2_lt (by omega) (by omega) (by omega) (by omega)]; omega)]
      have al := g_alI (ar_78 hm) (x := x) e.1 (by omega) (by omega)
      rw [← k.2.1] at al
      refine opP_2 (r := i2 (gI M o x)) ?_ ?_
      · unfold fX11_trace fJx4a65c_get_915e3 fJx4a65c_elementData_915e3 fJ15_checkIndex_7cf53 fJ6_intValue_8abf5
        simp -dsimp (disch := omega) only [↓B1_bp, ↓B2_bp, BP_some, BQ_some, ↓reduceIte, L_0, L_1, L_2, L_3, L_4, L_5, L_6, L_7, L_8, L_9, L_10, L_11, L_12, L_13, L_54, L_14, L_99, L_20, L_30, L_31, L_60, L_19, i2_add, i2_sub, i2_mul, i2_neg, Int.reduceAdd, Int.reduceSub, Int.reduceMul, Int.reduceNeg, Int.reduceLT, Int.reduceLE, Int.reduceEq, i2_le, i2_lt, i2_eq, uA_self, uA_ne, tf_0, not_true_eq_false, not_false_eq_true, L_15, L_40, L_100, L_101, L_200, L_999, ↓NL_bp, BNP_none, BNP_some, and_self, if_true, if_false, and_true, true_and, and_false, false_and, t_now h, d_gk (t_d1 h), t_gk h, bd, c_isWithin, te, t_ran h, gk1, rd2, ci, rN, dl, ib]
      · unfold fX12_trace
        simp -dsimp (disch := omega) only [↓B1_bp, ↓B2_bp, BP_some, BQ_some, ↓reduceIte, L_0, L_1, L_2, L_3, L_4, L_5, L_6, L_7, L_8, L_9, L_10, L_11, L_12, L_13, L_54, L_14, L_99, L_20, L_30, L_31, L_60, L_19, i2_add, i2_sub, i2_mul, i2_neg, Int.reduceAdd, Int.reduceSub, Int.reduceMul, Int.reduceNeg, Int.reduceLT, Int.reduceLE, Int.reduceEq, i2_le, i2_lt, i2_eq, uA_self, uA_ne, tf_0, not_true_eq_false, not_false_eq_true, rm, J_0, J_1, J_2, J_3, J_5, J_7, J_8, J_9, J_10, J_13, J_15, J_30, J_60, J_99, J_100, J_999, J_n1, i2_j2, m_in, te, m_r19 hm, al]
  · have te : tf (0 ≤ x ∧ x ≤ gI M 163 2 - 1) = 0 := tf_f e
    refine opP_2 (r := i2 (-3)) ?_ ?_
    · unfold fX11_trace
      simp -dsimp (disch := omega) only [↓B1_bp, ↓B2_bp, BP_some, BQ_some, ↓reduceIte, L_0, L_1, L_2, L_3, L_4, L_5, L_6, L_7, L_8, L_9, L_10, L_11, L_12, L_13, L_54, L_14, L_99, L_20, L_30, L_31, L_60, L_19, i2_add, i2_sub, i2_mul, i2_neg, Int.reduceAdd, Int.reduceSub, Int.reduceMul, Int.reduceNeg, Int.reduceLT, Int.reduceLE, Int.reduceEq, i2_le, i2_lt, i2_eq, uA_self, uA_ne, tf_0, not_true_eq_false, not_false_eq_true, L_15, L_40, L_100, L_101, L_200, L_999, ↓NL_bp, BNP_none, BNP_some, and_self, if_true, if_false, and_true, true_and, and_false, false_and, t_now h, d_gk (t_d1 h), t_gk h, bd, c_isWithin, te]
    · unfold fX12_trace
      simp -dsimp (disch := omega) only [↓B1_bp, ↓B2_bp, BP_some, BQ_some, ↓reduceIte, L_0, L_1, L_2, L_3, L_4, L_5, L_6, L_7, L_8, L_9, L_10, L_11, L_12, L_13, L_54, L_14, L_99, L_20, L_30, L_31, L_60, L_19, i2_add, i2_sub, i2_mul, i2_neg, Int.reduceAdd, Int.reduceSub, Int.reduceMul, Int.reduceNeg, Int.reduceLT, Int.reduceLE, Int.reduceEq, i2_le, i2_lt, i2_eq, uA_self, uA_ne, tf_0, not_true_eq_false, not_false_eq_true, rm, J_0, J_1, J_2, J_3, J_5, J_7, J_8, J_9, J_10, J_13, J_15, J_30, J_60, J_99, J_100, J_999, J_n1, i2_j2, m_in, te]
end TRACE
