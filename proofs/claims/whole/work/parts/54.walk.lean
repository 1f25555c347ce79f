section WALK
variable {M : Mm} {A : Int → Int}
def wtA (A : Int → Int) (w : Int) : Int → Int := fun i => A (14 + 20 * w + 2 * i)
def ntA (A : Int → Int) (w : Int) : Int → Int := fun i => A (14 + 20 * w + 2 * i + 1)
theorem pw_lo {A : Int → Int} {f : (Int → Int) → Int → Int} {y : Int} (h : y < 54) : pwA A f y = A y := (onA_lo h).trans (onA_lo h)
theorem pw_id (A : Int → Int) : pwA A (fun S => S) = A := by
  have e : ∀ (A : Int → Int) (x : Int), onA A (fun S => S) x = A := fun A x => by
    unfold onA
    split
    · exact put_st A x
    · rfl
  unfold pwA
  rw [e, e]
theorem lwA_pw {A : Int → Int} {f : (Int → Int) → Int → Int} (mv : Int) : mvS (lwA (pwA A f)) mv = mvS (lwA A) mv := mvS_cg (fun j _ hj => pw_lo (by omega)) mv
theorem m_whatOf (h : LayM M) {w i : Int} (w0 : 0 ≤ w) (w1 : w < 2) (i0 : 0 ≤ i) (i9 : i < 10) : fX12_whatOf (M.row 165 A) 164 (i2 w) (i2 i) = some (i2 (wtA A w i)) := by
  unfold fX12_whatOf wtA
  simp -dsimp (disch := omega) only [↓B1_bp, ↓B2_bp, BP_some, BQ_some, ↓reduceIte, gk_row, rdN_row, alN_row, alN__row, gk_m h, rdm0 h, rdm1 h, rdm2 h, rdm3 h, L_0, L_1, L_2, L_3, L_4, L_5, L_6, L_7, L_8, L_9, L_10, L_11, L_12, L_13, L_54, L_14, L_99, L_20, L_30, L_31, L_60, L_19, i2_add, i2_sub, i2_mul, i2_neg, Int.reduceAdd, Int.reduceSub, Int.reduceMul, Int.reduceNeg, Int.reduceLT, Int.reduceLE, Int.reduceEq, m_al h, i2_le, i2_lt, i2_eq]
theorem m_lengthOf (h : LayM M) {w i : Int} (w0 : 0 ≤ w) (w1 : w < 2) (i0 : 0 ≤ i) (i9 : i < 10) : fX12_lengthOf (M.row 165 A) 164 (i2 w) (i2 i) = some (i2 (ntA A w i)) := by
  unfold fX12_lengthOf ntA
  simp -dsimp (disch := omega) only [↓B1_bp, ↓B2_bp, BP_some, BQ_some, ↓reduceIte, gk_row, rdN_row, alN_row, alN__row, gk_m h, rdm0 h, rdm1 h, rdm2 h, rdm3 h, L_0, L_1, L_2, L_3, L_4, L_5, L_6, L_7, L_8, L_9, L_10, L_11, L_12, L_13, L_54, L_14, L_99, L_20, L_30, L_31, L_60, L_19, i2_add, i2_sub, i2_mul, i2_neg, Int.reduceAdd, Int.reduceSub, Int.reduceMul, Int.reduceNeg, Int.reduceLT, Int.reduceLE, Int.reduceEq, m_al h, i2_le, i2_lt, i2_eq]
theorem GA.leg {A : Int → Int} (g : GA A) {w i : Int} (w0 : 0 ≤ w) (w1 : w < 2) (i0 : 0 ≤ i) (i9 : i < A (12 + w)) : i < 10 ∧ (0 ≤ wtA A w i ∧ wtA A w i ≤ 3) ∧ (1 ≤ ntA A w i ∧ ntA A w i ≤ 60) := by
  have hc := g.2.2.2.2.2.2.1 w w0 w1
  have hl := hc.2 i i0 i9
  exact ⟨by omega, hl⟩
theorem m_timesOf (h : LayM M) (g : GA A) {w i : Int} (w0 : 0 ≤ w) (w1 : w < 2) (i0 : 0 ≤ i) (i9 : i < A (12 + w)) : fX12_timesOf (M.row 165 A) 164 (i2 w) (i2 i) = some (i2 (if wtA A w i = 2 then 1 else ntA A w i)) := by
  obtain ⟨h10, hw, hn⟩ := g.leg w0 w1 i0 i9
  unfold fX12_timesOf
  by_cases e : wtA A w i = 2
  · simp -dsimp (disch := omega) only [↓B1_bp, ↓B2_bp, BP_some, BQ_some, ↓reduceIte, gk_row, rdN_row, alN_row, alN__row, gk_m h, rdm0 h, rdm1 h, rdm2 h, rdm3 h, L_0, L_1, L_2, L_3, L_4, L_5, L_6, L_7, L_8, L_9, L_10, L_11, L_12, L_13, L_54, L_14, L_99, L_20, L_30, L_31, L_60, L_19, i2_add, i2_sub, i2_mul, i2_neg, Int.reduceAdd, Int.reduceSub, Int.reduceMul, Int.reduceNeg, Int.reduceLT, Int.reduceLE, Int.reduceEq, m_al h, i2_le, i2_lt, i2_eq, m_whatOf h, m_lengthOf h, e, if_true]
  · simp -dsimp (disch := omega) only [↓B1_bp, ↓B2_bp, BP_some, BQ_some, ↓reduceIte, gk_row, rdN_row, alN_row, alN__row, gk_m h, rdm0 h, rdm1 h, rdm2 h, rdm3 h, L_0, L_1, L_2, L_3, L_4, L_5, L_6, L_7, L_8, L_9, L_10, L_11, L_12, L_13, L_54, L_14, L_99, L_20, L_30, L_31, L_60, L_19, i2_add, i2_sub, i2_mul, i2_neg, Int.reduceAdd, Int.reduceSub, Int.reduceMul, Int.reduceNeg, Int.reduceLT, Int.reduceLE, Int.reduceEq, m_al h, i2_le, i2_lt, i2_eq, m_whatOf h, m_lengthOf h, e, if_false]
theorem m_walks21 (h : LayM M) {α : Type} (kk : Mm → Option Mm) {w i tm : Int} {v3 : Int32} (w0 : 0 ≤ w) (w1 : w < 2) (i0 : 0 ≤ i) (t9 : tm ≤ 60) : ∀ (d N : Nat) (v : Int) (A : Int → Int), GA A → i < A (12 + w) → d < N → 0 ≤ v → v + d = tm → fX12_walks_L21 kk 164 (i2 w) v3 (i2 i) (i2 tm) N (i2 v) (M.row 165 A) = kk (M.row 165 (pwA A (it (mvS (lwA A) (wtA A w i)) d))) := by
  intro d
  induction d with
  | zero =>
    intro N v A g hi hN v0 hv
    obtain ⟨N, rfl⟩ : ∃ k, N = k + 1 := ⟨N - 1, by omega⟩
    have e : pwA A (it (mvS (lwA A) (wtA A w i)) 0) = A := pw_id A
    rw [e]
    simp -dsimp (disch := omega) only [fX12_walks_L21, ↓B1_bp, ↓B2_bp, BP_some, BQ_some, ↓reduceIte, gk_row, rdN_row, alN_row, alN__row, gk_m h, rdm0 h, rdm1 h, rdm2 h, rdm3 h, L_0, L_1, L_2, L_3, L_4, L_5, L_6, L_7, L_8, L_9, L_10, L_11, L_12, L_13, L_54, L_14, L_99, L_20, L_30, L_31, L_60, L_19, i2_add, i2_sub, i2_mul, i2_neg, Int.reduceAdd, Int.reduceSub, Int.reduceMul, Int.reduceNeg, Int.reduceLT, Int.reduceLE, Int.reduceEq, m_al h, i2_le, i2_lt, i2_eq]
    rw [if_pos (by omega)]
  | succ d ih =>
    intro N v A g hi hN v0 hv
    obtain ⟨N, rfl⟩ : ∃ k, N = k + 1 := ⟨N - 1, by omega⟩
    obtain ⟨h10, hw, hn⟩ := g.leg w0 w1 i0 hi
    have hm := m_allMove (A := A) h g hw.1 hw.2
    have k := ih N (v + 1) (pwA A (mvS (lwA A) (wtA A w i))) (g.pw fun S q => q.mv g.2.2.2.2.2.1) (by rw [pw_lo (by omega)]; exact hi) (by omega) (by omega) (by omega)
    rw [lwA_pw, show wtA (pwA A (mvS (lwA A) (wtA A w i))) w i = wtA A w i from pw_lo (by omega), pw_pw g (Ex.mv _ _) ((Ex.mv _ _).it d)] at k
    have u : ∀ (K : Nat) (v : Int32) (M : Mm), fX12_walks_L21 kk 164 (i2 w) v3 (i2 i) (i2 tm) (K + 1) v M = if i2 tm ≤ v then kk M else B1 (gk M 164 15) fun _ => B1 (fX12_whatOf M 164 (i2 w) (i2 i)) fun x => B1 (gk M 164 15) fun _ => B1 (fX12_allMove M 164 x) fun M' => fX12_walks_L21 kk 164 (i2 w) v3 (i2 i) (i2 tm) K (v + 1) M' := fun _ _ _ => rfl
    rw [u]
    simp -dsimp (disch := omega) only [↓B1_bp, ↓B2_bp, BP_some, BQ_some, ↓reduceIte, gk_row, rdN_row, alN_row, alN__row, gk_m h, rdm0 h, rdm1 h, rdm2 h, rdm3 h, L_0, L_1, L_2, L_3, L_4, L_5, L_6, L_7, L_8, L_9, L_10, L_11, L_12, L_13, L_54, L_14, L_99, L_20, L_30, L_31, L_60, L_19, i2_add, i2_sub, i2_mul, i2_neg, Int.reduceAdd, Int.reduceSub, Int.reduceMul, Int.reduceNeg, Int.reduceLT, Int.reduceLE, Int.reduceEq, m_al h, i2_le, i2_lt, i2_eq, m_whatOf h, hm, k]
    rw [if_neg (by omega)]
    rfl
theorem wayS_cg2 {L L' wt nt wt' nt' : Int → Int} (h : ∀ j, 0 ≤ j → j < 8 → L' j = L j) (d : Nat) : ∀ (i : Int), (∀ j, i ≤ j → j < i + d → wt' j = wt j ∧ nt' j = nt j) → wayS L' wt' nt' i d = wayS L wt nt i d := by
  induction d with
  | zero => intro i _; rfl
  | succ d ih =>
    intro i hi
    funext S
    show wayS L' wt' nt' (i + 1) d (legS L' (wt' i) (nt' i) S) = wayS L wt nt (i + 1) d (legS L (wt i) (nt i) S)
    have h0 := hi i (Int.le_refl _) (by omega)
    rw [ih (i + 1) (fun j a b => hi j (by omega) (by omega)), h0.1, h0.2]
    unfold legS
    rw [mvS_cg h]
theorem m_walks_L (h : LayM M) {w to : Int} (w0 : 0 ≤ w) (w1 : w < 2) : ∀ (d N : Nat) (i : Int) (A : Int → Int), GA A → to ≤ A (12 + w) → d < N → 0 ≤ i → i + d = to → fX12_walks_L3 164 (i2 w) (i2 to) N (i2 i) (M.row 165 A) = some (M.row 165 (pwA A (wayS (lwA A) (wtA A w) (ntA A w) i d))) := by
  intro d
  induction d with
  | zero =>
    intro N i A g ht hN i0 hi
    obtain ⟨N, rfl⟩ : ∃ k, N = k + 1 := ⟨N - 1, by omega⟩
    have hc := (g.2.2.2.2.2.2.1 w w0 w1).1
    have e : pwA A (wayS (lwA A) (wtA A w) (ntA A w) i 0) = A := pw_id A
    rw [e]
    simp -dsimp (disch := omega) only [fX12_walks_L3, ↓B1_bp, ↓B2_bp, BP_some, BQ_some, ↓reduceIte, gk_row, rdN_row, alN_row, alN__row, gk_m h, rdm0 h, rdm1 h, rdm2 h, rdm3 h, L_0, L_1, L_2, L_3, L_4, L_5, L_6, L_7, L_8, L_9, L_10, L_11, L_12, L_13, L_54, L_14, L_99, L_20, L_30, L_31, L_60, L_19, i2_add, i2_sub, i2_mul, i2_neg, Int.reduceAdd, Int.reduceSub, Int.reduceMul, Int.reduceNeg, Int.reduceLT, Int.reduceLE, Int.reduceEq, m_al h, i2_le, i2_lt, i2_eq]
    rw [if_pos (by omega)]
  | succ d ih =>
    intro N i A g ht hN i0 hi
    obtain ⟨N, rfl⟩ : ∃ k, N = k + 1 := ⟨N - 1, by omega⟩
    have hc := (g.2.2.2.2.2.2.1 w w0 w1).1
    obtain ⟨h10, hw, hn⟩ := g.leg w0 w1 i0 (show i < A (12 + w) by omega)
    have ht := m_timesOf (A := A) h g w0 w1 i0 (show i < A (12 + w) by omega)
    have u : ∀ (K : Nat) (v : Int32) (M : Mm), fX12_walks_L3 164 (i2 w) (i2 to) (K + 1) v M = if i2 to ≤ v then some M else B1 (gk M 164 15) fun _ => B1 (fX12_timesOf M 164 (i2 w) v) fun x => fX12_walks_L21 (fun M' => fX12_walks_L3 164 (i2 w) (i2 to) K (v + 1) M') 164 (i2 w) (i2 to) v x FL 0 M := fun _ _ _ => rfl
    have gA' : GA (pwA A (legS (lwA A) (wtA A w i) (ntA A w i))) := g.pw fun S q => q.leg g.2.2.2.2.2.1
    have k := ih N (i + 1) (pwA A (legS (lwA A) (wtA A w i) (ntA A w i))) gA' (by rw [pw_lo (by omega)]; omega) (by omega) (by omega) (by omega)
    have e1 : wayS (lwA (pwA A (legS (lwA A) (wtA A w i) (ntA A w i)))) (wtA (pwA A (legS (lwA A) (wtA A w i) (ntA A w i))) w) (ntA (pwA A (legS (lwA A) (wtA A w i) (ntA A w i))) w) (i + 1) d = wayS (lwA A) (wtA A w) (ntA A w) (i + 1) d := by
      refine wayS_cg2 (fun j _ hj => pw_lo (by omega)) d (i + 1) fun j a b => ⟨pw_lo (by omega), pw_lo (by omega)⟩
    rw [e1, pw_pw g (Ex.leg _ _ _) (Ex.way _ _ _ _ _)] at k
    have k2 := m_walks21 (α := Unit) (M := M) h (fun M' => fX12_walks_L3 164 (i2 w) (i2 to) N (i2 (i + 1)) M') (v3 := i2 to) w0 w1 i0 (tm := if wtA A w i = 2 then 1 else ntA A w i) (by split <;> omega) (if wtA A w i = 2 then 1 else (ntA A w i).toNat) FL 0 A g (by omega) (by show _ < 4096; split <;> omega) (by decide) (by split <;> omega)
    rw [u]
    simp -dsimp (disch := omega) only [↓B1_bp, ↓B2_bp, BP_some, BQ_some, ↓reduceIte, gk_row, rdN_row, alN_row, alN__row, gk_m h, rdm0 h, rdm1 h, rdm2 h, rdm3 h, L_0, L_1, L_2, L_3, L_4, L_5, L_6, L_7, L_8, L_9, L_10, L_11, L_12, L_13, L_54, L_14, L_99, L_20, L_30, L_31, L_60, L_19, i2_add, i2_sub, i2_mul, i2_neg, Int.reduceAdd, Int.reduceSub, Int.reduceMul, Int.reduceNeg, Int.reduceLT, Int.reduceLE, Int.reduceEq, m_al h, i2_le, i2_lt, i2_eq, ht]
    rw [if_neg (by omega), k2]
    exact k
theorem m_walks (h : LayM M) (g : GA A) {w fr to : Int} (w0 : 0 ≤ w) (w1 : w < 2) (f0 : 0 ≤ fr) (ft : fr ≤ to) (t1 : to ≤ A (12 + w)) : fX12_walks (M.row 165 A) 164 (i2 w) (i2 fr) (i2 to) = some (M.row 165 (pwA A (wayS (lwA A) (wtA A w) (ntA A w) fr (to - fr).toNat))) := by
  have hc := (g.2.2.2.2.2.2.1 w w0 w1).1
  unfold fX12_walks
  exact m_walks_L h w0 w1 _ FL fr A g t1 (by show _ < 4096; omega) f0 (by omega)
/-- a way's minutes -/
def minL (wt nt : Int → Int) (i : Int) : Int := if wt i = 0 then (nt i + 19) / 20 else if wt i = 1 then (nt i + 9) / 10 else nt i
def minW (wt nt : Int → Int) : Int → Nat → Int
  | _, 0 => 0
  | i, d + 1 => minL wt nt i + minW wt nt (i + 1) d
theorem minL_b {wt nt : Int → Int} {i : Int} (h : 1 ≤ nt i ∧ nt i ≤ 60) : 0 ≤ minL wt nt i ∧ minL wt nt i ≤ 60 := by
  unfold minL
  repeat' split
  all_goals omega
theorem m_minutesOf (h : LayM M) (g : GA A) {w i : Int} (w0 : 0 ≤ w) (w1 : w < 2) (i0 : 0 ≤ i) (i9 : i < A (12 + w)) : fX12_minutesOf (M.row 165 A) 164 (i2 w) (i2 i) = some (i2 (minL (wtA A w) (ntA A w) i)) := by
  obtain ⟨h10, hw, hn⟩ := g.leg w0 w1 i0 i9
  unfold fX12_minutesOf minL
  simp -dsimp (disch := omega) only [↓B1_bp, ↓B2_bp, BP_some, BQ_some, ↓reduceIte, gk_row, rdN_row, alN_row, alN__row, gk_m h, rdm0 h, rdm1 h, rdm2 h, rdm3 h, L_0, L_1, L_2, L_3, L_4, L_5, L_6, L_7, L_8, L_9, L_10, L_11, L_12, L_13, L_54, L_14, L_99, L_20, L_30, L_31, L_60, L_19, i2_add, i2_sub, i2_mul, i2_neg, Int.reduceAdd, Int.reduceSub, Int.reduceMul, Int.reduceNeg, Int.reduceLT, Int.reduceLE, Int.reduceEq, m_al h, i2_le, i2_lt, i2_eq, m_whatOf h, m_lengthOf h, i2_div, Int.tdiv_eq_ediv_of_nonneg]
  (repeat' split) <;> first | rfl | omega
theorem m_minutes_L (h : LayM M) (g : GA A) {w : Int} (w0 : 0 ≤ w) (w1 : w < 2) : ∀ (d N : Nat) (i s : Int), d < N → 0 ≤ i → i + d = A (12 + w) → 0 ≤ s → s + 60 * d ≤ 600 → fX12_minutesOf__L4 (M.row 165 A) 164 (i2 w) N (i2 s) (i2 i) = some (i2 (s + minW (wtA A w) (ntA A w) i d)) := by
  have hc := (g.2.2.2.2.2.2.1 w w0 w1).1
  intro d
  induction d with
  | zero =>
    intro N i s hN i0 hi s0 s6
    obtain ⟨N, rfl⟩ : ∃ k, N = k + 1 := ⟨N - 1, by omega⟩
    simp -dsimp (disch := omega) only [fX12_minutesOf__L4, ↓B1_bp, ↓B2_bp, BP_some, BQ_some, ↓reduceIte, gk_row, rdN_row, alN_row, alN__row, gk_m h, rdm0 h, rdm1 h, rdm2 h, rdm3 h, L_0, L_1, L_2, L_3, L_4, L_5, L_6, L_7, L_8, L_9, L_10, L_11, L_12, L_13, L_54, L_14, L_99, L_20, L_30, L_31, L_60, L_19, i2_add, i2_sub, i2_mul, i2_neg, Int.reduceAdd, Int.reduceSub, Int.reduceMul, Int.reduceNeg, Int.reduceLT, Int.reduceLE, Int.reduceEq, m_al h, i2_le, i2_lt, i2_eq]
    rw [if_pos (by omega), show s + minW (wtA A w) (ntA A w) i 0 = s from Int.add_zero s]
  | succ d ih =>
    intro N i s hN i0 hi s0 s6
    obtain ⟨N, rfl⟩ : ∃ k, N = k + 1 := ⟨N - 1, by omega⟩
    obtain ⟨h10, hw, hn⟩ := g.leg w0 w1 i0 (show i < A (12 + w) by omega)
    have hb := minL_b (wt := wtA A w) hn
    have hm := m_minutesOf (A := A) h g w0 w1 i0 (show i < A (12 + w) by omega)
    have k := ih N (i + 1) (s + minL (wtA A w) (ntA A w) i) (by omega) (by omega) (by omega) (by omega) (by omega)
    simp -dsimp (disch := omega) only [fX12_minutesOf__L4, ↓B1_bp, ↓B2_bp, BP_some, BQ_some, ↓reduceIte, gk_row, rdN_row, alN_row, alN__row, gk_m h, rdm0 h, rdm1 h, rdm2 h, rdm3 h, L_0, L_1, L_2, L_3, L_4, L_5, L_6, L_7, L_8, L_9, L_10, L_11, L_12, L_13, L_54, L_14, L_99, L_20, L_30, L_31, L_60, L_19, i2_add, i2_sub, i2_mul, i2_neg, Int.reduceAdd, Int.reduceSub, Int.reduceMul, Int.reduceNeg, Int.reduceLT, Int.reduceLE, Int.reduceEq, m_al h, i2_le, i2_lt, i2_eq, hm]
    rw [if_neg (by omega), k]
    show some (i2 _) = some (i2 (s + (minL (wtA A w) (ntA A w) i + minW (wtA A w) (ntA A w) (i + 1) d)))
    rw [Int.add_assoc]
theorem m_minutes (h : LayM M) (g : GA A) {w : Int} (w0 : 0 ≤ w) (w1 : w < 2) : fX12_minutesOf_ (M.row 165 A) 164 (i2 w) = some (i2 (minW (wtA A w) (ntA A w) 0 (A (12 + w)).toNat)) := by
  have hc := (g.2.2.2.2.2.2.1 w w0 w1).1
  have k := m_minutes_L (A := A) h g w0 w1 (A (12 + w)).toNat FL 0 0 (by show _ < 4096; omega) (by decide) (by omega) (by decide) (by omega)
  rw [Int.zero_add] at k
  exact k
theorem c_minutesOf {p : Nat} {c : Int} {wt nt : Int → Int} (h : WR M p c wt nt) {i : Int} (i0 : 0 ≤ i) (i1 : i < c) : fX10_minutesOf M p (i2 i) = some (i2 (minL wt nt i)) := by
  have hl := c_hasLeg h (i := i) (by omega) (by have := h.2.2.2.2.1; omega)
  rw [tf_t (by omega)] at hl
  obtain ⟨a, b, c1, d, e, f⟩ := h
  obtain ⟨f1, f2, f3, f4⟩ := f i i0 i1
  unfold fX10_minutesOf minL
  simp -dsimp (disch := omega) only [↓B1_bp, ↓B2_bp, BP_some, BQ_some, ↓reduceIte, L_0, L_1, L_2, L_3, L_4, L_5, L_6, L_7, L_8, L_9, L_10, L_11, L_12, L_13, L_54, L_14, L_99, L_20, L_30, L_31, L_60, L_19, i2_add, i2_sub, i2_mul, i2_neg, Int.reduceAdd, Int.reduceSub, Int.reduceMul, Int.reduceNeg, Int.reduceLT, Int.reduceLE, Int.reduceEq, i2_le, i2_lt, i2_eq, uA_self, uA_ne, tf_0, not_true_eq_false, not_false_eq_true, a, hl, c1, d, f1, f2, i2_div, Int.tdiv_eq_ediv_of_nonneg]
  (repeat' split) <;> first | rfl | omega
theorem c_minutes_L {p : Nat} {c : Int} {wt nt : Int → Int} (h : WR M p c wt nt) : ∀ (d N : Nat) (i s : Int), d < N → 0 ≤ i → i + d = c → 0 ≤ s → s + 60 * d ≤ 600 → fX10_minutesOfAll_L4 M p N (i2 s) (i2 i) = some (i2 (s + minW wt nt i d)) := by
  intro d
  induction d with
  | zero =>
    intro N i s hN i0 hi s0 s6
    obtain ⟨N, rfl⟩ : ∃ k, N = k + 1 := ⟨N - 1, by omega⟩
    have hc := h.2.2.2.2.1
    simp -dsimp (disch := omega) only [fX10_minutesOfAll_L4, ↓B1_bp, ↓B2_bp, BP_some, BQ_some, ↓reduceIte, L_0, L_1, L_2, L_3, L_4, L_5, L_6, L_7, L_8, L_9, L_10, L_11, L_12, L_13, L_54, L_14, L_99, L_20, L_30, L_31, L_60, L_19, i2_add, i2_sub, i2_mul, i2_neg, Int.reduceAdd, Int.reduceSub, Int.reduceMul, Int.reduceNeg, Int.reduceLT, Int.reduceLE, Int.reduceEq, i2_le, i2_lt, i2_eq, uA_self, uA_ne, tf_0, not_true_eq_false, not_false_eq_true, h.2.1]
    rw [if_pos (by omega), show s + minW wt nt i 0 = s from Int.add_zero s]
  | succ d ih =>
    intro N i s hN i0 hi s0 s6
    obtain ⟨N, rfl⟩ : ∃ k, N = k + 1 := ⟨N - 1, by omega⟩
    have hc := h.2.2.2.2.1
    have hb := minL_b (wt := wt) (h.2.2.2.2.2 i i0 (by omega)).2.2.2
    have hm := c_minutesOf h i0 (show i < c by omega)
    have k := ih N (i + 1) (s + minL wt nt i) (by omega) (by omega) (by omega) (by omega) (by omega)
    simp -dsimp (disch := omega) only [fX10_minutesOfAll_L4, ↓B1_bp, ↓B2_bp, BP_some, BQ_some, ↓reduceIte, L_0, L_1, L_2, L_3, L_4, L_5, L_6, L_7, L_8, L_9, L_10, L_11, L_12, L_13, L_54, L_14, L_99, L_20, L_30, L_31, L_60, L_19, i2_add, i2_sub, i2_mul, i2_neg, Int.reduceAdd, Int.reduceSub, Int.reduceMul, Int.reduceNeg, Int.reduceLT, Int.reduceLE, Int.reduceEq, i2_le, i2_lt, i2_eq, uA_self, uA_ne, tf_0, not_true_eq_false, not_false_eq_true, h.1, h.2.1, hm]
    rw [if_neg (by omega), k]
    show some (i2 _) = some (i2 (s + (minL wt nt i + minW wt nt (i + 1) d)))
    rw [Int.add_assoc]
theorem c_minutes {p : Nat} {c : Int} {wt nt : Int → Int} (h : WR M p c wt nt) : fX10_minutesOfAll M p = some (i2 (minW wt nt 0 c.toNat)) := by
  have hc := h.2.2.2.2.1
  have k := c_minutes_L h c.toNat FL 0 0 (by show _ < 4096; omega) (by decide) (by omega) (by decide) (by omega)
  rw [Int.zero_add] at k
  exact k
end WALK
