section SINGLE
variable {M : Mm} {A : Int → Int}
theorem c_sPass {X : Mm} {o p q : Nat} {n fr to : Int} {L wt nt S : Int → Int} (hl : LayS X o) (sr : SRm X o S) (gs : GS S) (gl : GL L) (hL : LR X q L) (hw : WR X p n wt nt) (hq : Off q o) (h0 : Off p o) (h1 : Off (p + 1) o) (h2 : Off (p + 2) o) (t9 : -2147483648 ≤ to ∧ to < 2147483648) (f0 : 0 ≤ fr) (f9 : fr < 2147483648) : ∃ X', fX7_passWay X o p (i2 fr) (i2 to) q = some X' ∧ SRm X' o (wayS L wt nt fr (min to n - fr).toNat S) ∧ Same X X' o (o + 3) := by
  obtain ⟨C', R', W', e, r⟩ := c_passWay (C := gI X o) (R := gI X (o + 1)) (W := gI X (o + 2)) hl gl hq hL hw h0 h1 h2 t9 f0 f9 sr gs
  rw [st_self] at e
  exact ⟨_, e, SRm.st r (gs.way gl _ _), Same.st X o C' R' W'⟩
/-- a stocking of the tried drawer goes its way -/
def TS (X : Mm) (A : Int → Int) (k : Nat) (S : Int → Int) : Prop := LayC X ∧ CR X 1 A ∧ SRm X (71 + 11 + 3 * k) S ∧ GS S
theorem c_tPass {X : Mm} {k : Nat} {S : Int → Int} (t : TS X A k S) (g : GA A) (k8 : k < 8) {w fr to : Int} (e : 0 ≤ w ∧ w ≤ 1) (t9 : -2147483648 ≤ to ∧ to < 2147483648) (f0 : 0 ≤ fr) (f9 : fr < 2147483648) : ∃ X', fX7_passWay X (71 + 11 + 3 * k) (1 + 5 + 3 * w.toNat) (i2 fr) (i2 to) (1 + 1) = some X' ∧ TS X' A k (wayS (lwA A) (wtA A w) (ntA A w) fr (min to (A (12 + w)) - fr).toNat S) ∧ SmP TrP X X' := by
  obtain ⟨t1, t2, t3, t4⟩ := t
  obtain ⟨X', p1, p2, p3⟩ := c_sPass (d_lay (t_d71 t1) k8) t3 t4 g.2.2.2.2.2.1 (d_law (t_d1 t1) t2) (d_wrx (t_d1 t1) t2 g e) (by unfold Off; omega) (by unfold Off; omega) (by unfold Off; omega) (by unfold Off; omega) t9 f0 f9
  have s : SmP TrP X X' := TrP.of p3 (by omega) (by omega)
  exact ⟨X', p1, ⟨t1.sm s, TrP.cr s g t2, p2, t4.way g.2.2.2.2.2.1 _ _⟩, s⟩
theorem t_open {X : Mm} {k : Nat} {S : Int → Int} (t : TS X A k S) (k8 : k < 8) : fX7_openRungs X (71 + 11 + 3 * k) = some (i2 (opS S)) := by
  have q := c_openRungs (C := gI X (71 + 11 + 3 * k)) (R := gI X (71 + 11 + 3 * k + 1)) (W := gI X (71 + 11 + 3 * k + 2)) (d_lay (t_d71 t.1) k8) t.2.2.1 t.2.2.2
  rwa [st_self] at q
theorem ts_begin {X : Mm} {k : Nat} (hX : LayC X) (c : CR X 1 A) (g : GA A) (cd : CR X 71 A) (hk : (k : Int) < A 0) : TS X A k (stA A k) := ⟨hX, c, cd.2.2.2.2 k hk, g.2.2.2.2.2.2.2 k (by omega) hk⟩
/-- the same on the other side: a row that only differs in stockings -/
def Wk (A R : Int → Int) (k : Int) (S : Int → Int) : Prop := GA R ∧ (∀ y, y < 54 → R y = A y) ∧ E13 (stA R k) S
theorem pw_at {R : Int → Int} (g : GA R) {k : Int} (k0 : 0 ≤ k) (k1 : k < R 0) (hf : R 2 = k ∨ R 3 = k) {f : (Int → Int) → Int → Int} (he : Ex f) : E13 (stA (pwA R f) k) (f (stA R k)) := by
  have g2 := g.2.2.1
  have g3 := g.2.2.2.1
  have g4 := g.2.2.2.2.1
  have z : onA R f (R 2) 0 = R 0 := onA_lo (by decide)
  by_cases e : R 2 = k
  · have ne : R 3 ≠ k := by omega
    intro j a b
    have i1 : stA (onA R f (R 2)) k j = f (stA R k) j := by
      unfold onA
      rw [e, if_pos ⟨k0, k1⟩]
      exact st_put a b
    rw [← i1]
    show stA (onA (onA R f (R 2)) f (R 3)) k j = _
    rw [onA]
    by_cases q : 0 ≤ R 3 ∧ R 3 < onA R f (R 2) 0
    · rw [if_pos q]
      exact st_put_ne (by omega) a b
    · rw [if_neg q]
  · have e3 : R 3 = k := by omega
    have i1 : E13 (stA (onA R f (R 2)) k) (stA R k) := fun j a b => by
      unfold onA
      by_cases q : 0 ≤ R 2 ∧ R 2 < R 0
      · rw [if_pos q]
        exact st_put_ne (by omega) a b
      · rw [if_neg q]
    intro j a b
    show stA (onA (onA R f (R 2)) f (R 3)) k j = _
    rw [onA, e3, if_pos ⟨k0, by rw [z]; exact k1⟩, st_put a b]
    exact he _ _ i1 j a b
theorem Wk.pw {R S : Int → Int} {k : Int} (w : Wk A R k S) (k0 : 0 ≤ k) (k1 : k < A 0) (hf : A 2 = k ∨ A 3 = k) {f : (Int → Int) → Int → Int} (he : Ex f) (hg : ∀ S, GS S → GS (f S)) : Wk A (pwA R f) k (f S) := by
  obtain ⟨w1, w2, w3⟩ := w
  refine ⟨w1.pw hg, fun y hy => (pw_lo hy).trans (w2 y hy), ?_⟩
  exact (pw_at w1 k0 (by rw [w2 0 (by decide)]; exact k1) (by rw [w2 2 (by decide), w2 3 (by decide)]; exact hf) he).tr (he _ _ w3)
theorem Wk.rf (g : GA A) (k : Int) : Wk A A k (stA A k) := ⟨g, fun _ _ => rfl, fun _ _ _ => rfl⟩
theorem Wk.lw {R S : Int → Int} {k : Int} (w : Wk A R k S) {x f t : Int} (w0 : 0 ≤ x) (w1 : x ≤ 1) (f0 : 0 ≤ f) (t9 : t ≤ 10) : wayS (lwA R) (wtA R x) (ntA R x) f (t - f).toNat = wayS (lwA A) (wtA A x) (ntA A x) f (t - f).toNat :=
  wayS_cg2 (L := lwA A) (L' := lwA R) (wt := wtA A x) (wt' := wtA R x) (nt := ntA A x) (nt' := ntA R x) (fun j a b => w.2.1 _ (by omega)) _ _ fun j a b => ⟨w.2.1 _ (by omega), w.2.1 _ (by omega)⟩
theorem m_wPass {R S : Int → Int} {k : Int} (h : LayM M) (w : Wk A R k S) (g : GA A) (k0 : 0 ≤ k) (k1 : k < A 0) (hf : A 2 = k ∨ A 3 = k) {x fr to : Int} (e : 0 ≤ x ∧ x ≤ 1) (f0 : 0 ≤ fr) (ft : fr ≤ to) (t1 : to ≤ A (12 + x)) : ∃ R', fX12_walks (M.row 165 R) 164 (i2 x) (i2 fr) (i2 to) = some (M.row 165 R') ∧ Wk A R' k (wayS (lwA A) (wtA A x) (ntA A x) fr (to - fr).toNat S) := by
  have gc := g_wcnt g e
  have q := m_walks h w.1 (w := x) (fr := fr) (to := to) e.1 (by omega) f0 ft (by rw [w.2.1 _ (by omega)]; exact t1)
  rw [w.lw e.1 e.2 f0 (by omega)] at q
  exact ⟨_, q, w.pw k0 k1 hf (Ex.way _ _ _ _ _) fun S gs => gs.way g.2.2.2.2.2.1 _ _⟩
theorem m_wOpen {R S : Int → Int} {k : Int} (h : LayM M) (w : Wk A R k S) (k0 : 0 ≤ k) (k1 : k < A 0) : fX12_openOf (M.row 165 R) 164 (i2 k) = some (i2 (opS S)) := by
  rw [m_openOf h w.1 k0 (by rw [w.2.1 0 (by decide)]; exact k1), opS_e w.2.2]
/-- when -/
def whF (A : Int → Int) (w rg : Int) : Nat → (Int → Int) → Int → Int
  | 0, _, _ => -3
  | d + 1, S, n => if rg ≤ opS S then n else whF A w rg d (wayS (lwA A) (wtA A w) (ntA A w) n (min (n + 1) (A (12 + w)) - n).toNat S) (n + 1)
theorem c_when_L (g : GA A) {k : Nat} (k8 : k < 8) {w rg : Int} (e : 0 ≤ w ∧ w ≤ 1) (r0 : 1 ≤ rg) (r9 : rg ≤ 100) : ∀ (d N : Nat) (X : Mm) (S : Int → Int) (n : Int), TS X A k S → d < N → 0 ≤ n → n + d = A (12 + w) + 1 → ∃ X', fX11_when_L52 0 (i2 rg) (1 + 5 + 3 * w.toNat) (71 + 11 + 3 * k) N (i2 n) X = some (i2 (whF A w rg d S n), X') ∧ SmP TrP X X' := by
  have gc := g_wcnt g e
  intro d
  induction d with
  | zero =>
    intro N X S n t hN n0 hn
    obtain ⟨N, rfl⟩ : ∃ k, N = k + 1 := ⟨N - 1, by omega⟩
    have wr := d_wrx (t_d1 t.1) t.2.1 g e
    have q : A (12 + w) < n := by omega
    refine ⟨X, ?_, SmP.rf _ _⟩
    simp -dsimp (disch := omega) only [fX11_when_L52, ↓B1_bp, ↓B2_bp, BP_some, BQ_some, ↓reduceIte, L_0, L_1, L_2, L_3, L_4, L_5, L_6, L_7, L_8, L_9, L_10, L_11, L_12, L_13, L_54, L_14, L_99, L_20, L_30, L_31, L_60, L_19, i2_add, i2_sub, i2_mul, i2_neg, Int.reduceAdd, Int.reduceSub, Int.reduceMul, Int.reduceNeg, Int.reduceLT, Int.reduceLE, Int.reduceEq, i2_le, i2_lt, i2_eq, uA_self, uA_ne, tf_0, not_true_eq_false, not_false_eq_true, wr.2.1, q, if_true]
    rfl
  | succ d ih =>
    intro N X S n t hN n0 hn
    obtain ⟨N, rfl⟩ : ∃ k, N = k + 1 := ⟨N - 1, by omega⟩
    have wr := d_wrx (t_d1 t.1) t.2.1 g e
    have q : ¬ A (12 + w) < n := by omega
    have op := t_open t k8
    have ob := opS_b t.2.2.2
    have gk1 := d_gk10 (t_d71 t.1) k8
    show ∃ X', _ = some (i2 (if rg ≤ opS S then n else _), X') ∧ _
    by_cases r : rg ≤ opS S
    · have r2 : ¬ opS S < rg := by omega
      refine ⟨X, ?_, SmP.rf _ _⟩
      rw [if_pos r]
      simp -dsimp (disch := omega) only [fX11_when_L52, ↓B1_bp, ↓B2_bp, BP_some, BQ_some, ↓reduceIte, L_0, L_1, L_2, L_3, L_4, L_5, L_6, L_7, L_8, L_9, L_10, L_11, L_12, L_13, L_54, L_14, L_99, L_20, L_30, L_31, L_60, L_19, i2_add, i2_sub, i2_mul, i2_neg, Int.reduceAdd, Int.reduceSub, Int.reduceMul, Int.reduceNeg, Int.reduceLT, Int.reduceLE, Int.reduceEq, i2_le, i2_lt, i2_eq, uA_self, uA_ne, tf_0, not_true_eq_false, not_false_eq_true, wr.2.1, q, if_false, gk1, op, r2]
    · have r2 : opS S < rg := by omega
      obtain ⟨X1, p1, p2, p3⟩ := c_tPass t g k8 e (fr := n) (to := n + 1) (by omega) n0 (by omega)
      obtain ⟨X2, j1, j2⟩ := ih N X1 _ (n + 1) p2 (by omega) (by omega) (by omega)
      refine ⟨X2, ?_, p3.tr j2⟩
      rw [if_neg r, ← j1]
      have nw := t_now t.1
      have lw := d_laws (t_d1 t.1)
      have wr1 := wr.2.1
      clear ih j1 j2 t p2 wr g
      simp -dsimp (disch := omega) only [fX11_when_L52, ↓B1_bp, ↓B2_bp, BP_some, BQ_some, ↓reduceIte, L_0, L_1, L_2, L_3, L_4, L_5, L_6, L_7, L_8, L_9, L_10, L_11, L_12, L_13, L_54, L_14, L_99, L_20, L_30, L_31, L_60, L_19, i2_add, i2_sub, i2_mul, i2_neg, Int.reduceAdd, Int.reduceSub, Int.reduceMul, Int.reduceNeg, Int.reduceLT, Int.reduceLE, Int.reduceEq, i2_le, i2_lt, i2_eq, uA_self, uA_ne, tf_0, not_true_eq_false, not_false_eq_true, wr1, q, if_false, gk1, op, r2, if_true, nw, lw, p1]
theorem m_when_L {Z : Int → Int} (h : LayM M) (g : GA A) {k : Int} (k0 : 0 ≤ k) (k1 : k < A 0) (hf : A 2 = k ∨ A 3 = k) {w rg : Int} (e : 0 ≤ w ∧ w ≤ 1) (r0 : 1 ≤ rg) (r9 : rg ≤ 100) : ∀ (d N : Nat) (R S : Int → Int) (n : Int), Wk A R k S → GS S → d < N → 0 ≤ n → n + d = A (12 + w) + 1 → ∃ D', fX12_when_L64 164 (i2 w) (i2 rg) (i2 k) (i2 (A (12 + w))) N (i2 n) ((M.row 167 Z).row 165 R) = some (i2 (whF A w rg d S n), (M.row 167 Z).row 165 (mx Z D' 158)) := by
  have gc := g_wcnt g e
  have hm : LayM (M.row 167 Z) := h
  intro d
  induction d with
  | zero =>
    intro N R S n t gs hN n0 hn
    obtain ⟨N, rfl⟩ : ∃ k, N = k + 1 := ⟨N - 1, by omega⟩
    have q : A (12 + w) < n := by omega
    have lb := m_laysBack (X := Z) (A := R) h
    refine ⟨R, ?_⟩
    simp -dsimp (disch := omega) only [fX12_when_L64, ↓B1_bp, ↓B2_bp, BP_some, BQ_some, ↓reduceIte, L_0, L_1, L_2, L_3, L_4, L_5, L_6, L_7, L_8, L_9, L_10, L_11, L_12, L_13, L_54, L_14, L_99, L_20, L_30, L_31, L_60, L_19, i2_add, i2_sub, i2_mul, i2_neg, Int.reduceAdd, Int.reduceSub, Int.reduceMul, Int.reduceNeg, Int.reduceLT, Int.reduceLE, Int.reduceEq, i2_le, i2_lt, i2_eq, uA_self, uA_ne, tf_0, not_true_eq_false, not_false_eq_true, q, if_true, gk_row, gk_m hm, lb]
    rfl
  | succ d ih =>
    intro N R S n t gs hN n0 hn
    obtain ⟨N, rfl⟩ : ∃ k, N = k + 1 := ⟨N - 1, by omega⟩
    have q : ¬ A (12 + w) < n := by omega
    have op := m_wOpen hm t k0 k1
    have ob := opS_b gs
    have lb := m_laysBack (X := Z) (A := R) h
    show ∃ D', _ = some (i2 (if rg ≤ opS S then n else _), _)
    by_cases r : rg ≤ opS S
    · refine ⟨R, ?_⟩
      rw [if_pos r]
      simp -dsimp (disch := omega) only [fX12_when_L64, ↓B1_bp, ↓B2_bp, BP_some, BQ_some, ↓reduceIte, L_0, L_1, L_2, L_3, L_4, L_5, L_6, L_7, L_8, L_9, L_10, L_11, L_12, L_13, L_54, L_14, L_99, L_20, L_30, L_31, L_60, L_19, i2_add, i2_sub, i2_mul, i2_neg, Int.reduceAdd, Int.reduceSub, Int.reduceMul, Int.reduceNeg, Int.reduceLT, Int.reduceLE, Int.reduceEq, i2_le, i2_lt, i2_eq, uA_self, uA_ne, tf_0, not_true_eq_false, not_false_eq_true, q, if_false, gk_row, gk_m hm, op, r, if_true, lb]
    · have mn := i2_min (a := n + 1) (b := A (12 + w)) (by omega) (by omega) (by omega) (by omega)
      obtain ⟨R', p1, p2⟩ := m_wPass hm t g k0 k1 hf e (fr := n) (to := min (n + 1) (A (12 + w))) n0 (by omega) (by omega)
      obtain ⟨D', j1⟩ := ih N R' _ (n + 1) p2 (gs.way g.2.2.2.2.2.1 _ _) (by omega) (by omega) (by omega)
      refine ⟨D', ?_⟩
      rw [if_neg r, ← j1]
      clear ih j1 t p2 g
      simp -dsimp (disch := omega) only [fX12_when_L64, ↓B1_bp, ↓B2_bp, BP_some, BQ_some, ↓reduceIte, L_0, L_1, L_2, L_3, L_4, L_5, L_6, L_7, L_8, L_9, L_10, L_11, L_12, L_13, L_54, L_14, L_99, L_20, L_30, L_31, L_60, L_19, i2_add, i2_sub, i2_mul, i2_neg, Int.reduceAdd, Int.reduceSub, Int.reduceMul, Int.reduceNeg, Int.reduceLT, Int.reduceLE, Int.reduceEq, i2_le, i2_lt, i2_eq, uA_self, uA_ne, tf_0, not_true_eq_false, not_false_eq_true, q, if_false, gk_row, gk_m hm, op, r, mn, p1]
theorem on_foot {x : Int} (e : 0 ≤ x ∧ x ≤ 1) : A 2 = A (2 + x) ∨ A 3 = A (2 + x) := by
  have q : x = 0 ∨ x = 1 := by omega
  rcases q with rfl | rfl
  · exact Or.inl rfl
  · exact Or.inr rfl
theorem op_when (h : LayC M) (hm : LayM M) (c : CR M 1 A) (g : GA A) (ha : M.g 165 = rI A) {x y z : Int} (x0 : -2147483648 ≤ x) (x1 : x < 2147483648) (y0 : -2147483648 ≤ y) (y1 : y < 2147483648) (z0 : -2147483648 ≤ z) (z1 : z < 2147483648) (hi : Inv M) : Op M (fun M => fX11_when M 0 (i2 x) (i2 y) (i2 z)) (fun M => fX12_when M 164 (i2 x) (i2 y) (i2 z)) := by
  have g0 := g.1
  have q1 := c_wayAt (t_d1 h) y0 y1
  have q2 := c_isFoot M x0 x1
  have a1 := m_isTwo (M.row 165 A) x0 x1
  have a2 := m_isTwo (M.row 165 A) y0 y1
  by_cases e1 : 0 ≤ x ∧ x ≤ 1
  · rw [tf_t e1] at q2 a1
    have bf := b_feet g e1.1 e1.2
    by_cases e2 : 0 ≤ y ∧ y ≤ 1
    · rw [if_pos e2] at q1
      rw [tf_t e2] at a2
      have gc := g_wcnt g e2
      by_cases e3 : 1 ≤ z ∧ z ≤ 100
      · have te3 : tf (1 ≤ z ∧ z ≤ 100) = 1 := tf_t e3
        obtain ⟨X, k1, k2, k3⟩ := c_beginTrial h c g e1.1 e1.2
        have cX := TrP.cr k3 g c
        have hX := h.sm k3
        by_cases e4 : 0 ≤ A (2 + x)
        · have e5 : 0 ≤ A (2 + x) ∧ A (2 + x) < A 0 := ⟨e4, bf.2⟩
          have hk : (((A (2 + x)).toNat : Nat) : Int) = A (2 + x) := by omega
          rw [show stAt A 71 (A (2 + x)) = some (71 + 11 + 3 * (A (2 + x)).toNat) from if_pos e5] at k1
          have t0 := ts_begin (k := (A (2 + x)).toNat) hX cX g k2 (by omega)
          rw [hk] at t0
          obtain ⟨X2, p1, p2⟩ := c_when_L g (k := (A (2 + x)).toNat) (by omega) e2 e3.1 e3.2 (A (12 + y) + 1).toNat FL X _ 0 t0 (by show _ < 4096; omega) (by decide) (by omega)
          refine op_T (X := X2) (r := i2 (whF A y z (A (12 + y) + 1).toNat (stA A (A (2 + x))) 0)) hi hm ha g ?_ (TrP.scr (k3.tr p2)) (tr165 (k3.tr p2)) (TrP.cr p2 g cX) fun Y hY => ?_
          · unfold fX11_when
            simp -dsimp (disch := omega) only [↓B1_bp, ↓B2_bp, BP_some, BQ_some, ↓reduceIte, L_0, L_1, L_2, L_3, L_4, L_5, L_6, L_7, L_8, L_9, L_10, L_11, L_12, L_13, L_54, L_14, L_99, L_20, L_30, L_31, L_60, L_19, i2_add, i2_sub, i2_mul, i2_neg, Int.reduceAdd, Int.reduceSub, Int.reduceMul, Int.reduceNeg, Int.reduceLT, Int.reduceLE, Int.reduceEq, i2_le, i2_lt, i2_eq, uA_self, uA_ne, tf_0, not_true_eq_false, not_false_eq_true, L_15, L_40, L_100, L_101, L_200, L_999, ↓NL_bp, BNP_none, BNP_some, and_self, if_true, if_false, and_true, true_and, and_false, false_and, t_now h, d_gk (t_d1 h), q1, q2, c_isWithin, te3, t_gk h, k1, p1]
          · have a1 := m_isTwo (Y.row 165 A) x0 x1
            have a2 := m_isTwo (Y.row 165 A) y0 y1
            rw [tf_t e1] at a1
            rw [tf_t e2] at a2
            have l1 := m_lends (A := A) hY
            have hY2 : LayM (Y.row 167 (mx A (gI Y 167) 158)) := hY
            have l5 : alI ((Y.row 167 (mx A (gI Y 167) 158)).row 165 A) 165 (i2 (12 + y)) = some (i2 (A (12 + y))) := m_al hY2 (by omega) (by omega)
            obtain ⟨D', u1⟩ := m_when_L (Z := mx A (gI Y 167) 158) hY g e4 bf.2 (on_foot e1) e2 e3.1 e3.2 (A (12 + y) + 1).toNat FL A _ 0 (Wk.rf g _) (g.2.2.2.2.2.2.2 _ e4 bf.2) (by show _ < 4096; omega) (by decide) (by omega)
            refine ⟨mx A (gI Y 167) 158, mx (mx A (gI Y 167) 158) D' 158, ?_, e_back⟩
            have hX := hY
            unfold fX12_when
            simp -dsimp (disch := omega) only [↓B1_bp, ↓B2_bp, BP_some, BQ_some, ↓reduceIte, gk_row, rdN_row, alN_row, alN__row, gk_m hX, rdm0 hX, rdm1 hX, rdm2 hX, rdm3 hX, L_0, L_1, L_2, L_3, L_4, L_5, L_6, L_7, L_8, L_9, L_10, L_11, L_12, L_13, L_54, L_14, L_99, L_20, L_30, L_31, L_60, L_19, i2_add, i2_sub, i2_mul, i2_neg, Int.reduceAdd, Int.reduceSub, Int.reduceMul, Int.reduceNeg, Int.reduceLT, Int.reduceLE, Int.reduceEq, i2_le, i2_lt, i2_eq, J_0, J_1, J_2, J_3, J_5, J_7, J_8, J_9, J_10, J_13, J_15, J_30, J_60, J_99, J_100, J_999, J_n1, i2_j2, m_in, tf_0, not_true_eq_false, not_false_eq_true, m_al hX, L_15, L_40, L_100, L_101, L_190, L_200, L_999, uA_self, and_self, if_true, if_false, and_true, true_and, and_false, false_and, a1, a2, te3, e4, l1, l5, u1]
        · rw [show stAt A 71 (A (2 + x)) = none from if_neg (fun q => e4 q.1)] at k1
          refine op_T0 (X := X) (r := i2 (-3)) hi hm ha g ?_ (TrP.scr k3) (tr165 k3) cX fun Y hY => ?_
          · unfold fX11_when
            simp -dsimp (disch := omega) only [↓B1_bp, ↓B2_bp, BP_some, BQ_some, ↓reduceIte, L_0, L_1, L_2, L_3, L_4, L_5, L_6, L_7, L_8, L_9, L_10, L_11, L_12, L_13, L_54, L_14, L_99, L_20, L_30, L_31, L_60, L_19, i2_add, i2_sub, i2_mul, i2_neg, Int.reduceAdd, Int.reduceSub, Int.reduceMul, Int.reduceNeg, Int.reduceLT, Int.reduceLE, Int.reduceEq, i2_le, i2_lt, i2_eq, uA_self, uA_ne, tf_0, not_true_eq_false, not_false_eq_true, L_15, L_40, L_100, L_101, L_200, L_999, ↓NL_bp, BNP_none, BNP_some, and_self, if_true, if_false, and_true, true_and, and_false, false_and, t_now h, d_gk (t_d1 h), q1, q2, c_isWithin, te3, t_gk h, k1]
          · have a1 := m_isTwo (Y.row 165 A) x0 x1
            have a2 := m_isTwo (Y.row 165 A) y0 y1
            rw [tf_t e1] at a1
            rw [tf_t e2] at a2
            have hX := hY
            unfold fX12_when
            simp -dsimp (disch := omega) only [↓B1_bp, ↓B2_bp, BP_some, BQ_some, ↓reduceIte, gk_row, rdN_row, alN_row, alN__row, gk_m hX, rdm0 hX, rdm1 hX, rdm2 hX, rdm3 hX, L_0, L_1, L_2, L_3, L_4, L_5, L_6, L_7, L_8, L_9, L_10, L_11, L_12, L_13, L_54, L_14, L_99, L_20, L_30, L_31, L_60, L_19, i2_add, i2_sub, i2_mul, i2_neg, Int.reduceAdd, Int.reduceSub, Int.reduceMul, Int.reduceNeg, Int.reduceLT, Int.reduceLE, Int.reduceEq, i2_le, i2_lt, i2_eq, J_0, J_1, J_2, J_3, J_5, J_7, J_8, J_9, J_10, J_13, J_15, J_30, J_60, J_99, J_100, J_999, J_n1, i2_j2, m_in, tf_0, not_true_eq_false, not_false_eq_true, m_al hX, L_15, L_40, L_100, L_101, L_190, L_200, L_999, uA_self, and_self, if_true, if_false, and_true, true_and, and_false, false_and, a1, a2, te3, e4]
      · have te3 : tf (1 ≤ z ∧ z ≤ 100) = 0 := tf_f e3
        refine OpR.op hi (opR_keep (r := i2 (-1)) c g ha ?_ ?_)
        · unfold fX11_when
          simp -dsimp (disch := omega) only [↓B1_bp, ↓B2_bp, BP_some, BQ_some, ↓reduceIte, L_0, L_1, L_2, L_3, L_4, L_5, L_6, L_7, L_8, L_9, L_10, L_11, L_12, L_13, L_54, L_14, L_99, L_20, L_30, L_31, L_60, L_19, i2_add, i2_sub, i2_mul, i2_neg, Int.reduceAdd, Int.reduceSub, Int.reduceMul, Int.reduceNeg, Int.reduceLT, Int.reduceLE, Int.reduceEq, i2_le, i2_lt, i2_eq, uA_self, uA_ne, tf_0, not_true_eq_false, not_false_eq_true, L_15, L_40, L_100, L_101, L_200, L_999, ↓NL_bp, BNP_none, BNP_some, and_self, if_true, if_false, and_true, true_and, and_false, false_and, t_now h, d_gk (t_d1 h), q1, q2, c_isWithin, te3]
        · unfold fX12_when
          simp -dsimp (disch := omega) only [↓B1_bp, ↓B2_bp, BP_some, BQ_some, ↓reduceIte, gk_row, rdN_row, alN_row, alN__row, gk_m hm, rdm0 hm, rdm1 hm, rdm2 hm, rdm3 hm, L_0, L_1, L_2, L_3, L_4, L_5, L_6, L_7, L_8, L_9, L_10, L_11, L_12, L_13, L_54, L_14, L_99, L_20, L_30, L_31, L_60, L_19, i2_add, i2_sub, i2_mul, i2_neg, Int.reduceAdd, Int.reduceSub, Int.reduceMul, Int.reduceNeg, Int.reduceLT, Int.reduceLE, Int.reduceEq, i2_le, i2_lt, i2_eq, J_0, J_1, J_2, J_3, J_5, J_7, J_8, J_9, J_10, J_13, J_15, J_30, J_60, J_99, J_100, J_999, J_n1, i2_j2, m_in, tf_0, not_true_eq_false, not_false_eq_true, m_al hm, L_15, L_40, L_100, L_101, L_190, L_200, L_999, uA_self, and_self, if_true, if_false, and_true, true_and, and_false, false_and, a1, a2, te3]
    · rw [if_neg e2] at q1
      rw [tf_f e2] at a2
      refine OpR.op hi (opR_keep (r := i2 (-1)) c g ha ?_ ?_)
      · unfold fX11_when
        simp -dsimp (disch := omega) only [↓B1_bp, ↓B2_bp, BP_some, BQ_some, ↓reduceIte, L_0, L_1, L_2, L_3, L_4, L_5, L_6, L_7, L_8, L_9, L_10, L_11, L_12, L_13, L_54, L_14, L_99, L_20, L_30, L_31, L_60, L_19, i2_add, i2_sub, i2_mul, i2_neg, Int.reduceAdd, Int.reduceSub, Int.reduceMul, Int.reduceNeg, Int.reduceLT, Int.reduceLE, Int.reduceEq, i2_le, i2_lt, i2_eq, uA_self, uA_ne, tf_0, not_true_eq_false, not_false_eq_true, L_15, L_40, L_100, L_101, L_200, L_999, ↓NL_bp, BNP_none, BNP_some, and_self, if_true, if_false, and_true, true_and, and_false, false_and, t_now h, d_gk (t_d1 h), q1, q2]
      · unfold fX12_when
        simp -dsimp (disch := omega) only [↓B1_bp, ↓B2_bp, BP_some, BQ_some, ↓reduceIte, gk_row, rdN_row, alN_row, alN__row, gk_m hm, rdm0 hm, rdm1 hm, rdm2 hm, rdm3 hm, L_0, L_1, L_2, L_3, L_4, L_5, L_6, L_7, L_8, L_9, L_10, L_11, L_12, L_13, L_54, L_14, L_99, L_20, L_30, L_31, L_60, L_19, i2_add, i2_sub, i2_mul, i2_neg, Int.reduceAdd, Int.reduceSub, Int.reduceMul, Int.reduceNeg, Int.reduceLT, Int.reduceLE, Int.reduceEq, i2_le, i2_lt, i2_eq, J_0, J_1, J_2, J_3, J_5, J_7, J_8, J_9, J_10, J_13, J_15, J_30, J_60, J_99, J_100, J_999, J_n1, i2_j2, m_in, tf_0, not_true_eq_false, not_false_eq_true, m_al hm, L_15, L_40, L_100, L_101, L_190, L_200, L_999, uA_self, and_self, if_true, if_false, and_true, true_and, and_false, false_and, a1, a2]
  · rw [tf_f e1] at q2 a1
    refine OpR.op hi (opR_keep (r := i2 (-1)) c g ha ?_ ?_)
    · unfold fX11_when
      simp -dsimp (disch := omega) only [↓B1_bp, ↓B2_bp, BP_some, BQ_some, ↓reduceIte, L_0, L_1, L_2, L_3, L_4, L_5, L_6, L_7, L_8, L_9, L_10, L_11, L_12, L_13, L_54, L_14, L_99, L_20, L_30, L_31, L_60, L_19, i2_add, i2_sub, i2_mul, i2_neg, Int.reduceAdd, Int.reduceSub, Int.reduceMul, Int.reduceNeg, Int.reduceLT, Int.reduceLE, Int.reduceEq, i2_le, i2_lt, i2_eq, uA_self, uA_ne, tf_0, not_true_eq_false, not_false_eq_true, L_15, L_40, L_100, L_101, L_200, L_999, ↓NL_bp, BNP_none, BNP_some, and_self, if_true, if_false, and_true, true_and, and_false, false_and, t_now h, d_gk (t_d1 h), q1, q2]
    · unfold fX12_when
      simp -dsimp (disch := omega) only [↓B1_bp, ↓B2_bp, BP_some, BQ_some, ↓reduceIte, gk_row, rdN_row, alN_row, alN__row, gk_m hm, rdm0 hm, rdm1 hm, rdm2 hm, rdm3 hm, L_0, L_1, L_2, L_3, L_4, L_5, L_6, L_7, L_8, L_9, L_10, L_11, L_12, L_13, L_54, L_14, L_99, L_20, L_30, L_31, L_60, L_19, i2_add, i2_sub, i2_mul, i2_neg, Int.reduceAdd, Int.reduceSub, Int.reduceMul, Int.reduceNeg, Int.reduceLT, Int.reduceLE, Int.reduceEq, i2_le, i2_lt, i2_eq, J_0, J_1, J_2, J_3, J_5, J_7, J_8, J_9, J_10, J_13, J_15, J_30, J_60, J_99, J_100, J_999, J_n1, i2_j2, m_in, tf_0, not_true_eq_false, not_false_eq_true, m_al hm, L_15, L_40, L_100, L_101, L_190, L_200, L_999, uA_self, and_self, if_true, if_false, and_true, true_and, and_false, false_and, a1]
end SINGLE
