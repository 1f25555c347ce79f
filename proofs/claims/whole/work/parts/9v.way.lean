section WAYT
variable {X0 Y0 X Y : Mm} {T : Int → Int} {L z : Int} {c i : Nat} {f : Int} {A : Int → Int}
theorem mvt_lt (k : TkF T L X0 c) (hi : i ≤ c) (h : 0 ≤ mvt X0 T i) : i < c := by
  unfold mvt at h
  split at h
  · next w => exact wdt_lt k hi (by decide) w
  · split at h
    · next w => exact wdt_lt k hi (by decide) w
    · split at h
      · next w => exact wdt_lt k hi (by decide) w
      · split at h
        · next w => exact wdt_lt k hi (by decide) w
        · omega
theorem legA_1 {w a b : Int} (w0 : 0 ≤ w) (n0 : 0 ≤ A (12 + w)) : legA (uA A 1 z) w a b = uA (legA A w a b) 1 z := by
  have e : uA A 1 z (12 + w) = A (12 + w) := uA_ne (by omega)
  unfold legA
  rw [e]
  funext j
  by_cases h1 : j = 1
  · rw [h1, uA_self, uA_ne (by omega), uA_ne (by omega), uA_ne (by omega), uA_self]
  · rw [uA_ne (x := 1) (v := z) h1]
    unfold uA
    repeat' split
    all_goals first | rfl | omega
theorem way_k {w : Nat} (h : LayC X) (w2 : w < 2) : X.k (111 + 5 + 3 * w) = 13 := ((t_d111 h).2.2.2.2.2.1 w w2).2.1
theorem cl_leg {w : Nat} (w2 : w < 2) (k : TkF T L X0 c) (s : CS X0 X T L c i 0 A) (m : MS X0 Y0 Y T L z i 0 A) : ∃ (i' : Nat) (f' : Int) (A' : Int → Int) (X' Y' : Mm), (i ≤ i' ∧ i' ≤ c) ∧ (f' = 0 → i < i') ∧ fX8_takeLeg X 109 (111 + 5 + 3 * w) = some X' ∧ CS X0 X' T L c i' f' A' ∧ (∀ N, fX12_wayTold_L12 164 (i2 w) (N + 1) (i2 1) Y = B1 (gk Y' 164 15) fun _ => B2 (fX12_takes Y' 164 20) fun x M => fX12_wayTold_L12 164 (i2 w) N x M) ∧ MS X0 Y0 Y' T L z i' f' A' := by
  have ic := s.2.2.2.2.1.1
  obtain ⟨ok, g, cr⟩ := s.ok
  have mb := mvt_b X0 T i
  have wk := way_k s.1 w2
  have gw := (g.2.2.2.2.2.2.1 w (by omega) (by omega)).1
  have cw : gI X (111 + 5 + 3 * w) 0 = A (12 + w) := (cr.2.2.2.1 w w2).1
  have rw0 : rdI X (111 + 5 + 3 * w) 13 0 = some (i2 (A (12 + w))) := by
    rw [g_rdI wk, ← cw]
    rfl
  have rA := m.at (x := 12 + w) (by omega) (by omega) (by omega)
  have eA : (i2 (A (12 + w)) = 10) = (A (12 + w) = 10) := i2_eq (b := 10) (by omega) (by omega) (by decide) (by decide)
  have nb := nmt_b X0 T (i + 1)
  have n1 : ¬ i2 1 = 0 := by decide
  have ad : (12 : Int32) + i2 w = i2 (12 + w) := i2_add 12 w
  by_cases e : 0 ≤ mvt X0 T i ∧ A (12 + w) < 10
  · have i0 := mvt_lt k ic e.1
    obtain ⟨X1, a1, a2⟩ := c_take1 s i0
    obtain ⟨Y1, m1, m2⟩ := m.set (v := 0) (Or.inl rfl)
    obtain ⟨Y2, m3, m4⟩ := m2.nx k i0
    have pre : ∀ V X2, fX8_takeNumber X1 109 (i2 1) (i2 60) = some (V, X2) → fX8_takeLeg X 109 (111 + 5 + 3 * w) = B1 (rdI X2 109 11 8) fun x36 => if 0 ≤ x36 then some X2 else B1 (gk X2 (111 + 5 + 3 * w) 13) fun _ => B2 (fX10_addLeg X2 (111 + 5 + 3 * w) (i2 (mvt X0 T i)) V) fun x45 M45 => some M45 := fun V X2 h => by
      unfold fX8_takeLeg
      rw [s.gkk, B1_some, s.move, B1_some, if_neg (show ¬ i2 (mvt X0 T i) < 0 by rw [L_0, i2_lt (by omega) (by omega) (by decide) (by decide)]; omega), rw0, B1_some, if_neg (show ¬ 10 ≤ i2 (A (12 + w)) by rw [L_10, i2_le (by decide) (by decide) (by omega) (by omega)]; omega), B1_some, L_1, a1, B1_some, a2.gkk, B1_some, L_60, h, B2_some]
    have preM : ∀ V Y3 N, fX12_number Y2 164 (i2 1) (i2 60) = some (V, Y3) → fX12_wayTold_L12 164 (i2 w) (N + 1) (i2 1) Y = B1 (rdI Y3 164 15 9) fun x76 => if x76 = 0 then B1 (rdN Y3 164 15 3) fun a83 => B1 (fX12_goes Y3 a83 (i2 w) (i2 (mvt X0 T i)) V) fun M90 => B1 (gk M90 164 15) fun _ => B2 (fX12_takes M90 164 20) fun x97 M97 => fX12_wayTold_L12 164 (i2 w) N x97 M97 else B1 (gk Y3 164 15) fun _ => B2 (fX12_takes Y3 164 20) fun x97 M97 => fX12_wayTold_L12 164 (i2 w) N x97 M97 := fun V Y3 N h => by
      rw [fX12_wayTold_L12, if_neg n1, m.r9, B1_some, if_pos (show i2 0 = 0 from rfl), m.gkk, B1_some, m.move k ic, B1_some, if_neg (show ¬ i2 (mvt X0 T i) < 0 by rw [L_0, i2_lt (by omega) (by omega) (by decide) (by decide)]; omega), m_r3 m.1, B1_some, ad, rA, B1_some, if_neg (fun z => by have := eA.mp z; omega), L_0, m1, B1_some, m2.r9, B1_some, if_pos rfl, m2.gkk, B1_some, m3, B1_some, m4.gkk, B1_some, L_1, L_60, h, B2_some]
    by_cases e2 : 1 ≤ nmt X0 T (i + 1) ∧ nmt X0 T (i + 1) ≤ 60
    · have i1 := nmt_lt k a2.2.2.2.2.1.1 (by omega)
      obtain ⟨X2, b1, b2⟩ := c_tn1 a2 (a := 1) (b := 60) (by decide) e2.1 e2.2 (by decide) i1
      obtain ⟨Y3, p1, p2⟩ := m_num1 k a2.2.2.2.2.1.1 m4 (a := 1) (b := 60) (by decide) e2.1 e2.2 (by decide)
      obtain ⟨ok2, g2, cr2⟩ := b2.ok
      have hD := t_d111 b2.1
      obtain ⟨X3, q1, q2, q3⟩ := c_addLeg hD cr2 g2 w2 e.2 (a := mvt X0 T i) (b := nmt X0 T (i + 1)) e.1 mb.2 (by omega) e2.2
      have g3 := g2.addLeg (w := w) (by omega) (by omega) e.2 (a := mvt X0 T i) (b := nmt X0 T (i + 1)) e.1 mb.2 e2.1 e2.2
      have st := b2.told ⟨q3.1, fun p hp => q3.2 p fun y => hp (by omega)⟩ g3 q2
      have go := m_goes (M := Y3) (A := uA A 1 z) (p := 168) (ar_f p2.1) (w := w) (a := mvt X0 T i) (b := nmt X0 T (i + 1)) (by omega) (by omega) (by rw [uA_ne (by omega)]; omega) (by rw [uA_ne (by omega)]; exact e.2)
      rw [← row_of (p2.2.2.2.2.2.2 rfl), legA_1 (by omega) (by omega)] at go
      refine ⟨i + 1 + 1, 0, _, X3, _, ⟨by omega, b2.2.2.2.2.1.1⟩, fun _ => by omega, ?_, st, fun N => ?_, p2.row (A' := legA A w (mvt X0 T i) (nmt X0 T (i + 1))) fun _ => rfl⟩
      · rw [pre _ X2 b1, ok2, B1_some, if_neg (by decide), show gk X2 (111 + 5 + 3 * w) 13 = some () from if_pos (way_k b2.1 w2), B1_some, q1, B2_some]
      · rw [preM _ Y3 N p1, p2.r9, B1_some, if_pos (show i2 0 = 0 from rfl), m_r3 p2.1, B1_some, go, B1_some]
    · obtain ⟨X2, b1, b2⟩ := c_tn0 a2 (a := 1) (b := 60) (by decide) (by decide) (by decide) (by decide) (Or.inr e2)
      obtain ⟨Y3, p1, p2⟩ := m_num0 k a2.2.2.2.2.1.1 m4 (a := 1) (b := 60) (by decide) (by decide) (by decide) (by decide) e2
      obtain ⟨ft, f0, f1, f2⟩ := b2.flt
      refine ⟨i + 1, 1, A, X2, Y3, ⟨by omega, b2.2.2.2.2.1.1⟩, fun w => absurd w (by decide), ?_, b2, fun N => ?_, p2⟩
      · rw [pre _ X2 b1, f2, B1_some, if_pos (by rw [L_0, i2_le (by decide) (by decide) (by omega) (by omega)]; exact f0)]
      · rw [preM _ Y3 N p1, p2.r9, B1_some, if_neg n1]
  · obtain ⟨X1, a1, a2⟩ := c_take0 s
    obtain ⟨Y1, m1, m2⟩ := m.set (v := 1) (Or.inr rfl)
    obtain ⟨ft, f0, f1, f2⟩ := a2.flt
    have fin : (B1 (gk X 109 11) fun _ => B1 (fX8_take X 109 (i2 0)) fun M24 => B1 (gk M24 109 11) fun _ => B2 (fX8_takeNumber M24 109 (i2 1) (i2 60)) fun x31 M31 => B1 (rdI M31 109 11 8) fun x36 => if i2 0 ≤ x36 then some M31 else B1 (gk M31 (111 + 5 + 3 * w) 13) fun _ => B2 (fX10_addLeg M31 (111 + 5 + 3 * w) (i2 (mvt X0 T i)) x31) fun x45 M45 => some M45) = some X1 := by
      rw [s.gkk, B1_some, a1, B1_some, a2.gkk, B1_some, c_tnF a2, B2_some, f2, B1_some, if_pos (by rw [i2_le (by decide) (by decide) (by omega) (by omega)]; exact f0)]
    refine ⟨i, 1, A, X1, Y1, ⟨by omega, ic⟩, fun w => absurd w (by decide), ?_, a2, fun N => ?_, m2⟩
    · unfold fX8_takeLeg
      rw [L_0, L_1, L_60]
      rw [s.gkk] at fin ⊢
      rw [B1_some, s.move, B1_some]
      by_cases y : mvt X0 T i < 0
      · rw [if_pos (show i2 (mvt X0 T i) < i2 0 by rw [i2_lt (by omega) (by omega) (by decide) (by decide)]; omega)]
        exact fin
      · rw [if_neg (show ¬ i2 (mvt X0 T i) < i2 0 by rw [i2_lt (by omega) (by omega) (by decide) (by decide)]; omega), rw0, B1_some, if_pos (show 10 ≤ i2 (A (12 + w)) by rw [L_10, i2_le (by decide) (by decide) (by omega) (by omega)]; omega)]
        exact fin
    · rw [fX12_wayTold_L12, if_neg n1, m.r9, B1_some, if_pos (show i2 0 = 0 from rfl), m.gkk, B1_some, m.move k ic, B1_some]
      by_cases y : mvt X0 T i < 0
      · rw [if_pos (show i2 (mvt X0 T i) < 0 by rw [L_0, i2_lt (by omega) (by omega) (by decide) (by decide)]; omega), L_1, m1, B1_some, m2.r9, B1_some, if_neg n1]
      · rw [if_neg (show ¬ i2 (mvt X0 T i) < 0 by rw [L_0, i2_lt (by omega) (by omega) (by decide) (by decide)]; omega), m_r3 m.1, B1_some, ad, rA, B1_some, if_pos (eA.mpr (by omega)), L_1, m1, B1_some, m2.r9, B1_some, if_neg n1]
theorem cl_wayL {w : Nat} (w2 : w < 2) (k : TkF T L X0 c) : ∀ (n N N' : Nat) (X Y : Mm) (i : Nat) (f v : Int) (A : Int → Int), n + i = c → CS X0 X T L c i f A → MS X0 Y0 Y T L z i f A → 0 ≤ v → v ≤ i → n < N → n + 1 < N' → ∃ (i' : Nat) (f' : Int) (A' : Int → Int) (X' Y1 Y' : Mm), (i ≤ i' ∧ i' ≤ c) ∧ (f' = 0 → i < i') ∧ fX8_takeWay_L17 109 (111 + 5 + 3 * w) N (i2 v) X = some X' ∧ CS X0 X' T L c i' f' A' ∧ (B1 (gk Y 164 15) fun _ => B2 (fX12_takes Y 164 20) fun x M => fX12_wayTold_L12 164 (i2 w) N' x M) = some Y1 ∧ (B1 (gk Y1 164 15) fun _ => B1 (fX12_wants Y1 164 21) fun M => some M) = some Y' ∧ MS X0 Y0 Y' T L z i' f' A' := by
  have u : ∀ (N : Nat) (v : Int32) (M : Mm), fX8_takeWay_L17 109 (111 + 5 + 3 * w) (N + 1) v M = B1 (rdI M 109 11 6) fun x19 => if x19 ≤ v then (B1 (gk M 109 11) fun _ => B1 (fX8_isSign M 109 (i2 59)) fun x61 => B1 (gk M 109 11) fun _ => B1 (fX8_take M 109 x61) fun M64 => some M64) else B1 (rdI M 109 11 8) fun x26 => if i2 0 ≤ x26 then (B1 (gk M 109 11) fun _ => B1 (fX8_isSign M 109 (i2 59)) fun x61 => B1 (gk M 109 11) fun _ => B1 (fX8_take M 109 x61) fun M64 => some M64) else B1 (gk M 109 11) fun _ => B1 (fX8_isSign M 109 (i2 44)) fun x35 => if x35 = i2 0 then (B1 (gk M 109 11) fun _ => B1 (fX8_isSign M 109 (i2 59)) fun x61 => B1 (gk M 109 11) fun _ => B1 (fX8_take M 109 x61) fun M64 => some M64) else B1 (gk M 109 11) fun _ => B1 (fX8_take M 109 (i2 1)) fun M43 => B1 (gk M43 109 11) fun _ => B1 (fX8_takeLeg M43 109 (111 + 5 + 3 * w)) fun M48 => fX8_takeWay_L17 109 (111 + 5 + 3 * w) N (v + i2 1) M48 := fun _ _ _ => rfl
  have u0 : ∀ (N : Nat) (M : Mm), fX12_wayTold_L12 164 (i2 w) (N + 1) (i2 0) M = some M := fun _ _ => rfl
  have c9 := k.2.1
  intro n
  induction n using Nat.strongRecOn with
  | _ n ih =>
    intro N N' X Y i f v A hn s m v0 vi hN hN'
    obtain ⟨N, rfl⟩ : ∃ k, N = k + 1 := ⟨N - 1, by omega⟩
    obtain ⟨N', rfl⟩ : ∃ k, N' = k + 1 + 1 := ⟨N' - 2, by omega⟩
    have ic := s.2.2.2.2.1.1
    have r6 : rdI X 109 11 6 = some (i2 (c + 1)) := by rw [tp_rd s.1 6, ← s.2.2.2.1.1]; rfl
    have g6 : ¬ i2 (c + 1) ≤ i2 v := by rw [i2_le (by omega) (by omega) (by omega) (by omega)]; omega
    rcases s.2.2.2.2.2 with ⟨rfl, -⟩ | ⟨rfl, -⟩
    · obtain ⟨ok, g, cr⟩ := s.ok
      rcases wdt_01 X0 T i 20 with e | e
      · rcases wdt_01 X0 T i 21 with e2 | e2
        · obtain ⟨X1, a1, a2⟩ := c_take0 s
          obtain ⟨Y1, b1, b2⟩ := m_wants0 k ic m (q := 21) (by decide) e2
          refine ⟨i, 1, A, X1, Y, Y1, ⟨by omega, ic⟩, fun w => absurd w (by decide), ?_, a2, ?_, ?_, b2⟩
          · rw [u, r6, B1_some, if_neg g6, ok, B1_some, if_neg (by decide), s.gkk, B1_some, s.sign.2, B1_some, e, if_pos rfl, B1_some, s.sign.1, B1_some, B1_some, e2, a1, B1_some]
          · rw [m.gkk, B1_some, m_takes0 k ic m (by decide) e, B2_some, u0]
          · rw [m.gkk, B1_some, b1, B1_some]
        · have i0 := wdt_lt k ic (by decide) e2
          obtain ⟨X1, a1, a2⟩ := c_take1 s i0
          obtain ⟨Y1, b1, b2⟩ := m_wants1 k ic m (q := 21) (by decide) e2
          refine ⟨i + 1, 0, A, X1, Y, Y1, ⟨by omega, i0⟩, fun w => by omega, ?_, a2, ?_, ?_, b2⟩
          · rw [u, r6, B1_some, if_neg g6, ok, B1_some, if_neg (by decide), s.gkk, B1_some, s.sign.2, B1_some, e, if_pos rfl, B1_some, s.sign.1, B1_some, B1_some, e2, a1, B1_some]
          · rw [m.gkk, B1_some, m_takes0 k ic m (by decide) e, B2_some, u0]
          · rw [m.gkk, B1_some, b1, B1_some]
      · have i0 := wdt_lt k ic (by decide) e
        obtain ⟨X1, a1, a2⟩ := c_take1 s i0
        obtain ⟨Y1, b1, b2⟩ := m_takes1 k ic m (q := 20) (by decide) e
        obtain ⟨j, f', A', X2, Y2, j1, j2, j3, j4, j5, j6⟩ := cl_leg w2 k a2 b2
        obtain ⟨i', f'', A'', X', Y3, Y', k1, k2, k3, k4, k5, k6, k7⟩ := ih (c - j) (by omega) N (N' + 1) X2 Y2 j f' (v + 1) A' (by omega) j4 j6 (by omega) (by omega) (by omega) (by omega)
        refine ⟨i', f'', A'', X', Y3, Y', ⟨by omega, k1.2⟩, fun w => by omega, ?_, k4, ?_, k6, k7⟩
        · rw [u, r6, B1_some, if_neg g6, ok, B1_some, if_neg (by decide), s.gkk, B1_some, s.sign.2, B1_some, e, if_neg (by decide), B1_some, a1, B1_some, a2.gkk, B1_some, j3, B1_some, i2_add]
          exact k3
        · rw [m.gkk, B1_some, b1, B2_some, j5]
          exact k5
    · obtain ⟨ft, f0, f1, f2⟩ := s.flt
      refine ⟨i, 1, A, X, Y, Y, ⟨by omega, ic⟩, fun w => absurd w (by decide), ?_, s, ?_, ?_, m⟩
      · rw [u, r6, B1_some, if_neg g6, f2, B1_some, if_pos (by rw [i2_le (by decide) (by decide) (by omega) (by omega)]; exact f0), s.gkk, B1_some, s.sign.1, B1_some, B1_some, c_takeF s, B1_some]
      · rw [m.gkk, B1_some, m_takesF m, B2_some, u0]
      · rw [m.gkk, B1_some, m_wantsF m, B1_some]
theorem cl_way {w : Nat} (w2 : w < 2) (k : TkF T L X0 c) {q : Nat} (hq : q < 20) (s : CS X0 X T L c i 0 A) (wd : wdt X0 T i q = 1) (m : MS X0 Y0 Y T L z (i + 1) 0 A) : Cl X0 Y0 T L z c i (fX8_takeWay X 109 (111 + 5 + 3 * w)) (B1 (fX12_wayTold Y 164 (i2 w)) fun M => B1 (gk M 164 15) fun _ => B1 (fX12_wants M 164 21) fun M => some M) := by
  have c9 := k.2.1
  obtain ⟨X1, a1, a2⟩ := c_take1 s (wdt_lt k s.2.2.2.2.1.1 (by omega) wd)
  obtain ⟨ok, g, cr⟩ := a2.ok
  have gw := (g.2.2.2.2.2.2.1 w (by omega) (by omega)).1
  have wr := g_wrI (M := X1) (p := 111 + 5 + 3 * w) (kd := 13) (j := 0) (v := 0) (way_k a2.1 w2) (by decide)
  rw [show ((0 : Nat) : Int) = 0 from rfl] at wr
  have st := a2.told (SmP.row X1 (uA (gI X1 (111 + 5 + 3 * w)) 0 0) (p := 111 + 5 + 3 * w) (by omega)) (g.wcnt (w := w) (v := 0) (by omega) (by omega) (by decide) gw.1) (cr.wcnt g w2 (v := 0) (by decide) gw.1)
  generalize X1.row (111 + 5 + 3 * w) (uA (gI X1 (111 + 5 + 3 * w)) 0 0) = X2 at wr st
  obtain ⟨Y1, b1, b2⟩ := m.as (x := 12 + w) (v := 0) (by omega) (by omega) (by omega)
  obtain ⟨j, f', A', X3, Y2, j1, j2, j3, j4, j5, j6⟩ := cl_leg w2 k st b2
  obtain ⟨i', f'', A'', X', Y3, Y', k1, k2, k3, k4, k5, k6, k7⟩ := cl_wayL w2 k (c - j) FL 4095 X3 Y2 j f' 0 A' (by omega) j4 j6 (by decide) (by omega) (by show _ < 4096; omega) (by omega)
  refine ⟨i', f'', A'', X', Y', ⟨by omega, k1.2⟩, fun w => by omega, ?_, k4, ?_, k7⟩
  · unfold fX8_takeWay
    rw [s.gkk, B1_some, L_1, a1, B1_some, L_0, wr, B1_some, st.gkk, B1_some, j3, B1_some, k3]
  · unfold fX12_wayTold
    rw [m_r3 m.1, B1_some, L_0, L_1, show (12 : Int32) + i2 w = i2 (12 + w) from i2_add 12 w, b1, B1_some, show FL = 4095 + 1 from rfl, j5, k5, B1_some]
    exact k6
end WAYT
