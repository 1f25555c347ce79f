section STOCKT
variable {X0 Y0 X Y : Mm} {T : Int → Int} {L z : Int} {c i : Nat} {f : Int} {A : Int → Int}
theorem Cl.up {j : Nat} {fc fm : Option Mm} (h : i ≤ j) (k : Cl X0 Y0 T L z c j fc fm) : Cl X0 Y0 T L z c i fc fm := by
  obtain ⟨i', f', A', X', Y', k1, k2, k3⟩ := k
  exact ⟨i', f', A', X', Y', ⟨by omega, k1.2⟩, fun w => by have := k2 w; omega, k3⟩
theorem Cl.no {fc fm : Option Mm} (hX : fc = some X) (s : CS X0 X T L c i 1 A) {B : Int → Int} (hY : fm = some Y) (m : MS X0 Y0 Y T L z i 1 B) : Cl X0 Y0 T L z c i fc fm := ⟨i, 1, B, X, Y, ⟨Nat.le_refl _, s.2.2.2.2.1.1⟩, fun w => absurd w (by decide), hX, s.any _, hY, m⟩
theorem morA_1 {S : Int → Int} (k0 : 0 ≤ A 0) : morA (uA A 1 z) S = uA (morA A S) 1 z := by
  have e : uA A 1 z 0 = A 0 := uA_ne (by decide)
  unfold morA
  rw [e]
  funext j
  by_cases h1 : j = 1
  · rw [h1, uA_self, uA_ne (by decide), put_lo k0 (by decide), uA_self]
  · rw [uA_ne (A := uA (putA A (A 0) S) 0 (A 0 + 1)) h1]
    by_cases h0 : j = 0
    · rw [h0, uA_self, uA_self]
    · rw [uA_ne h0, uA_ne h0]
      show (if _ then _ else uA A 1 z j) = if _ then _ else A j
      rw [uA_ne h1]
/-- the drawer once a stocking is told -/
def ladA (A : Int → Int) (kd a sh la lo hi : Int) : Int → Int := putA (morA A (newS kd a sh la)) (A 0) (uA (uA (newS kd a sh la) 6 lo) 7 hi)
theorem st_mor {S : Int → Int} (k0 : 0 ≤ A 0) {j : Int} (j0 : 0 ≤ j) (j9 : j < 13) : stA (morA A S) (A 0) j = S j := by
  have e : stA (morA A S) (A 0) j = stA (putA A (A 0) S) (A 0) j := uA_ne (by omega)
  rw [e]
  exact st_put j0 j9
theorem ladA_no {kd a sh la : Int} (k0 : 0 ≤ A 0) : ladA A kd a sh la (-1) (-1) = morA A (newS kd a sh la) := by
  unfold ladA
  have e : putA (morA A (newS kd a sh la)) (A 0) (uA (uA (newS kd a sh la) 6 (-1)) 7 (-1)) = putA (morA A (newS kd a sh la)) (A 0) (stA (morA A (newS kd a sh la)) (A 0)) := put_cg fun j j0 j9 => by
    rw [st_mor k0 j0 j9]
    by_cases h7 : j = 7
    · rw [h7, uA_self]; rfl
    · rw [uA_ne h7]
      by_cases h6 : j = 6
      · rw [h6, uA_self]; rfl
      · rw [uA_ne h6]
  rw [e, put_st]
theorem ladA_yes {kd a sh la lo hi : Int} (k0 : 0 ≤ A 0) : uA (uA (morA A (newS kd a sh la)) (54 + 13 * A 0 + 6) lo) (54 + 13 * A 0 + 7) hi = ladA A kd a sh la lo hi := by
  have e : uA (uA (morA A (newS kd a sh la)) (54 + 13 * A 0 + 6) lo) (54 + 13 * A 0 + 7) hi = putA (morA A (newS kd a sh la)) (A 0) (uA (uA (stA (morA A (newS kd a sh la)) (A 0)) 6 lo) 7 hi) := by
    rw [← put_uA (by decide) (by decide), ← put_uA (by decide) (by decide), put_st]
  rw [e]
  exact put_cg fun j j0 j9 => by
    unfold uA
    rw [st_mor k0 j0 j9]
theorem GS.told2 {kd a sh la lo hi : Int} (h0 : 0 ≤ kd ∧ kd ≤ 5) (h1 : 0 ≤ a ∧ a ≤ 9) (h2 : 0 ≤ sh ∧ sh ≤ 3) (h3 : 1 ≤ la ∧ la ≤ 30) (h : (lo = -1 ∧ hi = -1) ∨ (0 ≤ lo ∧ lo ≤ hi ∧ hi ≤ 99)) : GS (uA (uA (newS kd a sh la) 6 lo) 7 hi) := by
  have g := GS.new h0 h1 h2 h3
  have e : ∀ j : Int, j ≠ 6 → j ≠ 7 → uA (uA (newS kd a sh la) 6 lo) 7 hi j = newS kd a sh la j := fun j a b => by rw [uA_ne b, uA_ne a]
  have e6 : uA (uA (newS kd a sh la) 6 lo) 7 hi 6 = lo := by rw [uA_ne (by decide), uA_self]
  have e7 : uA (uA (newS kd a sh la) 6 lo) 7 hi 7 = hi := uA_self _ _ _
  unfold GS at g ⊢
  rw [e 0 (by decide) (by decide), e 1 (by decide) (by decide), e 2 (by decide) (by decide), e 3 (by decide) (by decide), e 4 (by decide) (by decide), e 5 (by decide) (by decide), e 8 (by decide) (by decide), e 9 (by decide) (by decide), e 10 (by decide) (by decide), e 11 (by decide) (by decide), e 12 (by decide) (by decide), e6, e7]
  obtain ⟨a0, a1, a2, a3, a4, a5, a6, a7⟩ := g
  exact ⟨a0, a1, a2, a3, a4, a5, h, a7⟩
/-- a stocking is told to its end: the component -/
def stFin (M : Mm) (kd a sh la lo hi : Int32) : Option Mm := B1 (rdN M 109 11 2) fun a150 => B1 (gk M a150 3) fun _ => B2 (fX0_addStocking M a150 kd a sh la) fun x158 M158 => if x158 = 0 then some M158 else B1 (rdN M158 109 11 2) fun a165 => B1 (rdN M158 a165 3 1) fun a168 => B1 (rdN M158 109 11 2) fun a172 => B1 (rdI M158 a172 3 2) fun x175 => B1 (alN M158 a168 23 (x175 - 1)) fun a180 => B1 (wrI M158 a180 10 6 lo) fun M187 => B1 (wrI M187 a180 10 7 hi) fun M194 => some M194
theorem c_stFin (s : CS X0 X T L c i 0 A) (n : A 0 < 8) {kd a sh la lo hi : Int} (h0 : 0 ≤ kd ∧ kd ≤ 5) (h1 : 0 ≤ a ∧ a ≤ 9) (h2 : 0 ≤ sh ∧ sh ≤ 3) (h3 : 1 ≤ la ∧ la ≤ 30) (h : (lo = -1 ∧ hi = -1) ∨ (0 ≤ lo ∧ lo ≤ hi ∧ hi ≤ 99)) : ∃ Z, stFin X (i2 kd) (i2 a) (i2 sh) (i2 la) (i2 (cl lo)) (i2 (cl hi)) = some Z ∧ CS X0 Z T L c i 0 (ladA A kd a sh la lo hi) := by
  obtain ⟨ok, g, cr⟩ := s.ok
  have g0 := g.1
  obtain ⟨X2, q1, q2, q3⟩ := c_addStocking (t_d111 s.1) cr g n h0 h1 h2 h3
  have g2 := g.more n (GS.new h0 h1 h2 h3)
  have st := s.told ⟨q3.1, fun p hp => q3.2 p fun y => hp (by omega)⟩ g2 q2
  have hD := t_d111 st.1
  have e0 : morA A (newS kd a sh la) 0 = A 0 + 1 := uA_self _ _ _
  have cnt := d_cnt hD q2
  rw [e0] at cnt
  have hl := d_lay hD (k := (A 0).toNat) (by omega)
  have sr : SRm X2 (111 + 11 + 3 * (A 0).toNat) (stA (morA A (newS kd a sh la)) ((A 0).toNat : Nat)) := q2.2.2.2.2 (A 0).toNat (by rw [e0]; omega)
  rw [show (((A 0).toNat : Nat) : Int) = A 0 by omega] at sr
  have w1 := st_wr (M := X2) (o := 111 + 11 + 3 * (A 0).toNat) (C := gI X2 (111 + 11 + 3 * (A 0).toNat)) (R := gI X2 (111 + 11 + 3 * (A 0).toNat + 1)) (W := gI X2 (111 + 11 + 3 * (A 0).toNat + 2)) hl 6 (cl lo)
  have w2 := st_wr (M := X2) (o := 111 + 11 + 3 * (A 0).toNat) (C := uA (gI X2 (111 + 11 + 3 * (A 0).toNat)) 6 (cl lo)) (R := gI X2 (111 + 11 + 3 * (A 0).toNat + 1)) (W := gI X2 (111 + 11 + 3 * (A 0).toNat + 2)) hl 7 (cl hi)
  rw [st_self, show ((6 : Nat) : Int) = 6 from rfl] at w1
  rw [show ((7 : Nat) : Int) = 7 from rfl] at w2
  have ne : newS kd a sh la 8 = 0 := rfl
  have sr' : SR (uA (uA (gI X2 (111 + 11 + 3 * (A 0).toNat)) 6 (cl lo)) 7 (cl hi)) (gI X2 (111 + 11 + 3 * (A 0).toNat + 1)) (gI X2 (111 + 11 + 3 * (A 0).toNat + 2)) (uA (uA (newS kd a sh la) 6 lo) 7 hi) := by
    unfold SRm SR at sr
    rw [st_mor g0.1 (by decide) (by decide), st_mor g0.1 (by decide) (by decide), st_mor g0.1 (by decide) (by decide), st_mor g0.1 (by decide) (by decide), st_mor g0.1 (by decide) (by decide), st_mor g0.1 (by decide) (by decide), st_mor g0.1 (by decide) (by decide), st_mor g0.1 (by decide) (by decide), st_mor g0.1 (by decide) (by decide)] at sr
    have e : ∀ (S : Int → Int) (x y : Int) (j : Int), j ≠ 6 → j ≠ 7 → uA (uA S 6 x) 7 y j = S j := fun S x y j a b => by rw [uA_ne b, uA_ne a]
    unfold SR
    rw [e _ _ _ 0 (by decide) (by decide), e _ _ _ 1 (by decide) (by decide), e _ _ _ 2 (by decide) (by decide), e _ _ _ 3 (by decide) (by decide), e _ _ _ 4 (by decide) (by decide), e _ _ _ 5 (by decide) (by decide), e _ _ _ 0 (by decide) (by decide), e _ _ _ 1 (by decide) (by decide), e _ _ _ 2 (by decide) (by decide), e _ _ _ 3 (by decide) (by decide), e _ _ _ 4 (by decide) (by decide), e _ _ _ 5 (by decide) (by decide), e _ _ _ 8 (by decide) (by decide), e _ _ _ 8 (by decide) (by decide), uA_self, uA_self, uA_ne (show (6 : Int) ≠ 7 by decide), uA_ne (show (6 : Int) ≠ 7 by decide), uA_self, uA_self]
    refine ⟨sr.1, ⟨rfl, rfl⟩, sr.2.2.1, fun y => ?_, fun y => ?_⟩
    · omega
    · omega
  have cp := q2.put (k := (A 0).toNat) g2 (by rw [e0]; omega) sr' (GS.told2 h0 h1 h2 h3 h)
  rw [show (((A 0).toNat : Nat) : Int) = A 0 by omega] at cp
  have sm := Same.st X2 (111 + 11 + 3 * (A 0).toNat) (uA (uA (gI X2 (111 + 11 + 3 * (A 0).toNat)) 6 (cl lo)) 7 (cl hi)) (gI X2 (111 + 11 + 3 * (A 0).toNat + 1)) (gI X2 (111 + 11 + 3 * (A 0).toNat + 2))
  refine ⟨_, ?_, st.told ⟨sm.1, fun p hp => sm.2 p fun y => hp (by omega)⟩ (g2.put g0.1 (GS.told2 h0 h1 h2 h3 h)) cp⟩
  unfold stFin
  rw [tp_r2 s.1, B1_some, d_gk (t_d111 s.1), B1_some, q1, B2_some, if_neg (by decide), tp_r2 st.1, B1_some, d_sts hD, B1_some, B1_some, cnt, B1_some, L_1, i2_sub, show A 0 + 1 - 1 = A 0 by omega, d_st hD g0.1 n, B1_some, w1, B1_some, w2, B1_some]
def stT4 (M : Mm) (kd a sh la lo hi : Int32) : Option Mm := B1 (gk M 109 11) fun _ => B1 (fX8_isSign M 109 (i2 59)) fun x136 => B1 (gk M 109 11) fun _ => B1 (fX8_take M 109 x136) fun M139 => B1 (rdI M139 109 11 8) fun x143 => if i2 0 ≤ x143 then some M139 else stFin M139 kd a sh la lo hi
theorem CS.le (s : CS X0 X T L c i 1 A) : ∃ v, rdI X 109 11 8 = some v ∧ i2 0 ≤ v := by
  obtain ⟨ft, f0, f1, f2⟩ := s.flt
  exact ⟨_, f2, by rw [i2_le (by decide) (by decide) (by omega) (by omega)]; exact f0⟩
theorem c_T4F (s : CS X0 X T L c i 1 A) (kd a sh la lo hi : Int32) : stT4 X kd a sh la lo hi = some X := by
  obtain ⟨v, v1, v2⟩ := s.le
  unfold stT4
  rw [s.gkk, B1_some, s.sign.1, B1_some, B1_some, c_takeF s, B1_some, v1, B1_some, if_pos v2]
theorem cl_T4 (k : TkF T L X0 c) (s : CS X0 X T L c i 0 A) (n : A 0 < 8) {kd a sh la lo hi : Int} (h0 : 0 ≤ kd ∧ kd ≤ 5) (h1 : 0 ≤ a ∧ a ≤ 9) (h2 : 0 ≤ sh ∧ sh ≤ 3) (h3 : 1 ≤ la ∧ la ≤ 30) (h : (lo = -1 ∧ hi = -1) ∨ (0 ≤ lo ∧ lo ≤ hi ∧ hi ≤ 99)) (m : MS X0 Y0 Y T L z i 0 (ladA A kd a sh la lo hi)) : Cl X0 Y0 T L z c i (stT4 X (i2 kd) (i2 a) (i2 sh) (i2 la) (i2 (cl lo)) (i2 (cl hi))) (B1 (gk Y 164 15) fun _ => B1 (fX12_wants Y 164 21) fun M => some M) := by
  have ic := s.2.2.2.2.1.1
  rcases wdt_01 X0 T i 21 with e | e
  · obtain ⟨X1, a1, a2⟩ := c_take0 s
    obtain ⟨Y1, b1, b2⟩ := m_wants0 k ic m (q := 21) (by decide) e
    obtain ⟨v, v1, v2⟩ := a2.le
    refine Cl.no (X := X1) ?_ a2 (Y := Y1) ?_ b2
    · unfold stT4
      rw [s.gkk, B1_some, s.sign.1, B1_some, B1_some, e, a1, B1_some, v1, B1_some, if_pos v2]
    · rw [m.gkk, B1_some, b1, B1_some]
  · obtain ⟨X1, a1, a2⟩ := c_take1 s (wdt_lt k ic (by decide) e)
    obtain ⟨Y1, b1, b2⟩ := m_wants1 k ic m (q := 21) (by decide) e
    obtain ⟨X2, d1, d2⟩ := c_stFin a2 n h0 h1 h2 h3 h
    refine ⟨i + 1, 0, _, X2, Y1, ⟨by omega, a2.2.2.2.2.1.1⟩, fun _ => by omega, ?_, d2, ?_, b2⟩
    · unfold stT4
      rw [s.gkk, B1_some, s.sign.1, B1_some, B1_some, e, a1, B1_some, a2.ok.1, B1_some, if_neg (by decide), d1]
    · rw [m.gkk, B1_some, b1, B1_some]
end STOCKT
