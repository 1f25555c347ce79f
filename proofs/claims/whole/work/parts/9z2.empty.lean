section EMPTY
variable {M : Mm}
/-! a drawer is made empty; the reference's row begins -/
theorem w_put {p kd j : Nat} {v : Int} (h : M.k p = kd) (hj : j < 100) (v0 : -2147483648 ≤ v) (v1 : v < 2147483648) : ∃ M', wrI M p kd j (i2 v) = some M' ∧ Same M M' p (p + 1) ∧ gI M' p j = v ∧ ∀ q : Int, 0 ≤ q → q ≠ j → gI M' p q = gI M p q :=
  ⟨_, g_wrI h hj, Same.row M p _, gI_u (by omega) v0 v1, fun _ q0 ne => gI_u_ne q0 ne⟩
theorem a_put {p N : Nat} {x v : Int} (h : Ar M p N) (x0 : 0 ≤ x) (x1 : x < N) (x2 : x < 2147483648) (v0 : -2147483648 ≤ v) (v1 : v < 2147483648) : ∃ M', asI M p (i2 x) (i2 v) = some M' ∧ Same M M' p (p + 1) ∧ gI M' p x = v ∧ ∀ q : Int, 0 ≤ q → q ≠ x → gI M' p q = gI M p q :=
  ⟨_, g_asI h x0 x1 x2, Same.row M p _, gI_u x0 v0 v1, fun _ q0 ne => gI_u_ne q0 ne⟩
/-- the laws at first -/
def lw0 (j : Int) : Int := ((sRow 1).getD j.toNat 0).toInt
theorem c_cpS {a : Nat} (h : Ar M a 8) : ∃ M', cpS M 1 (i2 0) a (i2 0) (i2 8) = some M' ∧ Same M M' a (a + 1) ∧ ∀ j : Int, 0 ≤ j → j < 8 → gI M' a j = lw0 j := by
  have z : (i2 0).toNatClampNeg = 0 := i2_nat (by decide) (by decide)
  have z2 : (i2 8).toNatClampNeg = 8 := i2_nat (by decide) (by decide)
  have z3 : (i2 0).toInt = 0 := i2_toInt (by decide) (by decide)
  have z4 : (i2 8).toInt = 8 := i2_toInt (by decide) (by decide)
  refine ⟨M.wg (va_up M.g a (va_cpy (fun j => (sRow 1).getD j 0) (M.g a) 0 0 8)), ?_, ⟨⟨rfl, rfl, rfl, rfl, rfl⟩, fun p hp => va_up_ne _ _ (by omega)⟩, fun j j0 j8 => ?_⟩
  · unfold cpS
    rw [z, z2, z3, z4, if_pos ⟨h.1, by decide, by decide, by decide, by decide, by rw [h.2]; decide⟩]
  · unfold gI lw0
    rw [show (M.wg (va_up M.g a (va_cpy (fun j => (sRow 1).getD j 0) (M.g a) 0 0 8))).g a = va_cpy (fun j => (sRow 1).getD j 0) (M.g a) 0 0 8 from va_up_self _ _ _]
    unfold va_cpy
    rw [if_pos (by omega)]
    congr 2
    omega
/-- a row that begins -/
def BgR (R : Int → Int) (zz : Int) : Prop := R 0 = 0 ∧ R 1 = zz ∧ R 2 = -1 ∧ R 3 = -1 ∧ (∀ j : Int, 0 ≤ j → j < 8 → R (4 + j) = lw0 j) ∧ R 12 = 0 ∧ R 13 = 0
theorem lw0_v : lw0 0 = 3 ∧ lw0 1 = 10 ∧ lw0 2 = 2 ∧ lw0 3 = 8 ∧ lw0 4 = 60 ∧ lw0 5 = 2 ∧ lw0 6 = 190 ∧ lw0 7 = 2 := by decide +kernel
theorem BgR.ga {R : Int → Int} {zz : Int} (b : BgR R zz) (z0 : -2147483648 ≤ zz) (z1 : zz < 2147483648) : GA R := by
  obtain ⟨b0, b1, b2, b3, b4, b5, b6⟩ := b
  obtain ⟨l0, l1, l2, l3, l4, l5, l6, l7⟩ := lw0_v
  refine ⟨by omega, by omega, by omega, by omega, fun _ => b2, ?_, fun w w0 w1 => ?_, fun k k0 k1 => ?_⟩
  · unfold GL lwA
    rw [b4 0 (by decide) (by decide), b4 1 (by decide) (by decide), b4 2 (by decide) (by decide), b4 3 (by decide) (by decide), b4 4 (by decide) (by decide), b4 5 (by decide) (by decide), b4 6 (by decide) (by decide), b4 7 (by decide) (by decide), l0, l1, l2, l3, l4, l5, l6, l7]
    decide
  · have e : R (12 + w) = 0 := by
      have q : w = 0 ∨ w = 1 := by omega
      rcases q with rfl | rfl
      · exact b5
      · exact b6
    rw [e]
    exact ⟨by decide, fun i i0 i1 => by omega⟩
  · omega
theorem c_empty {B : Nat} (h : LayD M B) : ∃ M', fX0_empty M B = some M' ∧ Same M M' B (B + 35) ∧ ∀ R : Int → Int, BgR R (gI M B 5) → CR M' B R := by
  have al : alN_ M (B + 1) = some (i2 8) := by
    unfold alN_
    rw [h.2.1.1, h.2.1.2]
    rfl
  obtain ⟨M1, p1, s1, r1⟩ := c_cpS (M := M) (a := B + 1) h.2.1
  have h1 := h.same s1
  obtain ⟨M2, p2, s2, r2, o2⟩ := w_put (M := M1) (p := B) (kd := 3) (j := 2) (v := 0) h1.1.1 (by decide) (by decide) (by decide)
  have h2 := h1.same s2
  obtain ⟨M3, p3, s3, r3, o3⟩ := a_put (M := M2) (p := B + 3) (N := 2) (x := 0) (v := -1) h2.2.2.2.1 (by decide) (by decide) (by decide) (by decide) (by decide)
  have h3 := h2.same s3
  obtain ⟨M4, p4, s4, r4, o4⟩ := a_put (M := M3) (p := B + 3) (N := 2) (x := 1) (v := -1) h3.2.2.2.1 (by decide) (by decide) (by decide) (by decide) (by decide)
  have h4 := h3.same s4
  obtain ⟨M5, p5, s5, r5, o5⟩ := w_put (M := M4) (p := B + 5) (kd := 13) (j := 0) (v := 0) (h4.2.2.2.2.2.1 0 (by decide)).2.1 (by decide) (by decide) (by decide)
  have h5 := h4.same s5
  obtain ⟨M6, p6, s6, r6, o6⟩ := w_put (M := M5) (p := B + 5 + 3) (kd := 13) (j := 0) (v := 0) (h5.2.2.2.2.2.1 1 (by decide)).2.1 (by decide) (by decide) (by decide)
  have y4 : alN M4 (B + 4) 24 (i2 0) = some (B + 5) := d_way h4 (w := 0) (by decide) (by decide)
  have y5 : alN M5 (B + 4) 24 (i2 1) = some (B + 5 + 3) := d_way h5 (w := 1) (by decide) (by decide)
  refine ⟨M6, ?_, ((((((s1.wide (by omega) (by omega)).tr (s2.wide (by omega) (by omega))).tr (s3.wide (by omega) (by omega))).tr (s4.wide (by omega) (by omega))).tr (s5.wide (by omega) (by omega))).tr (s6.wide (by omega) (by omega))), fun R b => ?_⟩
  · unfold fX0_empty fX0_takeOff
    rw [d_laws h, B1_some, B1_some, al, B1_some, L_0, p1, B1_some, p2, B1_some, d_gk h2, B1_some, d_feet h2, B1_some, show (-1 : Int32) = i2 (-1) by decide, p3, B1_some, d_feet h3, B1_some, L_1, p4, B1_some, B1_some, d_ways h4, B1_some, y4, B1_some, p5, B1_some, d_ways h5, B1_some, y5, B1_some, p6, B1_some]
  · obtain ⟨b0, b1, b2, b3, b4, b5, b6⟩ := b
    have e1 : gI M6 (B + 1) = gI M1 (B + 1) := by
      rw [gI_of (s6.2 _ (by omega)), gI_of (s5.2 _ (by omega)), gI_of (s4.2 _ (by omega)), gI_of (s3.2 _ (by omega)), gI_of (s2.2 _ (by omega))]
    have e0 : gI M6 B = gI M2 B := by
      rw [gI_of (s6.2 _ (by omega)), gI_of (s5.2 _ (by omega)), gI_of (s4.2 _ (by omega)), gI_of (s3.2 _ (by omega))]
    have e3 : gI M6 (B + 3) = gI M4 (B + 3) := by
      rw [gI_of (s6.2 _ (by omega)), gI_of (s5.2 _ (by omega))]
    have e5 : gI M6 (B + 5) = gI M5 (B + 5) := gI_of (s6.2 _ (by omega))
    refine ⟨fun j j0 j8 => ?_, ⟨?_, ?_⟩, ⟨?_, ?_⟩, fun w hw => ?_, fun k hk => ?_⟩
    · rw [e1, r1 j j0 j8, b4 j j0 j8]
    · rw [e0, b0]; exact r2
    · rw [e0, b1, o2 5 (by decide) (by decide), gI_of (s1.2 B (by omega))]
    · rw [e3, o4 0 (by decide) (by decide), r3, b2]
    · rw [e3, r4, b3]
    · have q : w = 0 ∨ w = 1 := by omega
      rcases q with rfl | rfl
      · refine ⟨?_, fun i i0 i1 => ?_⟩
        · show gI M6 (B + 5) 0 = R 12
          rw [e5, b5]; exact r5
        · exfalso
          rw [show (12 : Int) + ((0 : Nat) : Int) = 12 from rfl, b5] at i1
          omega
      · refine ⟨?_, fun i i0 i1 => ?_⟩
        · show gI M6 (B + 5 + 3) 0 = R 13
          rw [b6]; exact r6
        · exfalso
          rw [show (12 : Int) + ((1 : Nat) : Int) = 13 from rfl, b6] at i1
          omega
    · rw [b0] at hk
      omega
end EMPTY
