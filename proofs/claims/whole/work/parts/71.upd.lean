section UPD
variable {M : Mm} {A : Int → Int}
theorem SRm.cg {M M' : Mm} {o : Nat} {S S' : Int → Int} (r : SRm M o S) (h0 : gI M' o = gI M o) (h1 : gI M' (o + 1) = gI M (o + 1)) (h2 : gI M' (o + 2) = gI M (o + 2)) (h : ∀ j, 0 ≤ j → j < 13 → S' j = S j) : SRm M' o S' := by
  unfold SRm at r ⊢
  rw [h0, h1, h2]
  exact r.cgS h
/-- a law of a drawer is set -/
theorem CR.law {B : Nat} {x v : Int} (c : CR M B A) (g : GA A) (x0 : 0 ≤ x) (x8 : x < 8) (v0 : -2147483648 ≤ v) (v1 : v < 2147483648) : CR (M.row (B + 1) (uA (gI M (B + 1)) x v)) B (uA A (4 + x) v) := by
  have s1 := Same.row M (B + 1) (uA (gI M (B + 1)) x v)
  have el : ∀ y : Int, y ≠ 4 + x → uA A (4 + x) v y = A y := fun y hy => uA_ne hy
  have e : ∀ p, p ≠ B + 1 → gI (M.row (B + 1) (uA (gI M (B + 1)) x v)) p = gI M p := fun p hp => gI_ne _ hp
  obtain ⟨h1, h2, h3, h4, h5⟩ := c
  refine ⟨fun j a b => ?_, ⟨?_, ?_⟩, ?_, fun w hw => ?_, fun k hk => ?_⟩
  · by_cases q : j = x
    · subst q
      rw [gI_u a v0 v1, uA_self]
    · rw [gI_u_ne a q, el _ (by omega)]; exact h1 j a b
  · rw [e _ (by omega), el _ (by omega)]; exact h2.1
  · rw [e _ (by omega), el _ (by omega)]; exact h2.2
  · rw [e _ (by omega), el _ (by omega), el _ (by omega)]; exact h3
  · rw [e _ (by omega), e _ (by omega), e _ (by omega), el _ (by omega)]
    refine ⟨(h4 w hw).1, fun i i0 i1 => ?_⟩
    rw [el _ (by omega), el _ (by omega)]
    exact (h4 w hw).2 i i0 i1
  · rw [el _ (by omega)] at hk
    exact ((h5 k hk).same (s1.2 _ (by omega)) (s1.2 _ (by omega)) (s1.2 _ (by omega))).cgS fun j a b => el _ (by omega)
theorem GA.law {x v : Int} (g : GA A) (x0 : 0 ≤ x) (x8 : x < 8) (gl : GL (uA (lwA A) x v)) : GA (uA A (4 + x) v) := by
  have el : ∀ y : Int, y ≠ 4 + x → uA A (4 + x) v y = A y := fun y hy => uA_ne hy
  obtain ⟨g0, g1, g2, g3, g4, g5, g6, g7⟩ := g
  refine ⟨?_, ?_, ?_, ?_, ?_, ?_, fun w w0 w1 => ?_, fun q q0 q1 => ?_⟩
  · rw [el _ (by omega)]; exact g0
  · rw [el _ (by omega)]; exact g1
  · rw [el _ (by omega), el _ (by omega)]; exact g2
  · rw [el _ (by omega), el _ (by omega)]; exact g3
  · rw [el _ (by omega), el _ (by omega)]; exact g4
  · have q : ∀ j, lwA (uA A (4 + x) v) j = uA (lwA A) x v j := fun j => by
      unfold lwA uA
      by_cases q : j = x
      · rw [if_pos q, if_pos (by omega)]
      · rw [if_neg q, if_neg (by omega)]
    rw [show lwA (uA A (4 + x) v) = uA (lwA A) x v from funext q]
    exact gl
  · have hc := g6 w w0 w1
    rw [el _ (by omega)]
    refine ⟨hc.1, fun i i0 i1 => ?_⟩
    rw [el _ (by omega), el _ (by omega)]
    exact hc.2 i i0 i1
  · rw [el _ (by omega)] at q1
    exact (g7 q q0 q1).cgS fun j a b => el _ (by omega)
/-- a foot of a drawer -/
theorem CR.foot {B : Nat} {x v : Int} (c : CR M B A) (x0 : 0 ≤ x) (x8 : x < 2) (v0 : -2147483648 ≤ v) (v1 : v < 2147483648) : CR (M.row (B + 3) (uA (gI M (B + 3)) x v)) B (uA A (2 + x) v) := by
  have s1 := Same.row M (B + 3) (uA (gI M (B + 3)) x v)
  have el : ∀ y : Int, y ≠ 2 + x → uA A (2 + x) v y = A y := fun y hy => uA_ne hy
  have e : ∀ p, p ≠ B + 3 → gI (M.row (B + 3) (uA (gI M (B + 3)) x v)) p = gI M p := fun p hp => gI_ne _ hp
  obtain ⟨h1, h2, h3, h4, h5⟩ := c
  refine ⟨fun j a b => ?_, ⟨?_, ?_⟩, ?_, fun w hw => ?_, fun k hk => ?_⟩
  · rw [e _ (by omega), el _ (by omega)]; exact h1 j a b
  · rw [e _ (by omega), el _ (by omega)]; exact h2.1
  · rw [e _ (by omega), el _ (by omega)]; exact h2.2
  · have q : x = 0 ∨ x = 1 := by omega
    rcases q with rfl | rfl
    · exact ⟨by rw [gI_u (by decide) v0 v1]; exact (uA_self _ _ _).symm, by rw [gI_u_ne (by decide) (by decide), el _ (by decide)]; exact h3.2⟩
    · exact ⟨by rw [gI_u_ne (by decide) (by decide), el _ (by decide)]; exact h3.1, by rw [gI_u (by decide) v0 v1]; exact (uA_self _ _ _).symm⟩
  · rw [e _ (by omega), e _ (by omega), e _ (by omega), el _ (by omega)]
    refine ⟨(h4 w hw).1, fun i i0 i1 => ?_⟩
    rw [el _ (by omega), el _ (by omega)]
    exact (h4 w hw).2 i i0 i1
  · rw [el _ (by omega)] at hk
    exact ((h5 k hk).same (s1.2 _ (by omega)) (s1.2 _ (by omega)) (s1.2 _ (by omega))).cgS fun j a b => el _ (by omega)
theorem GA.foot {x v : Int} (g : GA A) (x0 : 0 ≤ x) (x8 : x < 2) (v0 : -1 ≤ v) (v1 : v < A 0) (nw : v = -1 ∨ A (3 - x) ≠ v) : GA (uA A (2 + x) v) := by
  have el : ∀ y : Int, y ≠ 2 + x → uA A (2 + x) v y = A y := fun y hy => uA_ne hy
  obtain ⟨g0, g1, g2, g3, g4, g5, g6, g7⟩ := g
  have q : x = 0 ∨ x = 1 := by omega
  have f2 : uA A (2 + x) v 2 = if x = 0 then v else A 2 := by
    rcases q with rfl | rfl <;> rfl
  have f3 : uA A (2 + x) v 3 = if x = 1 then v else A 3 := by
    rcases q with rfl | rfl <;> rfl
  refine ⟨?_, ?_, ?_, ?_, ?_, ?_, fun w w0 w1 => ?_, fun q q0 q1 => ?_⟩
  · rw [el _ (by omega)]; exact g0
  · rw [el _ (by omega)]; exact g1
  · rw [f2, el _ (by omega)]; split <;> omega
  · rw [f3, el _ (by omega)]; split <;> omega
  · rw [f2, f3]
    rcases q with rfl | rfl
    · replace nw : v = -1 ∨ A 3 ≠ v := nw
      rw [if_pos rfl, if_neg (by decide)]
      omega
    · replace nw : v = -1 ∨ A 2 ≠ v := nw
      rw [if_neg (by decide), if_pos rfl]
      omega
  · have q : ∀ j, 0 ≤ j → lwA (uA A (2 + x) v) (j) = lwA A j ∨ True := fun j _ => Or.inr trivial
    have q2 : ∀ j : Int, 0 ≤ j → lwA (uA A (2 + x) v) j = lwA A j := fun j hj => el _ (by omega)
    unfold GL
    rw [q2 0 (by decide), q2 1 (by decide), q2 2 (by decide), q2 3 (by decide), q2 4 (by decide), q2 5 (by decide), q2 6 (by decide), q2 7 (by decide)]
    exact g5
  · have hc := g6 w w0 w1
    rw [el _ (by omega)]
    refine ⟨hc.1, fun i i0 i1 => ?_⟩
    rw [el _ (by omega), el _ (by omega)]
    exact hc.2 i i0 i1
  · rw [el _ (by omega)] at q1
    exact (g7 q q0 q1).cgS fun j a b => el _ (by omega)
/-- a way of a drawer gets shorter -/
theorem CR.wcnt {B : Nat} {w : Nat} {v : Int} (c : CR M B A) (g : GA A) (w2 : w < 2) (v0 : 0 ≤ v) (v1 : v ≤ A (12 + w)) : CR (M.row (B + 5 + 3 * w) (uA (gI M (B + 5 + 3 * w)) 0 v)) B (uA A (12 + w) v) := by
  have s1 := Same.row M (B + 5 + 3 * w) (uA (gI M (B + 5 + 3 * w)) 0 v)
  have hc := (g.2.2.2.2.2.2.1 w (by omega) (by omega)).1
  have el : ∀ y : Int, y ≠ 12 + w → uA A (12 + w) v y = A y := fun y hy => uA_ne hy
  have e : ∀ p, p ≠ B + 5 + 3 * w → gI (M.row (B + 5 + 3 * w) (uA (gI M (B + 5 + 3 * w)) 0 v)) p = gI M p := fun p hp => gI_ne _ hp
  obtain ⟨h1, h2, h3, h4, h5⟩ := c
  refine ⟨fun j a b => ?_, ⟨?_, ?_⟩, ?_, fun u hu => ?_, fun k hk => ?_⟩
  · rw [e _ (by omega), el _ (by omega)]; exact h1 j a b
  · rw [e _ (by omega), el _ (by omega)]; exact h2.1
  · rw [e _ (by omega), el _ (by omega)]; exact h2.2
  · rw [e _ (by omega), el _ (by omega), el _ (by omega)]; exact h3
  · rw [e (B + 5 + 3 * u + 1) (by omega), e (B + 5 + 3 * u + 2) (by omega)]
    by_cases q : u = w
    · subst q
      rw [gI_u (by decide) (by omega) (by omega), uA_self]
      refine ⟨rfl, fun i i0 i1 => ?_⟩
      rw [el _ (by omega), el _ (by omega)]
      exact (h4 u hu).2 i i0 (by omega)
    · rw [e _ (by omega), el _ (by omega)]
      refine ⟨(h4 u hu).1, fun i i0 i1 => ?_⟩
      rw [el _ (by omega), el _ (by omega)]
      exact (h4 u hu).2 i i0 i1
  · rw [el _ (by omega)] at hk
    exact ((h5 k hk).same (s1.2 _ (by omega)) (s1.2 _ (by omega)) (s1.2 _ (by omega))).cgS fun j a b => el _ (by omega)
theorem GA.wcnt {w v : Int} (g : GA A) (w0 : 0 ≤ w) (w2 : w < 2) (v0 : 0 ≤ v) (v1 : v ≤ A (12 + w)) : GA (uA A (12 + w) v) := by
  have el : ∀ y : Int, y ≠ 12 + w → uA A (12 + w) v y = A y := fun y hy => uA_ne hy
  obtain ⟨g0, g1, g2, g3, g4, g5, g6, g7⟩ := g
  refine ⟨?_, ?_, ?_, ?_, ?_, ?_, fun u u0 u1 => ?_, fun q q0 q1 => ?_⟩
  · rw [el _ (by omega)]; exact g0
  · rw [el _ (by omega)]; exact g1
  · rw [el _ (by omega), el _ (by omega)]; exact g2
  · rw [el _ (by omega), el _ (by omega)]; exact g3
  · rw [el _ (by omega), el _ (by omega)]; exact g4
  · have q2 : ∀ j : Int, 0 ≤ j → j < 8 → lwA (uA A (12 + w) v) j = lwA A j := fun j hj hk => el _ (by omega)
    unfold GL
    rw [q2 0 (by decide) (by decide), q2 1 (by decide) (by decide), q2 2 (by decide) (by decide), q2 3 (by decide) (by decide), q2 4 (by decide) (by decide), q2 5 (by decide) (by decide), q2 6 (by decide) (by decide), q2 7 (by decide) (by decide)]
    exact g5
  · have hc := g6 u u0 u1
    have hw := g6 w w0 w2
    by_cases q : u = w
    · subst q
      rw [uA_self]
      refine ⟨by omega, fun i i0 i1 => ?_⟩
      rw [el _ (by omega), el _ (by omega)]
      exact hc.2 i i0 (by omega)
    · rw [el _ (by omega)]
      refine ⟨hc.1, fun i i0 i1 => ?_⟩
      rw [el _ (by omega), el _ (by omega)]
      exact hc.2 i i0 i1
  · rw [el _ (by omega)] at q1
    exact (g7 q q0 q1).cgS fun j a b => el _ (by omega)
/-- a way of a drawer gets longer by one leg -/
def legA (A : Int → Int) (w a b : Int) : Int → Int := uA (uA (uA A (14 + 20 * w + 2 * A (12 + w)) a) (14 + 20 * w + 2 * A (12 + w) + 1) b) (12 + w) (A (12 + w) + 1)
theorem legA_ne {w a b y : Int} (h1 : y ≠ 12 + w) (h2 : y ≠ 14 + 20 * w + 2 * A (12 + w)) (h3 : y ≠ 14 + 20 * w + 2 * A (12 + w) + 1) : legA A w a b y = A y := by
  unfold legA
  rw [uA_ne h1, uA_ne h3, uA_ne h2]
theorem CR.leg {B : Nat} {w : Nat} {a b : Int} (c : CR M B A) (g : GA A) (w2 : w < 2) (n : A (12 + w) < 10) (a0 : 0 ≤ a) (a1 : a ≤ 3) (b0 : 0 ≤ b) (b1 : b ≤ 60) : CR (((M.row (B + 5 + 3 * w + 1) (uA (gI M (B + 5 + 3 * w + 1)) (A (12 + w)) a)).row (B + 5 + 3 * w + 2) (uA (gI M (B + 5 + 3 * w + 2)) (A (12 + w)) b)).row (B + 5 + 3 * w) (uA (gI M (B + 5 + 3 * w)) 0 (A (12 + w) + 1))) B (legA A w a b) := by
  have hc := (g.2.2.2.2.2.2.1 w (by omega) (by omega)).1
  have el : ∀ y : Int, y ≠ 12 + w → y ≠ 14 + 20 * w + 2 * A (12 + w) → y ≠ 14 + 20 * w + 2 * A (12 + w) + 1 → legA A w a b y = A y := fun y => legA_ne
  have e : ∀ p, p ≠ B + 5 + 3 * w → p ≠ B + 5 + 3 * w + 1 → p ≠ B + 5 + 3 * w + 2 → gI (((M.row (B + 5 + 3 * w + 1) (uA (gI M (B + 5 + 3 * w + 1)) (A (12 + w)) a)).row (B + 5 + 3 * w + 2) (uA (gI M (B + 5 + 3 * w + 2)) (A (12 + w)) b)).row (B + 5 + 3 * w) (uA (gI M (B + 5 + 3 * w)) 0 (A (12 + w) + 1))) p = gI M p := fun p h1 h2 h3 => by rw [gI_ne _ h1, gI_ne _ h3, gI_ne _ h2]
  obtain ⟨h1, h2, h3, h4, h5⟩ := c
  refine ⟨fun j a b => ?_, ⟨?_, ?_⟩, ?_, fun u hu => ?_, fun k hk => ?_⟩
  · rw [e _ (by omega) (by omega) (by omega), el _ (by omega) (by omega) (by omega)]; exact h1 j a b
  · rw [e _ (by omega) (by omega) (by omega), el _ (by omega) (by omega) (by omega)]; exact h2.1
  · rw [e _ (by omega) (by omega) (by omega), el _ (by omega) (by omega) (by omega)]; exact h2.2
  · rw [e _ (by omega) (by omega) (by omega), el _ (by omega) (by omega) (by omega), el _ (by omega) (by omega) (by omega)]; exact h3
  · by_cases q : u = w
    · subst q
      rw [gI_row _ _ _ (by decide), show legA A u a b (12 + u) = A (12 + u) + 1 from uA_self _ _ _]
      refine ⟨?_, fun i i0 i1 => ?_⟩
      · rw [nrI_id (by rw [uA_self]; omega) (by rw [uA_self]; omega), uA_self]
      · rw [gI_ne _ (by omega), gI_ne _ (by omega), gI_row _ _ _ i0, gI_ne _ (by omega), gI_row _ _ _ i0]
        have hq := (h4 u hu).2
        by_cases e1 : i = A (12 + u)
        · subst e1
          rw [nrI_id (by rw [uA_self]; omega) (by rw [uA_self]; omega), nrI_id (by rw [uA_self]; omega) (by rw [uA_self]; omega), uA_self, uA_self]
          unfold legA
          rw [uA_ne (by omega), uA_ne (by omega), uA_self, uA_ne (by omega), uA_self]
          exact ⟨rfl, rfl⟩
        · have b1 := gI_b M (B + 5 + 3 * u + 1) i
          have b2 := gI_b M (B + 5 + 3 * u + 2) i
          rw [nrI_id (by rw [uA_ne e1]; omega) (by rw [uA_ne e1]; omega), nrI_id (by rw [uA_ne e1]; omega) (by rw [uA_ne e1]; omega), uA_ne e1, uA_ne e1, el _ (by omega) (by omega) (by omega), el _ (by omega) (by omega) (by omega)]
          exact hq i i0 (by omega)
    · have hcu := (g.2.2.2.2.2.2.1 u (by omega) (by omega)).1
      rw [e _ (by omega) (by omega) (by omega), e _ (by omega) (by omega) (by omega), e _ (by omega) (by omega) (by omega), el _ (by omega) (by omega) (by omega)]
      refine ⟨(h4 u hu).1, fun i i0 i1 => ?_⟩
      rw [el _ (by omega) (by omega) (by omega), el _ (by omega) (by omega) (by omega)]
      exact (h4 u hu).2 i i0 i1
  · rw [el _ (by omega) (by omega) (by omega)] at hk
    refine SRm.cg (h5 k hk) (e _ (by omega) (by omega) (by omega)) (e _ (by omega) (by omega) (by omega)) (e _ (by omega) (by omega) (by omega)) fun j a b => el _ (by omega) (by omega) (by omega)
theorem GA.addLeg {w a b : Int} (g : GA A) (w0 : 0 ≤ w) (w2 : w < 2) (n : A (12 + w) < 10) (a0 : 0 ≤ a) (a1 : a ≤ 3) (b0 : 1 ≤ b) (b1 : b ≤ 60) : GA (legA A w a b) := by
  have el : ∀ y : Int, y ≠ 12 + w → y ≠ 14 + 20 * w + 2 * A (12 + w) → y ≠ 14 + 20 * w + 2 * A (12 + w) + 1 → legA A w a b y = A y := fun y => legA_ne
  have hw := (g.2.2.2.2.2.2.1 w w0 w2).1
  obtain ⟨g0, g1, g2, g3, g4, g5, g6, g7⟩ := g
  refine ⟨?_, ?_, ?_, ?_, ?_, ?_, fun u u0 u1 => ?_, fun q q0 q1 => ?_⟩
  · rw [el _ (by omega) (by omega) (by omega)]; exact g0
  · rw [el _ (by omega) (by omega) (by omega)]; exact g1
  · rw [el _ (by omega) (by omega) (by omega), el _ (by omega) (by omega) (by omega)]; exact g2
  · rw [el _ (by omega) (by omega) (by omega), el _ (by omega) (by omega) (by omega)]; exact g3
  · rw [el _ (by omega) (by omega) (by omega), el _ (by omega) (by omega) (by omega)]; exact g4
  · have q2 : ∀ j : Int, 0 ≤ j → j < 8 → lwA (legA A w a b) j = lwA A j := fun j hj hk => el _ (by omega) (by omega) (by omega)
    unfold GL
    rw [q2 0 (by decide) (by decide), q2 1 (by decide) (by decide), q2 2 (by decide) (by decide), q2 3 (by decide) (by decide), q2 4 (by decide) (by decide), q2 5 (by decide) (by decide), q2 6 (by decide) (by decide), q2 7 (by decide) (by decide)]
    exact g5
  · have hc := g6 u u0 u1
    by_cases q : u = w
    · subst q
      rw [show legA A u a b (12 + u) = A (12 + u) + 1 from uA_self _ _ _]
      refine ⟨by omega, fun i i0 i1 => ?_⟩
      by_cases e1 : i = A (12 + u)
      · subst e1
        unfold legA
        rw [uA_ne (by omega), uA_ne (by omega), uA_self, uA_ne (by omega), uA_self]
        omega
      · rw [el _ (by omega) (by omega) (by omega), el _ (by omega) (by omega) (by omega)]
        exact hc.2 i i0 (by omega)
    · rw [el _ (by omega) (by omega) (by omega)]
      refine ⟨hc.1, fun i i0 i1 => ?_⟩
      rw [el _ (by omega) (by omega) (by omega), el _ (by omega) (by omega) (by omega)]
      exact hc.2 i i0 i1
  · rw [el _ (by omega) (by omega) (by omega)] at q1
    exact (g7 q q0 q1).cgS fun j a b => el _ (by omega) (by omega) (by omega)
end UPD
