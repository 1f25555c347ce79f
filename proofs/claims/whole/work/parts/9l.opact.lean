section OPACT
variable {M X : Mm} {A : Int → Int}
theorem CR.cl {M' : Mm} (hg : ∀ p, p < 36 → M'.g p = M.g p) (h : CR M 1 A) (g : A 0 ≤ 8) : CR M' 1 A := by
  have e : ∀ p, p < 36 → gI M' p = gI M p := fun p h1 => gI_of (hg p h1)
  obtain ⟨h1, h2, h3, h4, h5⟩ := h
  refine ⟨fun j a b => ?_, ?_, ?_, fun w hw => ?_, fun k hk => ?_⟩
  · rw [e _ (by omega)]; exact h1 j a b
  · rw [e _ (by omega)]; exact h2
  · rw [e _ (by omega)]; exact h3
  · rw [e _ (by omega), e _ (by omega), e _ (by omega)]; exact h4 w hw
  · exact (h5 k hk).same (hg _ (by omega)) (hg _ (by omega)) (hg _ (by omega))
/-- one number of the reference is written -/
theorem m_w {Y : Mm} (hm : LayM Y) {j : Nat} (hj : j < 100) {v : Int} (v0 : -2147483648 ≤ v) (v1 : v < 2147483648) : ∃ Z, wrI Y 164 15 j (i2 v) = some Z ∧ SmP (fun q => q = 164) Y Z ∧ LayM Z ∧ gI Z 164 j = v ∧ ∀ i : Int, 0 ≤ i → i ≠ j → gI Z 164 i = gI Y 164 i := by
  have w := g_wrI (M := Y) (p := 164) (kd := 15) (j := j) (v := v) hm.1.1 hj
  have s : SmP (fun q => q = 164) Y (Y.row 164 (uA (gI Y 164) j v)) := SmP.row Y _ rfl
  exact ⟨_, w, s, hm.sm s, gI_u (by omega) v0 v1, fun i i0 ne => gI_u_ne i0 ne⟩
theorem m_z {Y : Mm} (hm : LayM Y) : ∃ Z, wrZ Y 164 15 24 (i2 0) = some Z ∧ SmP (fun q => q = 164) Y Z ∧ LayM Z ∧ gI Z 164 24 = 0 ∧ ∀ i : Int, 0 ≤ i → i ≠ 24 → gI Z 164 i = gI Y 164 i := by
  have w := wrZ_0 (M := Y) (p := 164) (kd := 15) (j := 24) hm.1.1 (by decide)
  have s : SmP (fun q => q = 164) Y (Y.row 164 (uA (gI Y 164) 24 0)) := SmP.row Y _ rfl
  exact ⟨_, w, s, hm.sm s, gI_u (by decide) (by decide) (by decide), fun i i0 ne => gI_u_ne i0 ne⟩
theorem NL_sm {γ : Type} (v : Nat) (a : Option γ) (f : Nat → Option γ) : NL (some v) a f = f v := rfl
theorem SmP.at {P : Nat → Prop} {p : Nat} (s : SmP P M X) (hp : ¬ P p) : gI X p = gI M p := gI_of (s.2 p hp)
/-- the reference's first steps of an act -/
theorem m_act0 (hm : LayM M) : ∃ Y, wrI M 164 15 20 (i2 0) = some Y ∧ SmP (fun q => q = 164) M Y ∧ LayM Y ∧ gI Y 164 20 = 0 ∧ ∀ i : Int, 0 ≤ i → i ≠ 20 → gI Y 164 i = gI M 164 i := m_w hm (by decide) (by decide) (by decide)
theorem m_act (hm : LayM M) (g : GA A) (ha : M.g 165 = rI A) {x z t : Int} (x0 : 0 ≤ x) (x3 : x ≤ 3) (hz : gI M 176 x = z) (h75 : gI M 175 x = 0) (z0 : 0 ≤ z) (z1 : z < A 0) (t0 : 0 ≤ t) (t3 : t ≤ 3) (y : Int32) : ∃ Y, fX12_act M 164 (i2 x) (i2 t) y = mSw 164 Y (i2 t) y ∧ RA M Y (stA A z 0) z (stA A z 1) [] 0 := by
  have g0 := g.1
  have gs := g.2.2.2.2.2.2.2 z z0 z1
  obtain ⟨Y1, a1, a2, a3, a4, a5⟩ := m_act0 hm
  obtain ⟨Y2, b1, b2, b3, b4, b5⟩ := m_w a3 (j := 22) (by decide) (v := z) (by omega) (by omega)
  obtain ⟨Y3, c1, c2, c3, c4, c5⟩ := m_w b3 (j := 21) (by decide) (v := stA A z 0) (by have := gs.1; omega) (by have := gs.1; omega)
  obtain ⟨Y4, d1, d2, d3, d4, d5⟩ := m_w c3 (j := 23) (by decide) (v := stA A z 1) (by have := gs.2.1; omega) (by have := gs.2.1; omega)
  obtain ⟨Y5, e1, e2, e3, e4, e5⟩ := m_z d3
  have h1 : Y1.g 165 = rI A := (a2.2 165 (by decide)).trans ha
  have h2 : Y2.g 165 = rI A := (b2.2 165 (by decide)).trans h1
  have h3 : Y3.g 165 = rI A := (c2.2 165 (by decide)).trans h2
  have is := m_isStocking a3 g h1 x0 x3
  rw [a2.at (p := 175) (by decide), a2.at (p := 176) (by decide), hz, tf_t ⟨h75, z0, by omega⟩] at is
  have l76 := g_alI (ar_76 a3) (x := x) x0 (by omega) (by omega)
  rw [a2.at (p := 176) (by decide), hz] at l76
  have f1 := m_isFour Y1 (x := x) (by omega) (by omega)
  have f2 := m_isFour Y1 (x := t) (by omega) (by omega)
  rw [tf_t ⟨x0, x3⟩] at f1
  rw [tf_t ⟨t0, t3⟩] at f2
  have r2 : rdI Y2 164 15 22 = some (i2 z) := by rw [m_rdI b3, ← b4]
  have r3 : rdI Y3 164 15 22 = some (i2 z) := by rw [m_rdI c3, show gI Y3 164 ((22 : Nat) : Int) = z from (c5 22 (by decide) (by decide)).trans b4]
  have i2' := m_st (A := A) b3 z0 (show z < 8 by omega) (w := 0) (by decide) (by decide)
  rw [← row_of h2] at i2'
  have i3' := m_st (A := A) c3 z0 (show z < 8 by omega) (w := 1) (by decide) (by decide)
  rw [← row_of h3] at i3'
  refine ⟨Y5, ?_, ?_⟩
  · have n1 : ¬ i2 1 = i2 0 := by decide
    unfold fX12_act mSw
    rw [L_0, L_1, L_2, a1, B1_some, f1, B1_some, if_neg n1, f2, B1_some, if_neg n1, gk_m a3, B1_some, is, B1_some, if_neg n1, m_r17 a3, B1_some, l76, B1_some, b1, B1_some, r2, B1_some, gk_m b3, B1_some, i2', B1_some, c1, B1_some, r3, B1_some, gk_m c3, B1_some, i3', B1_some, d1, B1_some, e1, B1_some]
  · have s := (((a2.tr b2).tr c2).tr d2).tr e2
    refine ⟨⟨s.1, fun p hp => s.2 p fun q => hp (Or.inl q)⟩, e3, ⟨?_, by decide⟩, ⟨?_, ?_, ?_, e4⟩, fun j j0 j1 => ?_, fun i hi => absurd hi (by simp)⟩
    · rw [e5 20 (by decide) (by decide), d5 20 (by decide) (by decide), c5 20 (by decide) (by decide), b5 20 (by decide) (by decide)]
      exact a4
    · rw [e5 21 (by decide) (by decide), d5 21 (by decide) (by decide)]
      exact c4
    · rw [e5 22 (by decide) (by decide), d5 22 (by decide) (by decide), c5 22 (by decide) (by decide)]
      exact b4
    · rw [e5 23 (by decide) (by decide)]
      exact d4
    · rw [e5 j j0 (by omega), d5 j j0 (by omega), c5 j j0 (by omega), b5 j j0 (by omega), a5 j j0 (by omega)]
theorem act_fin {Z : Mm} {k n a p : Int} {bl : List Int} (hi : Inv M) (nx : Nx (LiP M) (LiP M) NoP M X) (li : LiI X bl) (hl : bl.length ≤ 15) (s : RA X Z k n a bl p) : Inv Z := act_inv hi nx li hl s.1 s.2.2.1.1 s.2.2.2.2.2 s.2.2.2.2.1
/-- an act that is refused -/
theorem act_no {Z : Mm} (hi : Inv M) (nx : Nx (LiP M) (LiP M) NoP M X) (li : LiI X []) (s : SmP (fun q => q = 164) X Z) (h20 : gI Z 164 20 = 0) (fo : ∀ i : Int, 0 ≤ i → i ≠ 20 → gI Z 164 i = gI X 164 i) : Inv Z :=
  act_inv hi nx li (by decide) ⟨s.1, fun p hp => s.2 p fun q => hp (Or.inl q)⟩ h20 (fun i hi => absurd hi (by simp)) fun j j0 j1 => fo j j0 (by omega)
theorem op_act (h : LayC M) (hm : LayM M) (c : CR M 1 A) (g : GA A) (ha : M.g 165 = rI A) {x t y : Int} (x0 : -2147483648 ≤ x) (x1 : x < 2147483648) (t0 : -2147483648 ≤ t) (t1 : t < 2147483648) (y0 : -2147483648 ≤ y) (y1 : y < 2147483648) (hi : Inv M) : Op M (fun M => fX11_act M 0 (i2 x) (i2 t) (i2 y)) (fun M => fX12_act M 164 (i2 x) (i2 t) (i2 y)) := by
  have n9 : 179 ≤ M.n := by obtain ⟨A, b1, b2, b3, -⟩ := hi.1; exact b3
  obtain ⟨li0, ll⟩ := NI.li h hi.2.2.2.2.2.2
  obtain ⟨X, e1, li, nx⟩ := c_clear n9 li0 ll
  have np : ∀ p, p < 179 → p ≠ 163 → ¬ LiP M p := fun p hp h2 z => z.elim h2 fun w => by omega
  have gX : ∀ p, p < 179 → p ≠ 163 → X.g p = M.g p := fun p hp h2 => nx.2.2.1 p (by omega) (np p hp h2)
  have hk : ∀ p, p < 179 → X.k p = M.k p ∧ X.len p = M.len p := fun p hp => nx.2.1 p (by omega)
  have hr : ∀ p, p < 179 → ¬ Rq p → X.r p = M.r p := fun p hp q => nx.2.2.2.1 p (by omega) (np p hp fun z => q (by unfold Rq; omega))
  have hC : LayC X := h.nx hk hr
  have hmX : LayM X := hm.nx hk hr
  have haX : X.g 165 = rI A := (gX 165 (by decide) (by decide)).trans ha
  have cX : CR X 1 A := c.cl (fun p hp => gX p (by omega) (by omega)) g.1.2
  obtain ⟨Y1, a1, a2, a3, a4, a5⟩ := m_act0 hmX
  have no := act_no hi nx li a2 a4 a5
  have rn := t_ran h
  have gk1 : gk M 163 2 = some () := if_pos (t_k163 h)
  have f1 := m_isFour Y1 x0 x1
  have f2 := m_isFour Y1 t0 t1
  have q1 := c_isShelf X x0 x1
  have q2 := c_isWithin X t0 t1 (b := 0) (c := 3) (by decide) (by decide) (by decide) (by decide)
  have n1 : ¬ i2 1 = i2 0 := by decide
  by_cases e : 0 ≤ x ∧ x ≤ 3
  · rw [tf_t e] at q1 f1
    by_cases e2 : 0 ≤ t ∧ t ≤ 3
    · rw [tf_t e2] at q2 f2
      have h1 : Y1.g 165 = rI A := (a2.2 165 (by decide)).trans haX
      have is := m_isStocking a3 g h1 e.1 e.2
      have l61 := g_alI (ar_61 hC) (x := x) e.1 (by omega) (by omega)
      have b61 := gI_b X 161 x
      have st := c_stockingAt (t_d1 hC) cX g b61.1 b61.2
      have g61 : gI X 161 x = gI M 161 x := congrFun (gI_of (gX 161 (by decide) (by decide))) x
      have g75 : gI X 175 x = gI M 175 x := congrFun (gI_of (gX 175 (by decide) (by decide))) x
      have g76 : gI X 176 x = gI M 176 x := congrFun (gI_of (gX 176 (by decide) (by decide))) x
      have hx : ((x.toNat : Nat) : Int) = x := by omega
      have fi := hi.2.2.2.2.2.1 x.toNat (by omega)
      rw [hx, ← g61, ← g75, ← g76] at fi
      rw [a2.at (p := 175) (by decide), a2.at (p := 176) (by decide)] at is
      by_cases e3 : gI X 175 x = 0 ∧ 0 ≤ gI X 176 x ∧ gI X 176 x ≤ A 0 - 1
      · have w : gI X 161 x = gI X 176 x := by
          rcases fi with ⟨w1, w2, w3⟩ | ⟨w1, -⟩ | ⟨w1, -⟩
          · exact w3
          · omega
          · omega
        rw [w] at l61 st
        clear fi is a1 a2 a3 a4 a5 f1 f2 no
        generalize hz : gI X 176 x = z at *
        have z1 : z < A 0 := by omega
        have g0 := g.1
        have gs := g.2.2.2.2.2.2.2 z e3.2.1 z1
        rw [show stAt A 1 z = some (1 + 11 + 3 * z.toNat) from if_pos ⟨e3.2.1, z1⟩] at st
        have fld := (d_fld (t_d1 hC) cX g (k := z.toNat) (by omega)).1
        rw [show ((z.toNat : Nat) : Int) = z by omega] at fld
        obtain ⟨kd, Y0, y1, y2, r, bl, p, bl15, v1, v2⟩ := c_thing hC nx n9 li (k := stA A z 0) (n := z) (a := stA A z 1) gs.1.1 gs.1.2 e3.2.1 (by omega) gs.2.1.1 gs.2.1.2 e2.1 e2.2 (i2 y)
        obtain ⟨Y, u1, u2⟩ := v1 Y0 y2
        have nxY := u2.1
        have liY := u2.2.2.2.2.2
        have hkY : ∀ p, p < 179 → Y.k p = M.k p ∧ Y.len p = M.len p := fun p hp => nxY.2.1 p (by omega)
        have hrY : ∀ p, p < 179 → ¬ Rq p → Y.r p = M.r p := fun p hp q => nxY.2.2.2.1 p (by omega) (np p hp fun z => q (by unfold Rq; omega))
        have gY : ∀ p, p < 179 → p ≠ 163 → Y.g p = M.g p := fun p hp h2 => nxY.2.2.1 p (by omega) (np p hp h2)
        obtain ⟨W, s1, s2⟩ := m_act (hm.nx hkY hrY) g ((gY 165 (by decide) (by decide)).trans ha) (x := x) (z := z) (t := t) e.1 e.2 (by rw [gI_of (gY 176 (by decide) (by decide)), ← g76]) (by rw [gI_of (gY 175 (by decide) (by decide)), ← g75]; exact e3.1) e3.2.1 z1 e2.1 e2.2 (i2 y)
        obtain ⟨Z, p1, p2⟩ := v2 Y W s2
        refine ⟨r, Y, Z, ?_, s1.trans p1, act_fin hi nxY liY bl15 p2⟩
        show fX11_act M 0 (i2 x) (i2 t) (i2 y) = _
        rw [← u1]
        have d0 := fld.1
        have d1 := fld.2.1
        clear u1 u2 s1 s2 p1 p2 v1 v2 y2
        unfold fX11_act cSw
        rw [L_0, rn, B1_some, gk1, B1_some, e1, B1_some, q1, B1_some, if_neg n1, L_3, q2, B1_some, if_neg n1, t_now hC, B1_some, t_ss hC, B1_some, l61, B1_some, d_gk (t_d1 hC), B1_some, st, B1_some, NL_sm, d0, B1_some, B1_some, l61, B1_some, d1, B1_some, t_gk hC, B1_some, y1]
        rfl
      · rw [tf_f e3] at is
        have s0 : stAt A 1 (gI X 161 x) = none := by
          refine if_neg ?_
          rcases fi with ⟨w1, w2, w3⟩ | ⟨w1, w2, -⟩ | ⟨w1, -, w2⟩ <;> omega
        rw [s0] at st
        refine ⟨i2 0, X, Y1, ?_, ?_, no⟩
        · show fX11_act M 0 (i2 x) (i2 t) (i2 y) = _
          unfold fX11_act
          rw [L_0, rn, B1_some, gk1, B1_some, e1, B1_some, q1, B1_some, if_neg n1, L_3, q2, B1_some, if_neg n1, t_now hC, B1_some, t_ss hC, B1_some, l61, B1_some, d_gk (t_d1 hC), B1_some, st, B1_some]
          rfl
        · show fX12_act X 164 (i2 x) (i2 t) (i2 y) = _
          unfold fX12_act
          rw [L_0, a1, B1_some, f1, B1_some, if_neg n1, f2, B1_some, if_neg n1, gk_m a3, B1_some, is, B1_some, if_pos rfl]
    · rw [tf_f e2] at q2 f2
      refine ⟨i2 0, X, Y1, ?_, ?_, no⟩
      · show fX11_act M 0 (i2 x) (i2 t) (i2 y) = _
        unfold fX11_act
        rw [L_0, rn, B1_some, gk1, B1_some, e1, B1_some, q1, B1_some, if_neg n1, L_3, q2, B1_some, if_pos rfl]
      · show fX12_act X 164 (i2 x) (i2 t) (i2 y) = _
        unfold fX12_act
        rw [L_0, a1, B1_some, f1, B1_some, if_neg n1, f2, B1_some, if_pos rfl]
  · rw [tf_f e] at q1 f1
    refine ⟨i2 0, X, Y1, ?_, ?_, no⟩
    · show fX11_act M 0 (i2 x) (i2 t) (i2 y) = _
      unfold fX11_act
      rw [L_0, rn, B1_some, gk1, B1_some, e1, B1_some, q1, B1_some, if_pos rfl]
    · show fX12_act X 164 (i2 x) (i2 t) (i2 y) = _
      unfold fX12_act
      rw [L_0, a1, B1_some, f1, B1_some, if_pos rfl]
end OPACT
