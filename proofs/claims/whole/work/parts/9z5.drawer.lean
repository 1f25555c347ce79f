section DRAWER
variable {M : Mm} {A : Int → Int}
theorem op_drawer (h : LayC M) (hm : LayM M) (c : CR M 1 A) (g : GA A) (ha : M.g 165 = rI A) (hi : Inv M) : Op M (fun M => fX11_drawer M 0) (fun M => fX12_drawer M 164) := by
  obtain ⟨k1, k2, k3, k4, k5, k6⟩ := hi.2
  obtain ⟨t1, t2, t3⟩ := k2
  have g0 := g.1
  have gz := g.2.1
  have tp : Tp M (gI M 110) (gI M 109 1) := ⟨rfl, t2, fun i i0 i1 => ⟨rfl, (t3 i i0 i1).2⟩⟩
  obtain ⟨X0, X, n, zz, h0, sM, -, tk, u, zb, go⟩ := c_tell h tp
  have n9 := tk.2.1
  have cs := fun R (b : BgR R (A 1)) => go (uA R 1 zz) ⟨b.1, uA_self _ _ _, b.2.2.1, b.2.2.2.1, fun j a e => (uA_ne (by omega)).trans (b.2.2.2.2.1 j a e), b.2.2.2.2.2.1, b.2.2.2.2.2.2⟩
  have mt : ∀ Z : Mm, gI Z 169 = gI M 169 → gI Z 164 6 = gI M 164 6 → Mt Z (gI M 110) (gI M 109 1) := fun Z e9 e4 => ⟨by rw [e4]; exact t1.symm, t2, fun i i0 i1 => by rw [e9]; exact ⟨(t3 i i0 i1).1.symm, (t3 i i0 i1).2⟩⟩
  -- once for the component alone
  obtain ⟨R, Y, -, bg, ms⟩ := m_tell hm (mt M rfl rfl) tk ha
  obtain ⟨i', f', A', X', Y', -, a1, a2, -, -⟩ := cl_all tk n FL FL X Y 0 0 0 _ (by omega) (cs R bg) (ms zz) (by decide) (by decide) (by show _ < 4096; omega) (by show _ < 4096; omega)
  have sX : SmP CpP X0 X' := a2.2.1
  have dis : ∀ p, 1 ≤ p → p < 36 → ¬ TkP p ∧ ¬ CpP p := fun p a b => by unfold TkP CpP; omega
  have cX : CR X' 1 A := (c.sm sM (fun p a b => (dis p a (by omega)).1) g0.2).sm sX (fun p a b => (dis p a (by omega)).2) g0.2
  obtain ⟨r, Z, d1, d2, d3, d4, -⟩ := c_end cX g a2
  have e0 : gI X' 0 = gI M 0 := (sX.at (by unfold CpP; omega)).trans (sM.at (by unfold TkP; omega))
  have sZ : SmP (fun p => p = 109 ∨ (146 ≤ p ∧ p ≤ 148) ∨ DrP p) M Z := ((sM.mono fun p hp => by unfold TkP at hp; omega).tr (sX.mono fun p hp => by unfold CpP at hp; unfold DrP; omega)).tr (d2.mono fun p hp => Or.inr (Or.inr hp))
  have off : ∀ p, 149 ≤ p ∨ p = 110 ∨ (36 ≤ p ∧ p < 109) → Z.g p = M.g p := fun p hp => sZ.2 p (by unfold DrP; omega)
  have hmZ := hm.sm sZ
  have aZ : Z.g 165 = rI A := (off 165 (by omega)).trans ha
  have f1 : fX11_drawer M 0 = some (r, Z) := by
    rw [c_drawerU, t_tape h, B1_some, tp_gk h, B1_some, u, show i2 0 = i2 (0 : Int) from rfl, a1, B2_some, d1]
  -- and once more, beside the reference over what the component leaves
  obtain ⟨R2, Y2, v, bg2, ms2⟩ := m_tell hmZ (mt Z (gI_of (off 169 (by omega))) (by rw [gI_of (off 164 (by omega))])) tk aZ
  obtain ⟨j', f'', B', X'', Y'', -, b1, b2, b3, b4⟩ := cl_all tk n FL FL X Y2 0 0 0 _ (by omega) (cs R2 bg2) (ms2 zz) (by decide) (by decide) (by show _ < 4096; omega) (by show _ < 4096; omega)
  obtain rfl : X' = X'' := by
    have q := a1.symm.trans b1
    injection q with q
    exact (Prod.mk.injEq _ _ _ _ ▸ q).2
  obtain ⟨r', Z', d1', -, -, -, d5⟩ := c_end cX g b2
  obtain ⟨rfl, rfl⟩ : r = r' ∧ Z = Z' := by
    have q := d1.symm.trans d1'
    injection q with q
    exact Prod.mk.injEq _ _ _ _ ▸ q
  obtain ⟨r2, W, e1, e2, e3, e4, e5⟩ := m_end (f := f'') (A' := B') (z := A 1) (fun w => by
    rcases d5 with d5 | d5
    · exact d5.2.2.1
    · omega) b4 (by rcases d5 with d5 | d5 <;> omega)
  have sY : SmP MtP Z Y'' := b4.2.1
  have sW : SmP (fun p => p = 164 ∨ p = 165 ∨ p = 168) Z W := (sY.mono fun p hp => by unfold MtP at hp; omega).tr (e2.mono fun p hp => by unfold DmP at hp; omega)
  have sAll : SmP GnP M W := (sZ.mono fun p hp => by unfold DrP at hp; unfold GnP Scr; omega).tr (sW.mono fun p hp => by unfold GnP Scr; omega)
  have sq : SmP (fun p => p < 36 ∨ p = 109 ∨ (111 ≤ p ∧ p ≤ 148) ∨ p = 164 ∨ p = 165 ∨ p = 168) M W := (sZ.mono fun p hp => by unfold DrP at hp; omega).tr (sW.mono fun p hp => by omega)
  have w0 : gI W 0 = gI Z 0 := sW.at (by omega)
  have w109 : gI W 109 = gI Z 109 := sW.at (by omega)
  have z164 : gI Z 164 = gI M 164 := gI_of (off 164 (by omega))
  have w164 : ∀ j : Int, 0 ≤ j → j ≠ 6 → j ≠ 7 → j ≠ 8 → j ≠ 9 → j ≠ 11 → gI W 164 j = gI M 164 j := fun j j0 j6 j7 j8 j9 j11 => by
    rw [e4 j j0 j6 j11, b4.2.2.2.2.2.1 j j0 j7 j8 j9, z164]
  have f2 : fX12_drawer Z 164 = some (r2, W) := by rw [v, b3, e1]
  have kW : KI W := k1.sm sq (by rw [w0, d4 2 (by decide) (by decide), e0]) (w164 4 (by decide) (by decide) (by decide) (by decide) (by decide) (by decide)) (by omega)
  have tW : TI W := ⟨by rw [w109, d3, e3], by rw [w109, d3]; decide, fun i i0 i1 => by rw [w109, d3] at i1; omega⟩
  have e20 : gI W 164 20 = gI M 164 20 := w164 20 (by decide) (by decide) (by decide) (by decide) (by decide) (by decide)
  rcases d5 with ⟨rfl, rr, gg, cc, d7⟩ | ⟨rfl, rr, cc, d7⟩
  · obtain ⟨-, rr2, ⟨D, eD, eE⟩, e11⟩ : (0 : Int) = 0 ∧ r2 = i2 (B' 0) ∧ (∃ D, W.g 165 = rI D ∧ E158 D (uA B' 1 (A 1))) ∧ gI W 164 11 = 0 := by
      rcases e5 with e5 | e5
      · exact e5
      · omega
    refine ⟨r, Z, W, f1, by rw [rr, ← rr2]; exact f2, Inv.gen (A' := D) hi sAll kW tW ⟨by rw [w0, d7, e11], by rw [w0, d7]; decide, fun i i0 => by rw [w0, d7] at i0; omega⟩ e20 eD (gg.e eE) ((cc.sm sW (fun p a b => by omega) gg.1.2).e eE gg)⟩
  · obtain ⟨-, rr2, eD, e11⟩ : (1 : Int) = 1 ∧ r2 = i2 (-100 - gI X0 147 j') ∧ W.g 165 = Y''.g 165 ∧ gI W 164 11 = gI Y'' 164 11 := by
      rcases e5 with e5 | e5
      · omega
      · exact e5
    have e11' : gI W 164 11 = gI M 164 11 := by rw [e11, b4.2.2.2.2.2.1 11 (by decide) (by decide) (by decide) (by decide), z164]
    refine ⟨r, Z, W, f1, by rw [rr, ← rr2]; exact f2, Inv.gen (A' := A) hi sAll kW tW (k3.sm sq (by rw [w0, d7, e0]) e11' (by omega)) e20 ?_ g (cc.sm sW (fun p a b => by omega) g0.2)⟩
    rw [eD, sY.2 165 (by unfold MtP; omega)]
    exact aZ
end DRAWER
