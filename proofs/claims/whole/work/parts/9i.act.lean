section ACT
variable {M X : Mm} {A : Int → Int}
theorem act_inv {Z : Mm} {bl : List Int} (hi : Inv M) (nx : Nx (LiP M) (LiP M) NoP M X) (li : LiI X bl) (hl : bl.length ≤ 15) (s : SmP (fun q => q = 164 ∨ q = 178) X Z) (h20 : gI Z 164 20 = bl.length) (h178 : ∀ i : Nat, i < bl.length → gI Z 178 i = bl.getD i 0) (fo : ∀ j : Int, 0 ≤ j → j < 20 → gI Z 164 j = gI X 164 j) : Inv Z := by
  have n9 : 179 ≤ M.n := by obtain ⟨A, b1, b2, b3, -⟩ := hi.1; exact b3
  obtain ⟨k1, k2, k3, k4, k5, k6⟩ := hi.2
  obtain ⟨l1, l2, l3, l4⟩ := li
  have e164 : gI X 164 = gI M 164 := gI_of (nx.2.2.1 164 (by omega) (by unfold LiP; omega))
  have np : ∀ p, p < M.n → M.k p ≠ 27 → p ≠ 163 → ¬ LiP M p := fun p hp h h2 z => z.elim h2 fun w => h w.2
  have lo : ∀ p, p < 179 → p ≠ 163 → ¬ LiP M p := fun p hp h2 z => z.elim h2 fun w => by omega
  have zx : Z.n = X.n ∧ Z.k = X.k ∧ Z.len = X.len ∧ Z.l = X.l ∧ Z.r = X.r := s.1
  have gz : ∀ p, p ≠ 164 → p ≠ 178 → gI Z p = gI X p := fun p h1 h2 => gI_of (s.2 p (by omega))
  have g0 : ∀ p, p < M.n → ¬ LiP M p → p ≠ 164 → p ≠ 178 → gI Z p = gI M p := fun p hp h h1 h2 => (gz p h1 h2).trans (gI_of (nx.2.2.1 p hp h))
  have so : ∀ {o : Nat} {a b : Int}, SO M o a b → SO Z o a b := fun {o a b} h => by
    obtain ⟨⟨a1, a2⟩, a3, a4, a5, a6, a7, a8⟩ := h
    have no := np o (by omega) (by rw [a3]; decide) (by omega)
    exact ⟨⟨a1, by rw [zx.1]; have := nx.1; omega⟩, by rw [zx.2.1, (nx.2.1 o (by omega)).1]; exact a3, by rw [g0 o (by omega) no (by omega) (by omega)]; exact a4, by rw [zx.2.2.2.2, nx.2.2.2.1 o (by omega) no]; exact a5, by rw [zx.2.1, (nx.2.1 (o + 1) a2).1]; exact a6, by rw [zx.2.2.1, (nx.2.1 (o + 1) a2).2]; exact a7, a8⟩
  have r0 : ∀ p, p < 179 → p ≠ 163 → Z.r p = M.r p := fun p hp h => by rw [zx.2.2.2.2, nx.2.2.2.1 p (by omega) (lo p hp h)]
  have ll : ∀ p, p < M.n → Z.l p = M.l p := fun p hp => by rw [zx.2.2.2.1, nx.2.2.2.2 p hp (fun z => z)]
  refine Inv.nx hi ?_ (by rw [fo 4 (by decide) (by decide), e164]) (by rw [fo 6 (by decide) (by decide), e164]) (by rw [fo 11 (by decide) (by decide), e164]) ?_ ?_ ?_
  · refine ⟨by rw [zx.1]; exact nx.1, fun p hp => by rw [zx.2.1, zx.2.2.1]; exact nx.2.1 p hp, fun p hp q => ?_, fun p hp q => ?_, fun p hp q => absurd trivial q⟩
    · rw [s.2 p (fun z => q (by unfold Sx; omega))]
      exact nx.2.2.1 p hp fun z => q (by unfold LiP at z; unfold Sx; omega)
    · rw [zx.2.2.2.2]
      exact nx.2.2.2.1 p hp fun z => q (by unfold LiP at z; unfold Rq; omega)
  · intro q hq
    rw [g0 172 (by omega) (lo 172 (by decide) (by decide)) (by decide) (by decide), g0 173 (by omega) (lo 173 (by decide) (by decide)) (by decide) (by decide), r0 160 (by decide) (by decide)]
    refine (k4 q hq).imp id fun ⟨o, w1, w2, w3, w4, w5⟩ => ⟨o, w1, so w2, w3, fun i hi' => ?_, w5⟩
    rw [ll (o + 1) w2.1.2, ll 174 (by omega)]
    exact w4 i hi'
  · intro q hq
    rw [g0 161 (by omega) (lo 161 (by decide) (by decide)) (by decide) (by decide), g0 175 (by omega) (lo 175 (by decide) (by decide)) (by decide) (by decide), g0 176 (by omega) (lo 176 (by decide) (by decide)) (by decide) (by decide), g0 177 (by omega) (lo 177 (by decide) (by decide)) (by decide) (by decide), r0 162 (by decide) (by decide)]
    exact (k5 q hq).imp id fun y => y.imp (fun ⟨u1, u2, o, u3, u4⟩ => ⟨u1, u2, o, u3, so u4⟩) id
  · have e163 : gI Z 163 = gI X 163 := gz 163 (by decide) (by decide)
    refine ⟨by rw [e163, l2]; omega, by rw [e163, h20, l2], ?_⟩
    rw [e163, l2, zx.2.2.2.2]
    refine l4.imp (fun ⟨a, b⟩ => ⟨a, by rw [b]; rfl⟩) fun ⟨o, r, ⟨a1, a2⟩, a3, a4, a5, a6⟩ => ⟨o, r, a1, by rw [zx.1]; exact a2, by rw [zx.2.1]; exact a3, by rw [zx.2.2.1]; exact a4, by rw [zx.2.2.1]; omega, fun i hi' => ?_⟩
    have hi2 : i < bl.length := by omega
    obtain ⟨b1, b2⟩ := a6 i hi2
    have hb := l3 _ (gd_mem hi2)
    rw [gz o (by omega) (by omega), h178 i hi2, b2]
    exact ⟨b1, rfl, hb⟩
/-- a thing is made -/
theorem ca_init {bl : List Int} {kd : Nat} {n a : Int} (nx : Nx (LiP M) (LiP M) NoP M X) (n9 : 179 ≤ M.n) (li : LiI X bl) (hk : kd ≠ 27 ∧ kd ≠ 2) : ∃ Y, (B1 (wrZ (X.nw kd 0) X.n kd 3 0) fun M6 => B1 (wrI M6 X.n kd 0 (i2 n)) fun M11 => B1 (wrI M11 X.n kd 1 (i2 a)) fun M16 => B1 (wrR M16 X.n kd 2 (some 163)) fun M21 => some M21) = some Y ∧ CA M Y X.n kd n a bl 0 := by
  sorry
end ACT
