section NEWSHEET
variable {M : Mm} {A : Int → Int}
def NsP (n p : Nat) : Prop := p = n ∨ p = 172 ∨ p = 173
def NsQ (n p : Nat) : Prop := p = n ∨ p = 160
def NsL (p : Nat) : Prop := p = 174
theorem sheet_inv {M2 : Mm} {x : Nat} {so n : Int} {v : Option Nat} (hi : Inv M) (hx : x < 4) (nx : Nx (NsP M.n) (NsQ M.n) NsL M M2) (g172 : ∀ s : Nat, s < 4 → gI M2 172 s = if s = x then so else gI M 172 s) (g173 : ∀ s : Nat, s < 4 → gI M2 173 s = if s = x then n else gI M 173 s) (r160 : ∀ s : Nat, s < 4 → M2.r 160 s = if s = x then v else M.r 160 s) (l174 : ∀ q : Nat, ¬ (40 * x ≤ q ∧ q < 40 * x + 40) → M2.l 174 q = M.l 174 q) (new : (v = none ∧ so = -1) ∨ (v = some M.n ∧ SO M2 M.n so n ∧ (0 ≤ so ∧ so ≤ 3) ∧ ∀ i : Nat, (i : Int) < n → M2.l (M.n + 1) i = 0 ∧ M2.l 174 (40 * x + i) = 0)) : Inv M2 := by
  have n9 : 179 ≤ M.n := by obtain ⟨A, b1, b2, b3, -⟩ := hi.1; exact b3
  obtain ⟨k1, k2, k3, k4, k5, k6⟩ := hi.2
  obtain ⟨x1, x2, x3, x4, x5⟩ := nx
  have e : ∀ p, p < M.n → p ≠ 172 → p ≠ 173 → gI M2 p = gI M p := fun p hp h2 h3 => gI_of (x3 p hp (by unfold NsP; omega))
  have so' : ∀ {o : Nat} {s n : Int}, SO M o s n → SO M2 o s n := fun {o s n} h => h.nx (P := NsP M.n) (Q := NsQ M.n) (L := NsL) ⟨x1, x2, x3, x4, x5⟩ (by have := h.1; unfold NsP; omega) (by have := h.1; unfold NsQ; omega)
  refine Inv.nx hi ⟨x1, x2, fun p a b => x3 p a fun z => b (by unfold NsP at z; unfold Sx; omega), fun p a b => x4 p a fun z => b (by unfold NsQ at z; unfold Rq; omega), fun p a b => absurd trivial b⟩ (by rw [e 164 (by omega) (by decide) (by decide)]) (by rw [e 164 (by omega) (by decide) (by decide)]) (by rw [e 164 (by omega) (by decide) (by decide)]) ?_ ?_ ?_
  · intro s hs
    rw [g172 s hs, g173 s hs, r160 s hs]
    by_cases h : s = x
    · rw [if_pos h, if_pos h, if_pos h]
      refine new.imp id fun ⟨w1, w2, w3, w4⟩ => ⟨M.n, w1, w2, w3, fun i hi' => ?_, fun q hq hne => ?_⟩
      · obtain ⟨y1, y2⟩ := w4 i hi'
        rw [h, y1, y2]
        exact ⟨rfl, fun _ => by decide⟩
      · rw [r160 q hq, if_neg (fun z => hne (z.trans h.symm))]
        intro z
        rcases k4 q hq with ⟨u1, -⟩ | ⟨o, u1, u2, -⟩
        · rw [u1] at z
          cases z
        · rw [u1] at z
          cases z
          have := u2.1
          omega
    · rw [if_neg h, if_neg h, if_neg h]
      refine (k4 s hs).imp id fun ⟨o, w1, w2, w3, w4, w5⟩ => ⟨o, w1, so' w2, w3, fun i hi' => ?_, fun q hq hne => ?_⟩
      · have sb := so_b w2
        have ob := w2.1
        rw [l174 (40 * s + i) (by omega), x5 (o + 1) ob.2 (by unfold NsL; omega)]
        exact w4 i hi'
      · rw [r160 q hq]
        by_cases h2 : q = x
        · rw [if_pos h2]
          rcases new with ⟨y1, -⟩ | ⟨y1, -⟩
          · rw [y1]
            simp
          · rw [y1]
            intro z
            cases z
            have := w2.1
            omega
        · rw [if_neg h2]
          exact w5 q hq hne
  · intro s hs
    rw [e 161 (by omega) (by decide) (by decide), e 175 (by omega) (by decide) (by decide), e 176 (by omega) (by decide) (by decide), e 177 (by omega) (by decide) (by decide), x4 162 (by omega) (by unfold NsQ; omega)]
    exact (k5 s hs).imp id fun y => y.imp (fun ⟨u1, u2, o, u3, u4⟩ => ⟨u1, u2, o, u3, so' u4⟩) id
  · unfold NI at k6 ⊢
    rw [e 163 (by omega) (by decide) (by decide), e 164 (by omega) (by decide) (by decide), e 178 (by omega) (by decide) (by decide), x4 163 (by omega) (by unfold NsQ; omega)]
    refine ⟨k6.1, k6.2.1, k6.2.2.imp id fun ⟨o, u1, u2, u3, u4, u5, u6, u7⟩ => ⟨o, u1, u2, by omega, ?_, ?_, ?_, ?_⟩⟩
    · rw [(x2 o u3).1]; exact u4
    · rw [(x2 o u3).2]; exact u5
    · rw [(x2 o u3).2]; exact u6
    · rw [x4 o u3 (by unfold NsQ; omega), e o u3 (by omega) (by omega)]
      exact u7
/-- the reference's items are made zero -/
theorem m_zero_L {x : Nat} (hx : x < 4) : ∀ (d N j : Nat) (Y : Mm), LayM Y → d < N → j + d = 40 → ∃ Y', fX12_sheet_L69 164 (i2 x) N (i2 j) Y = some (i2 1, Y') ∧ (Y'.n = Y.n ∧ Y'.k = Y.k ∧ Y'.len = Y.len ∧ Y'.g = Y.g ∧ Y'.r = Y.r) ∧ (∀ p, p ≠ 174 → Y'.l p = Y.l p) ∧ ∀ q : Nat, Y'.l 174 q = if 40 * x + j ≤ q ∧ q < 40 * x + 40 then 0 else Y.l 174 q := by
  intro d
  induction d with
  | zero =>
    intro N j Y h hN hj
    obtain ⟨N, rfl⟩ : ∃ k, N = k + 1 := ⟨N - 1, by omega⟩
    refine ⟨Y, ?_, ⟨rfl, rfl, rfl, rfl, rfl⟩, fun _ _ => rfl, fun q => by rw [if_neg (by omega)]⟩
    show (if (40 : Int32) ≤ i2 j then _ else _) = _
    rw [if_pos (by rw [L_40, i2_le (by decide) (by decide) (by omega) (by omega)]; omega), L_1]
  | succ d ih =>
    intro N j Y h hN hj
    obtain ⟨N, rfl⟩ : ∃ k, N = k + 1 := ⟨N - 1, by omega⟩
    have as1 := l_as (M := Y) (p := 174) (x := 40 * (x : Int) + j) (v := 0) (ar_it h).1 (by omega) (by rw [(ar_it h).2]; omega) (by omega)
    rw [show (40 * (x : Int) + j).toNat = 40 * x + j by omega] at as1
    have h1 : LayM (Y.sl 174 (40 * x + j) 0) := h
    obtain ⟨Y', p1, p2, p3, p4⟩ := ih N (j + 1) _ h1 (by omega) (by omega)
    refine ⟨Y', ?_, p2, fun p hp => (p3 p hp).trans (funext fun i => up2_nea _ _ hp), fun q => ?_⟩
    · rw [show (((j + 1 : Nat)) : Int) = (j : Int) + 1 from rfl] at p1
      rw [← p1]
      show (if (40 : Int32) ≤ i2 j then _ else _) = _
      rw [if_neg (by rw [L_40, i2_le (by decide) (by decide) (by omega) (by omega)]; omega), m_r15 h, B1_some, L_40, i2_mul, i2_add, as1, B1_some, L_1, i2_add]
    · rw [p4 q, sl_l]
      by_cases e : q = 40 * x + j
      · rw [if_neg (by omega), if_pos ⟨rfl, e⟩, if_pos (by omega)]
      · by_cases e2 : 40 * x + (j + 1) ≤ q ∧ q < 40 * x + 40
        · rw [if_pos e2, if_pos (by omega)]
        · rw [if_neg e2, if_neg (by omega), if_neg (by omega)]
/-- the reference's part of a new sheet -/
theorem m_sheetRest {N : Mm} (h : LayM N) {x : Int} (e : 0 ≤ x ∧ x ≤ 3) (so n : Int) (sb : -2147483648 ≤ so ∧ so < 2147483648) (nb : -2147483648 ≤ n ∧ n < 2147483648) : ∃ Y', asI N 172 (i2 x) (i2 so) = some (N.row 172 (uA (gI N 172) x so)) ∧ asI (N.row 172 (uA (gI N 172) x so)) 173 (i2 x) (i2 n) = some ((N.row 172 (uA (gI N 172) x so)).row 173 (uA (gI N 173) x n)) ∧ fX12_sheet_L69 164 (i2 x) FL (i2 0) ((N.row 172 (uA (gI N 172) x so)).row 173 (uA (gI N 173) x n)) = some (i2 1, Y') ∧ (Y'.n = N.n ∧ Y'.k = N.k ∧ Y'.len = N.len ∧ Y'.r = N.r) ∧ (∀ p, p ≠ 172 → p ≠ 173 → Y'.g p = N.g p) ∧ (∀ p, p ≠ 174 → Y'.l p = N.l p) ∧ (∀ q : Nat, Y'.l 174 q = if 40 * x.toNat ≤ q ∧ q < 40 * x.toNat + 40 then 0 else N.l 174 q) ∧ (∀ s : Nat, gI Y' 172 s = if s = x.toNat then so else gI N 172 s) ∧ ∀ s : Nat, gI Y' 173 s = if s = x.toNat then n else gI N 173 s := by
  have hx : ((x.toNat : Nat) : Int) = x := by omega
  have h1 := h.same (Same.row N 172 (uA (gI N 172) x so))
  have h2 := h1.same (Same.row _ 173 (uA (gI N 173) x n))
  have a1 := g_asI (M := N) (ar_so h) (x := x) (v := so) e.1 (by omega) (by omega)
  have a2 := g_asI (M := N.row 172 (uA (gI N 172) x so)) (ar_si h1) (x := x) (v := n) e.1 (by omega) (by omega)
  rw [gI_ne _ (by decide)] at a2
  have s1 : SmP (fun p => p = 172 ∨ p = 173) N ((N.row 172 (uA (gI N 172) x so)).row 173 (uA (gI N 173) x n)) := (SmP.row N _ (Or.inl rfl)).tr (SmP.row _ _ (Or.inr rfl))
  have g1 : ∀ s : Nat, gI ((N.row 172 (uA (gI N 172) x so)).row 173 (uA (gI N 173) x n)) 172 s = if s = x.toNat then so else gI N 172 s := fun s => by
    rw [gI_ne _ (by decide)]
    by_cases q : (s : Int) = x
    · rw [if_pos (by omega), q, gI_u e.1 sb.1 sb.2]
    · rw [if_neg (by omega), gI_u_ne (by omega) q]
  have g2 : ∀ s : Nat, gI ((N.row 172 (uA (gI N 172) x so)).row 173 (uA (gI N 173) x n)) 173 s = if s = x.toNat then n else gI N 173 s := fun s => by
    have b := gI_b N 173 s
    by_cases q : (s : Int) = x
    · rw [if_pos (by omega), q, gI_at e.1 (by rw [uA_self]; exact nb.1) (by rw [uA_self]; exact nb.2), uA_self]
    · rw [if_neg (by omega), gI_at (by omega) (by rw [uA_ne q]; exact b.1) (by rw [uA_ne q]; exact b.2), uA_ne q]
  generalize (N.row 172 (uA (gI N 172) x so)).row 173 (uA (gI N 173) x n) = K at a2 h2 s1 g1 g2
  obtain ⟨Y', p1, p2, p3, p4⟩ := m_zero_L (x := x.toNat) (by omega) 40 FL 0 K h2 (by decide) (by decide)
  rw [hx, show ((0 : Nat) : Int) = 0 from rfl] at p1
  refine ⟨Y', a1, a2, p1, ⟨p2.1.trans s1.1.1, p2.2.1.trans s1.1.2.1, p2.2.2.1.trans s1.1.2.2.1, p2.2.2.2.2.trans s1.1.2.2.2.2⟩, fun p h3 h4 => by rw [p2.2.2.2.1]; exact s1.2 p (by omega), fun p hp => (p3 p hp).trans (by rw [s1.1.2.2.2.1]), fun q => ?_, fun s => ?_, fun s => ?_⟩
  · rw [p4 q, s1.1.2.2.2.1]
    rfl
  · rw [gI_of (congrFun p2.2.2.2.1 172)]
    exact g1 s
  · rw [gI_of (congrFun p2.2.2.2.1 173)]
    exact g2 s
end NEWSHEET
