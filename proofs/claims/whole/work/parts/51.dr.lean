/-! A DRAWER OF THE COMPONENT, and what it stands for: a row A as the reference keeps it -/
def gI (M : Mm) (p : Nat) : Int → Int := fun j => (M.g p j.toNat).toInt
def nrI (A : Int → Int) : Int → Int := fun j => (i2 (A j)).toInt
theorem gI_row (M : Mm) (p : Nat) (A : Int → Int) {j : Int} (h : 0 ≤ j) : gI (M.row p A) p j = nrI A j := by
  unfold gI nrI
  rw [row_g]
  show (i2 (A ((j.toNat : Nat) : Int))).toInt = _
  rw [show ((j.toNat : Nat) : Int) = j by omega]
theorem gI_of {M M' : Mm} {p : Nat} (h : M'.g p = M.g p) : gI M' p = gI M p := by unfold gI; rw [h]
theorem nrI_id {A : Int → Int} {j : Int} (h1 : -2147483648 ≤ A j) (h2 : A j < 2147483648) : nrI A j = A j := i2_toInt h1 h2
theorem gI_b (M : Mm) (p : Nat) (j : Int) : -2147483648 ≤ gI M p j ∧ gI M p j < 2147483648 := i2_range _
theorem row_gI (M : Mm) (p : Nat) : M.row p (gI M p) = M := by
  refine (row_of ?_).symm
  funext j
  show M.g p j = i2 (M.g p (j : Int).toNat).toInt
  rw [i2_self, Int.toNat_natCast]
theorem st_self (M : Mm) (o : Nat) : stM M o (gI M o) (gI M (o + 1)) (gI M (o + 2)) = M := by
  unfold stM
  rw [row_gI, row_gI, row_gI]
/-- M' is M but for the ints of the cells from lo on, ahead of hi -/
def Same (M M' : Mm) (lo hi : Nat) : Prop := (M'.n = M.n ∧ M'.k = M.k ∧ M'.len = M.len ∧ M'.l = M.l ∧ M'.r = M.r) ∧ ∀ p, ¬ (lo ≤ p ∧ p < hi) → M'.g p = M.g p
theorem Same.rf (M : Mm) (lo hi : Nat) : Same M M lo hi := ⟨⟨rfl, rfl, rfl, rfl, rfl⟩, fun _ _ => rfl⟩
theorem Same.tr {M M' M'' : Mm} {lo hi : Nat} (h : Same M M' lo hi) (h' : Same M' M'' lo hi) : Same M M'' lo hi :=
  ⟨⟨h'.1.1.trans h.1.1, h'.1.2.1.trans h.1.2.1, h'.1.2.2.1.trans h.1.2.2.1, h'.1.2.2.2.1.trans h.1.2.2.2.1, h'.1.2.2.2.2.trans h.1.2.2.2.2⟩, fun p hp => (h'.2 p hp).trans (h.2 p hp)⟩
theorem Same.wide {M M' : Mm} {lo hi lo' hi' : Nat} (h : Same M M' lo hi) (h1 : lo' ≤ lo) (h2 : hi ≤ hi') : Same M M' lo' hi' := ⟨h.1, fun p hp => h.2 p (by omega)⟩
theorem Same.row (M : Mm) (p : Nat) (A : Int → Int) : Same M (M.row p A) p (p + 1) := ⟨⟨rfl, rfl, rfl, rfl, rfl⟩, fun q hq => row_g_ne A (by omega)⟩
theorem Same.st (M : Mm) (o : Nat) (C R W : Int → Int) : Same M (stM M o C R W) o (o + 3) :=
  (((Same.row M o C).wide (Nat.le_refl _) (by omega)).tr ((Same.row _ (o + 1) R).wide (by omega) (by omega))).tr ((Same.row _ (o + 2) W).wide (by omega) (by omega))
theorem LayS.same {M M' : Mm} {lo hi o : Nat} (hs : Same M M' lo hi) (h : LayS M o) : LayS M' o := by
  obtain ⟨⟨-, h2, h3, -, h5⟩, -⟩ := hs
  unfold LayS at h ⊢
  rw [h2, h3, h5]
  exact h
theorem LayW.same {M M' : Mm} {lo hi o : Nat} (hs : Same M M' lo hi) (h : LayW M o) : LayW M' o := by
  obtain ⟨⟨-, h2, h3, -, h5⟩, -⟩ := hs
  unfold LayW at h ⊢
  rw [h2, h3, h5]
  exact h
theorem LayD.same {M M' : Mm} {lo hi B : Nat} (hs : Same M M' lo hi) (h : LayD M B) : LayD M' B := by
  obtain ⟨⟨-, h2, h3, -, h5⟩, -⟩ := hs
  unfold LayD LayW LayS at h ⊢
  rw [h2, h3, h5]
  exact h
theorem LayC.same {M M' : Mm} {lo hi : Nat} (hs : Same M M' lo hi) (h : LayC M) : LayC M' := by
  obtain ⟨⟨-, h2, h3, -, h5⟩, -⟩ := hs
  unfold LayC LayD LayW LayS at h ⊢
  rw [h2, h3, h5]
  exact h
theorem LayM.same {M M' : Mm} {lo hi : Nat} (hs : Same M M' lo hi) (h : LayM M) : LayM M' := by
  obtain ⟨⟨-, h2, h3, -, h5⟩, -⟩ := hs
  unfold LayM at h ⊢
  rw [h2, h3, h5]
  exact h
theorem SR.norm {C R W S : Int → Int} (r : SR C R W S) (g : GS S) : SR (nrI C) (nrI R) (nrI W) S := by
  obtain ⟨⟨r0, r1, r2, r3, r4, r5⟩, ⟨r6, r7⟩, r8, rA, rB⟩ := r
  obtain ⟨g0, g1, g2, g3, g4, g5, g6, g8, g9, g10, g11, g12, gd⟩ := g
  have b6 := cl_b (x := S 6) (by omega)
  have b7 := cl_b (x := S 7) (by omega)
  refine ⟨⟨?_, ?_, ?_, ?_, ?_, ?_⟩, ⟨?_, ?_⟩, ?_, fun q => ⟨?_, ?_⟩, fun q => ⟨?_, ?_⟩⟩
  all_goals first | have qa := rA q | skip
  all_goals first | have qb := rB q | skip
  all_goals rw [nrI_id] <;> omega
theorem SR.cg {C R W C' R' W' S : Int → Int} (r : SR C R W S) (h1 : ∀ j, 0 ≤ j → C' j = C j) (h2 : ∀ j, 0 ≤ j → R' j = R j) (h3 : ∀ j, 0 ≤ j → W' j = W j) : SR C' R' W' S := by
  obtain ⟨⟨r0, r1, r2, r3, r4, r5⟩, ⟨r6, r7⟩, r8, rA, rB⟩ := r
  refine ⟨⟨?_, ?_, ?_, ?_, ?_, ?_⟩, ⟨?_, ?_⟩, ?_, fun q => ⟨?_, ?_⟩, fun q => ⟨?_, ?_⟩⟩
  all_goals first | rw [h1 _ (by decide)] | rw [h2 _ (by decide)] | rw [h3 _ (by decide)]
  all_goals first | assumption | exact (rA q).1 | exact (rA q).2 | exact (rB q).1 | exact (rB q).2
theorem SR.cgS {C R W S S' : Int → Int} (r : SR C R W S) (h : ∀ j, 0 ≤ j → j < 13 → S' j = S j) : SR C R W S' := by
  unfold SR
  rw [h 0 (by decide) (by decide), h 1 (by decide) (by decide), h 2 (by decide) (by decide), h 3 (by decide) (by decide), h 4 (by decide) (by decide), h 5 (by decide) (by decide), h 6 (by decide) (by decide), h 7 (by decide) (by decide), h 8 (by decide) (by decide), h 9 (by decide) (by decide), h 10 (by decide) (by decide), h 11 (by decide) (by decide), h 12 (by decide) (by decide)]
  exact r
theorem GS.cgS {S S' : Int → Int} (r : GS S) (h : ∀ j, 0 ≤ j → j < 13 → S' j = S j) : GS S' := by
  unfold GS
  rw [h 0 (by decide) (by decide), h 1 (by decide) (by decide), h 2 (by decide) (by decide), h 3 (by decide) (by decide), h 4 (by decide) (by decide), h 5 (by decide) (by decide), h 6 (by decide) (by decide), h 7 (by decide) (by decide), h 8 (by decide) (by decide), h 9 (by decide) (by decide), h 10 (by decide) (by decide), h 11 (by decide) (by decide), h 12 (by decide) (by decide)]
  exact r
theorem st_put {A S : Int → Int} {k j : Int} (h0 : 0 ≤ j) (h1 : j < 13) : stA (putA A k S) k j = S j := by
  unfold stA putA
  rw [if_pos (by omega)]
  congr 1
  omega
theorem st_put_ne {A S : Int → Int} {k q j : Int} (h : q ≠ k) (h0 : 0 ≤ j) (h1 : j < 13) : stA (putA A k S) q j = stA A q j := by
  unfold stA putA
  rw [if_neg (by omega)]
def SRm (M : Mm) (o : Nat) (S : Int → Int) : Prop := SR (gI M o) (gI M (o + 1)) (gI M (o + 2)) S
theorem SRm.same {M M' : Mm} {o : Nat} {S : Int → Int} (h0 : M'.g o = M.g o) (h1 : M'.g (o + 1) = M.g (o + 1)) (h2 : M'.g (o + 2) = M.g (o + 2)) (h : SRm M o S) : SRm M' o S := by
  unfold SRm
  rw [gI_of h0, gI_of h1, gI_of h2]
  exact h
theorem SRm.st {M : Mm} {o : Nat} {C R W S : Int → Int} (r : SR C R W S) (g : GS S) : SRm (stM M o C R W) o S := by
  refine (r.norm g).cg (fun j hj => ?_) (fun j hj => ?_) (fun j hj => ?_)
  · rw [gI_of (M := M.row o C) (by unfold stM; rw [row_g_ne _ (by omega), row_g_ne _ (by omega)]), gI_row _ _ _ hj]
  · rw [gI_of (M := (M.row o C).row (o + 1) R) (by unfold stM; rw [row_g_ne _ (by omega)]), gI_row _ _ _ hj]
  · exact gI_row _ _ _ hj
/-- what a whole row keeps to -/
def GA (A : Int → Int) : Prop := (0 ≤ A 0 ∧ A 0 ≤ 8) ∧ (-2147483648 ≤ A 1 ∧ A 1 < 2147483648) ∧ (-1 ≤ A 2 ∧ A 2 < A 0) ∧ (-1 ≤ A 3 ∧ A 3 < A 0) ∧ (A 2 = A 3 → A 2 = -1) ∧ GL (lwA A) ∧ (∀ w : Int, 0 ≤ w → w < 2 → (0 ≤ A (12 + w) ∧ A (12 + w) ≤ 10) ∧ ∀ i : Int, 0 ≤ i → i < A (12 + w) → (0 ≤ A (14 + 20 * w + 2 * i) ∧ A (14 + 20 * w + 2 * i) ≤ 3) ∧ (1 ≤ A (14 + 20 * w + 2 * i + 1) ∧ A (14 + 20 * w + 2 * i + 1) ≤ 60)) ∧ ∀ k : Int, 0 ≤ k → k < A 0 → GS (stA A k)
def CR (M : Mm) (B : Nat) (A : Int → Int) : Prop := (∀ j : Int, 0 ≤ j → j < 8 → gI M (B + 1) j = A (4 + j)) ∧ (gI M B 2 = A 0 ∧ gI M B 5 = A 1) ∧ (gI M (B + 3) 0 = A 2 ∧ gI M (B + 3) 1 = A 3) ∧ (∀ w : Nat, w < 2 → gI M (B + 5 + 3 * w) 0 = A (12 + w) ∧ ∀ i : Int, 0 ≤ i → i < A (12 + w) → gI M (B + 5 + 3 * w + 1) i = A (14 + 20 * w + 2 * i) ∧ gI M (B + 5 + 3 * w + 2) i = A (14 + 20 * w + 2 * i + 1)) ∧ ∀ k : Nat, (k : Int) < A 0 → SRm M (B + 11 + 3 * k) (stA A k)
theorem CR.same {M M' : Mm} {B lo hi : Nat} {A : Int → Int} (hs : Same M M' lo hi) (hd : hi ≤ B ∨ B + 35 ≤ lo) (g : A 0 ≤ 8) (h : CR M B A) : CR M' B A := by
  have e : ∀ p, B ≤ p → p < B + 35 → gI M' p = gI M p := fun p h1 h2 => gI_of (hs.2 p (by omega))
  obtain ⟨h1, h2, h3, h4, h5⟩ := h
  refine ⟨fun j a b => ?_, ?_, ?_, fun w hw => ?_, fun k hk => ?_⟩
  · rw [e _ (by omega) (by omega)]; exact h1 j a b
  · rw [e _ (by omega) (by omega)]; exact h2
  · rw [e _ (by omega) (by omega)]; exact h3
  · rw [e _ (by omega) (by omega), e _ (by omega) (by omega), e _ (by omega) (by omega)]; exact h4 w hw
  · exact (h5 k hk).same (hs.2 _ (by omega)) (hs.2 _ (by omega)) (hs.2 _ (by omega))
/-- one stocking of it changes -/
theorem CR.put {M : Mm} {B k : Nat} {A C R W S : Int → Int} (h : CR M B A) (g : GA A) (hk : (k : Int) < A 0) (r : SR C R W S) (gs : GS S) : CR (stM M (B + 11 + 3 * k) C R W) B (putA A k S) := by
  have hs := Same.st M (B + 11 + 3 * k) C R W
  have e : ∀ p, ¬ (B + 11 + 3 * k ≤ p ∧ p < B + 11 + 3 * k + 3) → gI (stM M (B + 11 + 3 * k) C R W) p = gI M p := fun p hp => gI_of (hs.2 p hp)
  have el : ∀ x : Int, x < 54 → putA A k S x = A x := fun x hx => put_lo (by omega) hx
  obtain ⟨h1, h2, h3, h4, h5⟩ := h
  refine ⟨fun j a b => ?_, ?_, ?_, fun w hw => ?_, fun q hq => ?_⟩
  · rw [e _ (by omega), el _ (by omega)]; exact h1 j a b
  · rw [e _ (by omega), el _ (by omega), el _ (by omega)]; exact h2
  · rw [e _ (by omega), el _ (by omega), el _ (by omega)]; exact h3
  · rw [e _ (by omega), e _ (by omega), e _ (by omega), el _ (by omega)]
    have hc := (g.2.2.2.2.2.2.1 w (by omega) (by omega)).1
    refine ⟨(h4 w hw).1, fun i i0 i1 => ?_⟩
    rw [el _ (by omega), el _ (by omega)]
    exact (h4 w hw).2 i i0 i1
  · rw [el _ (by omega)] at hq
    by_cases e2 : q = k
    · subst e2
      exact (SRm.st r gs).cgS fun j a b => st_put a b
    · exact ((h5 q hq).same (hs.2 _ (by omega)) (hs.2 _ (by omega)) (hs.2 _ (by omega))).cgS fun j a b => st_put_ne (by omega) a b
theorem GA.put {A S : Int → Int} {k : Int} (g : GA A) (k0 : 0 ≤ k) (gs : GS S) : GA (putA A k S) := by
  have el : ∀ x : Int, x < 54 → putA A k S x = A x := fun x hx => put_lo k0 hx
  have ew : lwA (putA A k S) 0 = lwA A 0 ∧ lwA (putA A k S) 1 = lwA A 1 ∧ lwA (putA A k S) 2 = lwA A 2 ∧ lwA (putA A k S) 3 = lwA A 3 ∧ lwA (putA A k S) 4 = lwA A 4 ∧ lwA (putA A k S) 5 = lwA A 5 ∧ lwA (putA A k S) 6 = lwA A 6 ∧ lwA (putA A k S) 7 = lwA A 7 := ⟨el _ (by decide), el _ (by decide), el _ (by decide), el _ (by decide), el _ (by decide), el _ (by decide), el _ (by decide), el _ (by decide)⟩
  obtain ⟨g0, g1, g2, g3, g4, g5, g6, g7⟩ := g
  refine ⟨?_, ?_, ?_, ?_, ?_, ?_, fun w w0 w1 => ?_, fun q q0 q1 => ?_⟩
  · rw [el _ (by decide)]; exact g0
  · rw [el _ (by decide)]; exact g1
  · rw [el _ (by decide), el _ (by decide)]; exact g2
  · rw [el _ (by decide), el _ (by decide)]; exact g3
  · rw [el _ (by decide), el _ (by decide)]; exact g4
  · obtain ⟨e0, e1, e2, e3, e4, e5, e6, e7⟩ := ew
    unfold GL
    rw [e0, e1, e2, e3, e4, e5, e6, e7]
    exact g5
  · have hc := g6 w w0 w1
    rw [el _ (by omega)]
    refine ⟨hc.1, fun i i0 i1 => ?_⟩
    rw [el _ (by omega), el _ (by omega)]
    exact hc.2 i i0 i1
  · rw [el _ (by decide)] at q1
    by_cases e : q = k
    · subst e
      exact gs.cgS fun j a b => st_put a b
    · exact (g7 q q0 q1).cgS fun j a b => st_put_ne e a b
