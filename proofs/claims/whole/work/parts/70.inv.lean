section INV
/-! WHAT HOLDS BETWEEN TWO CALLS -/
/-- the cells in which a call may leave what it likes -/
def Scr (p : Nat) : Prop := (1 ≤ p ∧ p < 36) ∨ (71 ≤ p ∧ p < 109) ∨ (111 ≤ p ∧ p < 149) ∨ p = 165 ∨ p = 167 ∨ p = 168 ∨ p = 171
/-- M' is M but for the ints of some cells -/
def SmP (P : Nat → Prop) (M M' : Mm) : Prop := (M'.n = M.n ∧ M'.k = M.k ∧ M'.len = M.len ∧ M'.l = M.l ∧ M'.r = M.r) ∧ ∀ p, ¬ P p → M'.g p = M.g p
theorem SmP.rf (P : Nat → Prop) (M : Mm) : SmP P M M := ⟨⟨rfl, rfl, rfl, rfl, rfl⟩, fun _ _ => rfl⟩
theorem SmP.tr {P : Nat → Prop} {M M' M'' : Mm} (h : SmP P M M') (h' : SmP P M' M'') : SmP P M M'' :=
  ⟨⟨h'.1.1.trans h.1.1, h'.1.2.1.trans h.1.2.1, h'.1.2.2.1.trans h.1.2.2.1, h'.1.2.2.2.1.trans h.1.2.2.2.1, h'.1.2.2.2.2.trans h.1.2.2.2.2⟩, fun p hp => (h'.2 p hp).trans (h.2 p hp)⟩
theorem SmP.of {M M' : Mm} {lo hi : Nat} {P : Nat → Prop} (h : Same M M' lo hi) (hP : ∀ p, lo ≤ p → p < hi → P p) : SmP P M M' := ⟨h.1, fun p hp => h.2 p fun q => hp (hP p q.1 q.2)⟩
theorem SmP.row (M : Mm) {p : Nat} (A : Int → Int) {P : Nat → Prop} (hP : P p) : SmP P M (M.row p A) := SmP.of (Same.row M p A) fun q h1 h2 => (show q = p by omega) ▸ hP
theorem SmP.same {P : Nat → Prop} {M M' : Mm} (h : SmP P M M') : Same M M' 0 0 → True := fun _ => trivial
theorem LayC.sm {P : Nat → Prop} {M M' : Mm} (hs : SmP P M M') (h : LayC M) : LayC M' := by
  obtain ⟨⟨-, h2, h3, -, h5⟩, -⟩ := hs
  unfold LayC LayD LayW LayS at h ⊢
  rw [h2, h3, h5]
  exact h
theorem LayM.sm {P : Nat → Prop} {M M' : Mm} (hs : SmP P M M') (h : LayM M) : LayM M' := by
  obtain ⟨⟨-, h2, h3, -, h5⟩, -⟩ := hs
  unfold LayM at h ⊢
  rw [h2, h3, h5]
  exact h
theorem CR.sm {P : Nat → Prop} {M M' : Mm} {B : Nat} {A : Int → Int} (hs : SmP P M M') (hd : ∀ p, B ≤ p → p < B + 35 → ¬ P p) (g : A 0 ≤ 8) (h : CR M B A) : CR M' B A := by
  have e : ∀ p, B ≤ p → p < B + 35 → gI M' p = gI M p := fun p h1 h2 => gI_of (hs.2 p (hd p h1 h2))
  obtain ⟨h1, h2, h3, h4, h5⟩ := h
  refine ⟨fun j a b => ?_, ?_, ?_, fun w hw => ?_, fun k hk => ?_⟩
  · rw [e _ (by omega) (by omega)]; exact h1 j a b
  · rw [e _ (by omega) (by omega)]; exact h2
  · rw [e _ (by omega) (by omega)]; exact h3
  · rw [e _ (by omega) (by omega), e _ (by omega) (by omega), e _ (by omega) (by omega)]; exact h4 w hw
  · exact (h5 k hk).same (hs.2 _ (hd _ (by omega) (by omega))) (hs.2 _ (hd _ (by omega) (by omega))) (hs.2 _ (hd _ (by omega) (by omega)))
/-- what is kept -/
def KI (M : Mm) : Prop := gI M 0 2 = gI M 164 4 ∧ (gI M 0 2 = 0 ∨ gI M 0 2 = 1 ∧ GA (gI M 166) ∧ CR M 36 (gI M 166))
/-- the tape -/
def TI (M : Mm) : Prop := gI M 109 1 = gI M 164 6 ∧ (0 ≤ gI M 109 1 ∧ gI M 109 1 ≤ 200) ∧ ∀ i : Int, 0 ≤ i → i < gI M 109 1 → gI M 110 i = gI M 169 i ∧ 0 ≤ gI M 110 i ∧ gI M 110 i ≤ 255
/-- the rows of a way -/
def RI (M : Mm) : Prop := gI M 0 7 = gI M 164 11 ∧ (0 ≤ gI M 0 7 ∧ gI M 0 7 ≤ 10) ∧ ∀ i : Nat, (i : Int) < gI M 0 7 → ∀ j : Int, 0 ≤ j → j < 3 → gI M (150 + i) j = gI M 170 (3 * i + j)
/-- o is a sheet of this sort, of n items -/
def SO (M : Mm) (o : Nat) (s n : Int) : Prop := (179 ≤ o ∧ o + 1 < M.n) ∧ M.k o = 9 ∧ gI M o 0 = s ∧ M.r o 1 = some (o + 1) ∧ M.k (o + 1) = 22 ∧ (M.len (o + 1) : Int) = n ∧ n ≤ 40
def SI (M : Mm) : Prop := ∀ s : Nat, s < 4 → (M.r 160 s = none ∧ gI M 172 s = -1) ∨ ∃ o, M.r 160 s = some o ∧ SO M o (gI M 172 s) (gI M 173 s) ∧ (0 ≤ gI M 172 s ∧ gI M 172 s ≤ 3) ∧ (∀ i : Nat, (i : Int) < gI M 173 s → M.l (o + 1) i = M.l 174 (40 * s + i) ∧ (gI M 172 s = 0 → -128 ≤ (M.l (o + 1) i).toInt ∧ (M.l (o + 1) i).toInt ≤ 127)) ∧ ∀ q : Nat, q < 4 → q ≠ s → M.r 160 q ≠ some o
def FI (M : Mm) : Prop := ∀ s : Nat, s < 4 → (gI M 175 s = 0 ∧ M.r 162 s = none ∧ gI M 161 s = gI M 176 s) ∨ (gI M 175 s = 1 ∧ gI M 161 s = -1 ∧ ∃ o, M.r 162 s = some o ∧ SO M o (gI M 176 s) (gI M 177 s)) ∨ (gI M 175 s = 2 ∧ M.r 162 s = none ∧ gI M 161 s = -1)
/-- the bodies that ran -/
def NI (M : Mm) : Prop := (0 ≤ gI M 163 2 ∧ gI M 163 2 ≤ 15) ∧ gI M 164 20 = gI M 163 2 ∧ ((M.r 163 1 = some 0 ∧ gI M 163 2 = 0) ∨ ∃ o, M.r 163 1 = some o ∧ 179 ≤ o ∧ o < M.n ∧ M.k o = 27 ∧ (M.len o = 10 ∨ M.len o = 15) ∧ gI M 163 2 ≤ (M.len o : Int) ∧ ∀ i : Nat, (i : Int) < gI M 163 2 → M.r o i ≠ none ∧ gI M o i = gI M 178 i ∧ 0 ≤ gI M o i ∧ gI M o i < 128)
def Rst (M : Mm) : Prop := KI M ∧ TI M ∧ RI M ∧ SI M ∧ FI M ∧ NI M
def Cor (M : Mm) (A : Int → Int) : Prop := LayC M ∧ LayM M ∧ 179 ≤ M.n ∧ M.g 165 = rI A ∧ GA A ∧ CR M 1 A
def Inv (M : Mm) : Prop := (∃ A, Cor M A) ∧ Rst M
section PRS
variable {P : Nat → Prop} {M M' : Mm}
theorem KI.sm (hs : SmP P M M') (h0 : gI M' 0 2 = gI M 0 2) (h1 : gI M' 164 4 = gI M 164 4) (h : ∀ p, (36 ≤ p ∧ p < 71) ∨ p = 166 → ¬ P p) (k : KI M) : KI M' := by
  unfold KI at k ⊢
  rw [h0, h1, gI_of (hs.2 166 (h _ (Or.inr rfl)))]
  refine ⟨k.1, k.2.imp id fun q => ⟨q.1, q.2.1, q.2.2.sm hs (fun p a b => h p (Or.inl ⟨a, by omega⟩)) (by have := q.2.1.1; omega)⟩⟩
theorem TI.sm (hs : SmP P M M') (h0 : gI M' 109 1 = gI M 109 1) (h1 : gI M' 164 6 = gI M 164 6) (h : ∀ p, p = 110 ∨ p = 169 → ¬ P p) (k : TI M) : TI M' := by
  unfold TI at k ⊢
  rw [h0, h1, gI_of (hs.2 110 (h _ (Or.inl rfl))), gI_of (hs.2 169 (h _ (Or.inr rfl)))]
  exact k
theorem RI.sm (hs : SmP P M M') (h0 : gI M' 0 7 = gI M 0 7) (h1 : gI M' 164 11 = gI M 164 11) (h : ∀ p, (150 ≤ p ∧ p < 160) ∨ p = 170 → ¬ P p) (k : RI M) : RI M' := by
  unfold RI at k ⊢
  rw [h0, h1, gI_of (hs.2 170 (h _ (Or.inr rfl)))]
  refine ⟨k.1, k.2.1, fun i hi j a b => ?_⟩
  rw [gI_of (hs.2 (150 + i) (h _ (Or.inl (by omega))))]
  exact k.2.2 i hi j a b
theorem SO.sm {o : Nat} {s n : Int} (hs : SmP P M M') (h : ∀ p, 179 ≤ p → ¬ P p) (k : SO M o s n) : SO M' o s n := by
  unfold SO at k ⊢
  rw [gI_of (hs.2 o (h o k.1.1))]
  obtain ⟨⟨h1, h2, h3, h4, h5⟩, -⟩ := hs
  rw [h1, h2, h3, h5]
  exact k
theorem SI.sm (hs : SmP P M M') (h : ∀ p, p = 172 ∨ p = 173 ∨ 179 ≤ p → ¬ P p) (k : SI M) : SI M' := by
  intro s hs4
  have q := k s hs4
  rw [gI_of (hs.2 172 (h _ (Or.inl rfl))), gI_of (hs.2 173 (h _ (Or.inr (Or.inl rfl)))), hs.1.2.2.2.2, hs.1.2.2.2.1]
  exact q.imp id fun ⟨o, q1, q2, q3, q4⟩ => ⟨o, q1, q2.sm hs fun p hp => h p (Or.inr (Or.inr hp)), q3, q4⟩
theorem FI.sm (hs : SmP P M M') (h : ∀ p, p = 161 ∨ (175 ≤ p ∧ p ≤ 177) ∨ 179 ≤ p → ¬ P p) (k : FI M) : FI M' := by
  intro s hs4
  have q := k s hs4
  rw [gI_of (hs.2 161 (h _ (Or.inl rfl))), gI_of (hs.2 175 (h _ (by omega))), gI_of (hs.2 176 (h _ (by omega))), gI_of (hs.2 177 (h _ (by omega))), hs.1.2.2.2.2]
  exact q.imp id fun q => q.imp (fun ⟨q0, q1, o, q2, q3⟩ => ⟨q0, q1, o, q2, q3.sm hs fun p hp => h p (Or.inr (Or.inr hp))⟩) id
theorem NI.sm (hs : SmP P M M') (h1 : gI M' 164 20 = gI M 164 20) (h : ∀ p, p = 163 ∨ p = 178 ∨ 179 ≤ p → ¬ P p) (k : NI M) : NI M' := by
  unfold NI at k ⊢
  rw [gI_of (hs.2 163 (h _ (by omega))), gI_of (hs.2 178 (h _ (by omega))), h1, hs.1.2.2.2.2, hs.1.1, hs.1.2.1, hs.1.2.2.1]
  refine ⟨k.1, k.2.1, k.2.2.imp id fun ⟨o, q1, q2, q3⟩ => ⟨o, q1, q2, ?_⟩⟩
  rw [gI_of (hs.2 o (h _ (by omega)))]
  exact q3
end PRS
theorem Rst.scr {M M' : Mm} (hs : SmP Scr M M') (k : Rst M) : Rst M' := by
  obtain ⟨k1, k2, k3, k4, k5, k6⟩ := k
  have e : ∀ p, ¬ Scr p → gI M' p = gI M p := fun p hp => gI_of (hs.2 p hp)
  exact ⟨k1.sm hs (by rw [e 0 (by unfold Scr; omega)]) (by rw [e 164 (by unfold Scr; omega)]) (by unfold Scr; omega), k2.sm hs (by rw [e 109 (by unfold Scr; omega)]) (by rw [e 164 (by unfold Scr; omega)]) (by unfold Scr; omega), k3.sm hs (by rw [e 0 (by unfold Scr; omega)]) (by rw [e 164 (by unfold Scr; omega)]) (by unfold Scr; omega), k4.sm hs (by unfold Scr; omega), k5.sm hs (by unfold Scr; omega), k6.sm hs (by rw [e 164 (by unfold Scr; omega)]) (by unfold Scr; omega)⟩
/-- an operation: one answer on both sides, and what holds between two calls holds again -/
def Op (M : Mm) (f f' : Mm → Option (Int32 × Mm)) : Prop := ∃ r M1 M2, f M = some (r, M1) ∧ f' M1 = some (r, M2) ∧ Inv M2
/-- one that only reads -/
def OpP (f f' : Option Int32) : Prop := ∃ r, f = some r ∧ f' = some r
theorem Op.scr {M M1 M2 : Mm} {A' : Int → Int} {f f' : Mm → Option (Int32 × Mm)} {r : Int32} (hi : Inv M) (h1 : f M = some (r, M1)) (s1 : SmP Scr M M1) (h2 : f' M1 = some (r, M2)) (s2 : SmP Scr M1 M2) (ha : M2.g 165 = rI A') (g : GA A') (c : CR M2 1 A') : Op M f f' := by
  obtain ⟨⟨A, b1, b2, b3, -⟩, hr⟩ := hi
  have s := s1.tr s2
  exact ⟨r, M1, M2, h1, h2, ⟨A', b1.sm s, b2.sm s, by rw [s.1.1]; exact b3, ha, g, c⟩, hr.scr s⟩
theorem OpR.op {M : Mm} {A : Int → Int} {f f' : Mm → Option (Int32 × Mm)} (hi : Inv M) (h : OpR M A f f') : Op M f f' := by
  obtain ⟨r, M1, A', h1, s1, h2, c, g⟩ := h
  exact Op.scr (A' := A') hi h1 (SmP.of s1 (by unfold Scr; omega)) h2 (SmP.row _ _ (by unfold Scr; omega)) (row_g _ _ _) g (c.same (Same.row _ _ _) (by omega) g.1.2)
end INV
