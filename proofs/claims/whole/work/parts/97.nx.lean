section NX
variable {M M' : Mm} {A : Int → Int}
/-- M' goes on from M: new cells, other ints in P, other references in Q, other longs in L -/
def Nx (P Q L : Nat → Prop) (M M' : Mm) : Prop := M.n ≤ M'.n ∧ (∀ p, p < M.n → M'.k p = M.k p ∧ M'.len p = M.len p) ∧ (∀ p, p < M.n → ¬ P p → M'.g p = M.g p) ∧ (∀ p, p < M.n → ¬ Q p → M'.r p = M.r p) ∧ ∀ p, p < M.n → ¬ L p → M'.l p = M.l p
theorem Nx.rf (P Q L : Nat → Prop) (M : Mm) : Nx P Q L M M := ⟨Nat.le_refl _, fun _ _ => ⟨rfl, rfl⟩, fun _ _ _ => rfl, fun _ _ _ => rfl, fun _ _ _ => rfl⟩
theorem Nx.tr {P Q L : Nat → Prop} {M M' M'' : Mm} (h : Nx P Q L M M') (h' : Nx P Q L M' M'') : Nx P Q L M M'' := by
  obtain ⟨a1, a2, a3, a4, a5⟩ := h
  obtain ⟨b1, b2, b3, b4, b5⟩ := h'
  exact ⟨Nat.le_trans a1 b1, fun p hp => ⟨(b2 p (by omega)).1.trans (a2 p hp).1, (b2 p (by omega)).2.trans (a2 p hp).2⟩, fun p hp q => (b3 p (by omega) q).trans (a3 p hp q), fun p hp q => (b4 p (by omega) q).trans (a4 p hp q), fun p hp q => (b5 p (by omega) q).trans (a5 p hp q)⟩
theorem Nx.of {P Q L : Nat → Prop} (h : SmP P M M') : Nx P Q L M M' := ⟨by rw [h.1.1]; exact Nat.le_refl _, fun p _ => ⟨by rw [h.1.2.1], by rw [h.1.2.2.1]⟩, fun p _ q => h.2 p q, fun p _ _ => by rw [h.1.2.2.2.2], fun p _ _ => by rw [h.1.2.2.2.1]⟩
theorem Nx.mono {P Q L P' Q' L' : Nat → Prop} (h : Nx P Q L M M') (h1 : ∀ p, P p → P' p) (h2 : ∀ p, Q p → Q' p) (h3 : ∀ p, L p → L' p) : Nx P' Q' L' M M' := ⟨h.1, h.2.1, fun p a b => h.2.2.1 p a fun z => b (h1 p z), fun p a b => h.2.2.2.1 p a fun z => b (h2 p z), fun p a b => h.2.2.2.2 p a fun z => b (h3 p z)⟩
theorem Nx.sr {P Q L : Nat → Prop} (M : Mm) {a j : Nat} (v : Option Nat) (h : Q a) : Nx P Q L M (M.sr a j v) := ⟨Nat.le_refl _, fun _ _ => ⟨rfl, rfl⟩, fun _ _ _ => rfl, fun p _ q => funext fun i => up2_nea _ _ (fun e => q (e ▸ h)), fun _ _ _ => rfl⟩
theorem Nx.sl {P Q L : Nat → Prop} (M : Mm) {a j : Nat} (v : Int64) (h : L a) : Nx P Q L M (M.sl a j v) := ⟨Nat.le_refl _, fun _ _ => ⟨rfl, rfl⟩, fun _ _ _ => rfl, fun _ _ _ => rfl, fun p _ q => funext fun i => up2_nea _ _ (fun e => q (e ▸ h))⟩
theorem Nx.nw {P Q L : Nat → Prop} (M : Mm) (kd len : Nat) : Nx P Q L M (M.nw kd len) := by
  have e : ∀ {α : Type} (f : Nat → α) (v : α) (p : Nat), p < M.n → va_up f M.n v p = f p := fun f v p hp => va_up_ne _ _ (by omega)
  exact ⟨Nat.le_succ _, fun p hp => ⟨e _ _ p hp, e _ _ p hp⟩, fun p hp _ => e _ _ p hp, fun p hp _ => e _ _ p hp, fun p hp _ => e _ _ p hp⟩
/-- the references that no sheet, shelf or list holds -/
def Rq (p : Nat) : Prop := p = 160 ∨ p = 162 ∨ p = 163 ∨ 179 ≤ p
theorem LayS.nx {o : Nat} (hk : ∀ p, p < 179 → M'.k p = M.k p ∧ M'.len p = M.len p) (hr : ∀ p, p < 179 → ¬ Rq p → M'.r p = M.r p) (o9 : o + 2 < 160) (h : LayS M o) : LayS M' o := by
  unfold LayS at h ⊢
  rw [(hk o (by omega)).1, hr o (by omega) (by unfold Rq; omega), (hk (o + 1) (by omega)).1, (hk (o + 1) (by omega)).2, (hk (o + 2) (by omega)).1, (hk (o + 2) (by omega)).2]
  exact h
theorem LayW.nx {o : Nat} (hk : ∀ p, p < 179 → M'.k p = M.k p ∧ M'.len p = M.len p) (hr : ∀ p, p < 179 → ¬ Rq p → M'.r p = M.r p) (o9 : o + 2 < 160) (h : LayW M o) : LayW M' o := by
  unfold LayW at h ⊢
  rw [(hk o (by omega)).1, hr o (by omega) (by unfold Rq; omega), (hk (o + 1) (by omega)).1, (hk (o + 1) (by omega)).2, (hk (o + 2) (by omega)).1, (hk (o + 2) (by omega)).2]
  exact h
theorem LayD.nx {B : Nat} (hk : ∀ p, p < 179 → M'.k p = M.k p ∧ M'.len p = M.len p) (hr : ∀ p, p < 179 → ¬ Rq p → M'.r p = M.r p) (o9 : B + 35 ≤ 160) (h : LayD M B) : LayD M' B := by
  obtain ⟨h1, h2, h3, h4, h5, h6, h7⟩ := h
  refine ⟨?_, ?_, ?_, ?_, ?_, fun w hw => ?_, fun i hi => ?_⟩
  · rw [(hk B (by omega)).1, hr B (by omega) (by unfold Rq; omega)]; exact h1
  · rw [(hk (B + 1) (by omega)).1, (hk (B + 1) (by omega)).2]; exact h2
  · rw [(hk (B + 2) (by omega)).1, (hk (B + 2) (by omega)).2]; exact h3
  · rw [(hk (B + 3) (by omega)).1, (hk (B + 3) (by omega)).2]; exact h4
  · rw [(hk (B + 4) (by omega)).1, (hk (B + 4) (by omega)).2]; exact h5
  · rw [hr (B + 4) (by omega) (by unfold Rq; omega)]
    exact ⟨(h6 w hw).1, (h6 w hw).2.nx hk hr (by omega)⟩
  · rw [hr (B + 2) (by omega) (by unfold Rq; omega)]
    exact ⟨(h7 i hi).1, (h7 i hi).2.nx hk hr (by omega)⟩
theorem LayC.nx (hk : ∀ p, p < 179 → M'.k p = M.k p ∧ M'.len p = M.len p) (hr : ∀ p, p < 179 → ¬ Rq p → M'.r p = M.r p) (h : LayC M) : LayC M' := by
  obtain ⟨h1, h2, h3, h4, h5, h6, h7, h8, h9, h10, h11, h12, h13, h14, h15⟩ := h
  refine ⟨?_, h2.nx hk hr (by omega), h3.nx hk hr (by omega), h4.nx hk hr (by omega), h5.nx hk hr (by omega), h6.nx hk hr (by omega), ?_, ?_, fun p a b => ?_, ?_, fun i hi => ?_, ?_, ?_, ?_, ?_⟩
  · rw [(hk 0 (by omega)).1, hr 0 (by omega) (by unfold Rq; omega)]; exact h1
  · rw [(hk 109 (by omega)).1, hr 109 (by omega) (by unfold Rq; omega)]; exact h7
  · rw [(hk 110 (by omega)).1, (hk 110 (by omega)).2]; exact h8
  · rw [(hk p (by omega)).1, (hk p (by omega)).2]; exact h9 p a b
  · rw [(hk 149 (by omega)).1, (hk 149 (by omega)).2, hr 149 (by omega) (by unfold Rq; omega)]; exact h10
  · rw [(hk (150 + i) (by omega)).1, (hk (150 + i) (by omega)).2]; exact h11 i hi
  · rw [(hk 160 (by omega)).1, (hk 160 (by omega)).2]; exact h12
  · rw [(hk 161 (by omega)).1, (hk 161 (by omega)).2]; exact h13
  · rw [(hk 162 (by omega)).1, (hk 162 (by omega)).2]; exact h14
  · rw [(hk 163 (by omega)).1]; exact h15
theorem LayM.nx (hk : ∀ p, p < 179 → M'.k p = M.k p ∧ M'.len p = M.len p) (hr : ∀ p, p < 179 → ¬ Rq p → M'.r p = M.r p) (h : LayM M) : LayM M' := by
  obtain ⟨h1, h2, h3, h4, h5, h6, h7, h8, h9, h10⟩ := h
  refine ⟨?_, fun p a b => ?_, ?_, ?_, ?_, ?_, ?_, ?_, fun p a b => ?_, ?_⟩
  · rw [(hk 164 (by omega)).1, hr 164 (by omega) (by unfold Rq; omega)]; exact h1
  · rw [(hk p (by omega)).1, (hk p (by omega)).2]; exact h2 p a b
  · rw [(hk 169 (by omega)).1, (hk 169 (by omega)).2]; exact h3
  · rw [(hk 170 (by omega)).1, (hk 170 (by omega)).2]; exact h4
  · rw [(hk 171 (by omega)).1, (hk 171 (by omega)).2]; exact h5
  · rw [(hk 172 (by omega)).1, (hk 172 (by omega)).2]; exact h6
  · rw [(hk 173 (by omega)).1, (hk 173 (by omega)).2]; exact h7
  · rw [(hk 174 (by omega)).1, (hk 174 (by omega)).2]; exact h8
  · rw [(hk p (by omega)).1, (hk p (by omega)).2]; exact h9 p a b
  · rw [(hk 178 (by omega)).1, (hk 178 (by omega)).2]; exact h10
theorem CR.cg {B : Nat} (e : ∀ p, B ≤ p → p < B + 35 → M'.g p = M.g p) (g : A 0 ≤ 8) (h : CR M B A) : CR M' B A := by
  have e : ∀ p, B ≤ p → p < B + 35 → gI M' p = gI M p := fun p h1 h2 => gI_of (e p h1 h2)
  obtain ⟨h1, h2, h3, h4, h5⟩ := h
  refine ⟨fun j a b => ?_, ?_, ?_, fun w hw => ?_, fun k hk => ?_⟩
  · rw [e _ (by omega) (by omega)]; exact h1 j a b
  · rw [e _ (by omega) (by omega)]; exact h2
  · rw [e _ (by omega) (by omega)]; exact h3
  · rw [e _ (by omega) (by omega), e _ (by omega) (by omega), e _ (by omega) (by omega)]; exact h4 w hw
  · exact SRm.cg (h5 k hk) (e _ (by omega) (by omega)) (e _ (by omega) (by omega)) (e _ (by omega) (by omega)) fun _ _ _ => rfl
/-- the ints that sheets, shelves and acts touch -/
def Sx (p : Nat) : Prop := p = 161 ∨ p = 163 ∨ p = 164 ∨ (172 ≤ p ∧ p ≤ 178) ∨ 179 ≤ p
theorem Inv.nx {M2 : Mm} (hi : Inv M) (x : Nx Sx Rq (fun _ => True) M M2) (e4 : gI M2 164 4 = gI M 164 4) (e6 : gI M2 164 6 = gI M 164 6) (e11 : gI M2 164 11 = gI M 164 11) (s : SI M2) (f : FI M2) (n : NI M2) : Inv M2 := by
  obtain ⟨⟨A, b1, b2, b3, ha, g, c⟩, k1, k2, k3, k4, k5, k6⟩ := hi
  obtain ⟨x1, x2, x3, x4, -⟩ := x
  have hk : ∀ p, p < 179 → M2.k p = M.k p ∧ M2.len p = M.len p := fun p hp => x2 p (by omega)
  have hr : ∀ p, p < 179 → ¬ Rq p → M2.r p = M.r p := fun p hp => x4 p (by omega)
  have hg : ∀ p, p < 179 → ¬ Sx p → M2.g p = M.g p := fun p hp => x3 p (by omega)
  have e : ∀ p, p < 179 → ¬ Sx p → gI M2 p = gI M p := fun p hp hq => gI_of (hg p hp hq)
  refine ⟨⟨A, b1.nx hk hr, b2.nx hk hr, by omega, (hg 165 (by omega) (by unfold Sx; omega)).trans ha, g, c.cg (fun p a b => hg p (by omega) (by unfold Sx; omega)) g.1.2⟩, ?_, ?_, ?_, s, f, n⟩
  · unfold KI at k1 ⊢
    rw [e 0 (by omega) (by unfold Sx; omega), e4, e 166 (by omega) (by unfold Sx; omega)]
    exact ⟨k1.1, k1.2.imp id fun q => ⟨q.1, q.2.1, q.2.2.cg (fun p a b => hg p (by omega) (by unfold Sx; omega)) (by have := q.2.1.1; omega)⟩⟩
  · unfold TI at k2 ⊢
    rw [e 109 (by omega) (by unfold Sx; omega), e6, e 110 (by omega) (by unfold Sx; omega), e 169 (by omega) (by unfold Sx; omega)]
    exact k2
  · unfold RI at k3 ⊢
    rw [e 0 (by omega) (by unfold Sx; omega), e11, e 170 (by omega) (by unfold Sx; omega)]
    refine ⟨k3.1, k3.2.1, fun i hi j a b => ?_⟩
    rw [e (150 + i) (by omega) (by unfold Sx; omega)]
    exact k3.2.2 i hi j a b
/-- a sheet that stays -/
theorem SO.nx {P Q L : Nat → Prop} (x : Nx P Q L M M') {o : Nat} {s n : Int} (hP : ¬ P o) (hQ : ¬ Q o) (h : SO M o s n) : SO M' o s n := by
  obtain ⟨⟨a1, a2⟩, a3, a4, a5, a6, a7, a8⟩ := h
  obtain ⟨x1, x2, x3, x4, -⟩ := x
  exact ⟨⟨a1, by omega⟩, (x2 o (by omega)).1.trans a3, by rw [gI_of (x3 o (by omega) hP)]; exact a4, by rw [x4 o (by omega) hQ]; exact a5, (x2 (o + 1) a2).1.trans a6, by rw [(x2 (o + 1) a2).2]; exact a7, a8⟩
end NX
