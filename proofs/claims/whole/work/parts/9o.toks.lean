section TOKS
variable {M X : Mm} {T : Int → Int} {L : Int}
/-- a token stands at j -/
def TkJ (T : Int → Int) (L : Int) (X : Mm) (j : Nat) : Prop := gI X 147 j < L ∧ Tke T L (gI X 147 j) (gI X 148 j) ∧ gI X 146 j = cls (T (gI X 147 j)) ∧ Skp T L (pe (gI X 148) j) (gI X 147 j)
/-- so many tokens stand, and up to p nothing else -/
def TkI (T : Int → Int) (L : Int) (X : Mm) (c : Nat) (p : Int) : Prop := gI X 109 6 = c ∧ ((c : Int) ≤ p ∧ p ≤ L) ∧ (∀ j : Nat, j < c → TkJ T L X j) ∧ (0 ≤ pe (gI X 148) c ∧ pe (gI X 148) c ≤ p) ∧ ∀ r, pe (gI X 148) c ≤ r → r < p → cls (T r) = 1
/-- all tokens stand: c, and the end -/
def TkF (T : Int → Int) (L : Int) (X : Mm) (c : Nat) : Prop := gI X 109 6 = c + 1 ∧ c ≤ 200 ∧ (∀ j : Nat, j < c → TkJ T L X j) ∧ (gI X 146 c = 0 ∧ gI X 147 c = L ∧ gI X 148 c = L) ∧ Skp T L (pe (gI X 148) c) L
theorem pe_eq {E E' : Int → Int} {c : Nat} (h : ∀ j : Nat, j < c → E' j = E j) : ∀ j : Nat, j ≤ c → pe E' j = pe E j
  | 0, _ => rfl
  | j + 1, hj => h j (by omega)
theorem TkJ.of {Y : Mm} {c j : Nat} (hj : j < c) (h6 : ∀ j : Nat, j < c → gI Y 146 j = gI X 146 j) (h7 : ∀ j : Nat, j < c → gI Y 147 j = gI X 147 j) (h8 : ∀ j : Nat, j < c → gI Y 148 j = gI X 148 j) (k : TkJ T L X j) : TkJ T L Y j := by
  unfold TkJ at k ⊢
  rw [h6 j hj, h7 j hj, h8 j hj, pe_eq h8 j (by omega)]
  exact k
theorem TkJ.sm {P : Nat → Prop} {Y : Mm} {j : Nat} (s : SmP P X Y) (hP : ∀ p, 146 ≤ p → p ≤ 148 → ¬ P p) (k : TkJ T L X j) : TkJ T L Y j := by
  unfold TkJ at k ⊢
  rw [s.at (hP 146 (by decide) (by decide)), s.at (hP 147 (by decide) (by decide)), s.at (hP 148 (by decide) (by decide))]
  exact k
theorem Tp.tk {Y : Mm} (s : SmP TkP X Y) (h1 : gI Y 109 1 = gI X 109 1) (t : Tp X T L) : Tp Y T L := by
  obtain ⟨a, b, c⟩ := t
  exact ⟨h1.trans a, b, fun i i0 i1 => by rw [s.at (p := 110) (by unfold TkP; omega)]; exact c i i0 i1⟩
theorem c_L7 : ∀ (N d : Nat) (X : Mm) (c : Nat) (p : Int), LayC X → Tp X T L → TkI T L X c p → p + d = L → d < N → ∃ Y c', fX8_part_L7 109 N (i2 p) X = some Y ∧ SmP TkP X Y ∧ (∀ j : Int, 0 ≤ j → j ≠ 6 → gI Y 109 j = gI X 109 j) ∧ TkF T L Y c'
  | 0, d, X, c, p, h, tp, k, hd, hN => absurd hN (by omega)
  | N + 1, d, X, c, p, h, tp, k, hd, hN => by
    have u : ∀ (v : Int32) (M : Mm), fX8_part_L7 109 (N + 1) v M = B1 (rdI M 109 11 1) fun x => if x ≤ v then (B1 (rdI M 109 11 1) fun x80 => B1 (rdI M 109 11 1) fun x84 => B1 (gk M 109 11) fun _ => B1 (fX8_addToken M 109 0 x80 x84) fun M87 => some M87) else B1 (rdN M 109 11 0) fun a => B1 (alI M a v) fun x22 => B1 (fX8_sortOf M x22) fun x23 => fX8_part_L30 (fun w M => if x23 = 1 then fX8_part_L7 109 N w M else B1 (gk M 109 11) fun _ => B1 (fX8_addToken M 109 x23 v w) fun M71 => fX8_part_L7 109 N w M71) 109 v x23 FL (v + 1) M := fun _ _ => rfl
    obtain ⟨k1, k2, k3, k4, k5⟩ := k
    have tl := tp.2.1
    have t1 : rdI X 109 11 1 = some (i2 L) := by rw [tp_rd h 1, ← tp.1]; rfl
    by_cases e : p = L
    · obtain ⟨Y, y1, y2, y3, y4, y5, y6, y7⟩ := c_addTok h k1 (by omega) (a := 0) (b := L) (e := L) (by decide) (by omega) (by omega)
      have h8 : ∀ j : Nat, j < c → gI Y 148 j = gI X 148 j := fun j hj => by rw [y7 j, if_neg (by omega)]
      refine ⟨Y, c, ?_, y2, y4, y3, by omega, fun j hj => (k3 j hj).of hj (fun j hj => by rw [y5 j, if_neg (by omega)]) (fun j hj => by rw [y6 j, if_neg (by omega)]) h8, ⟨by rw [y5 c, if_pos rfl], by rw [y6 c, if_pos rfl], by rw [y7 c, if_pos rfl]⟩, ?_⟩
      · rw [u, t1, B1_some, if_pos (show i2 L ≤ i2 p by rw [i2_le (by omega) (by omega) (by omega) (by omega)]; omega), B1_some, B1_some, tp_gk h, B1_some, L_0, y1, B1_some]
      · rw [pe_eq h8 c (Nat.le_refl _)]
        exact ⟨⟨k4.1, by omega, Int.le_refl _⟩, fun r r0 r1 => k5 r r0 (by omega), fun z => absurd z (by omega)⟩
    · have pl : p < L := by omega
      have al := tp_al h tp (i := p) (by omega) pl
      have bb := (tp.2.2 p (by omega) pl).2
      have so := c_sortOf X bb.1 bb.2
      have cv := cls_b (T p)
      have e1 : (i2 (cls (T p)) = 1) = (cls (T p) = 1) := i2_eq (b := 1) (by omega) (by omega) (by decide) (by decide)
      obtain ⟨e', f1, f2⟩ := c_L30 h tp (q := p) (by omega) pl (L - p - 1).toNat FL (p + 1) (by show _ < 4096; omega) (by omega) (by omega) (fun r r0 r1 => by rw [show r = p by omega]) fun _ => rfl
      have st : fX8_part_L7 109 (N + 1) (i2 p) X = if cls (T p) = 1 then fX8_part_L7 109 N (i2 e') X else B1 (fX8_addToken X 109 (i2 (cls (T p))) (i2 p) (i2 e')) fun M71 => fX8_part_L7 109 N (i2 e') M71 := by
        rw [u, t1, B1_some, if_neg (show ¬ i2 L ≤ i2 p by rw [i2_le (by omega) (by omega) (by omega) (by omega)]; omega), tp_r0 h, B1_some, al, B1_some, so, B1_some, show i2 p + 1 = i2 (p + 1) from i2_add p 1, f2]
        by_cases w : cls (T p) = 1
        · rw [if_pos w, if_pos (e1.mpr w)]
        · rw [if_neg w, if_neg (fun z => w (e1.mp z)), tp_gk h, B1_some]
      obtain ⟨⟨g1, g2⟩, g3, g4⟩ := f1
      by_cases w : cls (T p) = 1
      · have g5 := g4 (by omega)
        obtain ⟨Y, c', y1, y2, y3⟩ := c_L7 N (L - e').toNat X c e' h tp ⟨k1, by omega, k3, by omega, fun r r0 r1 => by
          by_cases q : r < p
          · exact k5 r r0 q
          · rw [g5.1 r (by omega) r1, w]⟩ (by omega) (by omega)
        exact ⟨Y, c', by rw [st, if_pos w, y1], y2, y3⟩
      · obtain ⟨Y, y1, y2, y3, y4, y5, y6, y7⟩ := c_addTok h k1 (by omega) (a := cls (T p)) (b := p) (e := e') (by omega) (by omega) (by omega)
        have h8 : ∀ j : Nat, j < c → gI Y 148 j = gI X 148 j := fun j hj => by rw [y7 j, if_neg (by omega)]
        have ec : gI Y 148 c = e' := by rw [y7 c, if_pos rfl]
        obtain ⟨Z, c', z1, z2, z4, z3⟩ := c_L7 N (L - e').toNat Y (c + 1) e' (h.sm y2) (tp.tk y2 (y4 1 (by decide) (by decide))) ⟨by rw [y3]; omega, by omega, fun j hj => by
          by_cases q : j = c
          · rw [q]
            unfold TkJ
            rw [y6 c, if_pos rfl, ec, y5 c, if_pos rfl, pe_eq h8 c (Nat.le_refl _)]
            exact ⟨pl, ⟨⟨g1, g2⟩, g3, g4⟩, rfl, ⟨k4.1, k4.2, by omega⟩, k5, fun _ => w⟩
          · exact (k3 j (by omega)).of (c := c) (by omega) (fun j hj => by rw [y5 j, if_neg (by omega)]) (fun j hj => by rw [y6 j, if_neg (by omega)]) h8, ⟨by show 0 ≤ gI Y 148 c; omega, by show gI Y 148 c ≤ e'; omega⟩, fun r r0 r1 => by
            have r0' : gI Y 148 c ≤ r := r0
            omega⟩ (by omega) (by omega)
        exact ⟨Z, c', by rw [st, if_neg w, y1, B1_some, z1], y2.tr z2, fun j a b => (z4 j a b).trans (y4 j a b), z3⟩
theorem c_part (h : LayC X) (tp : Tp X T L) : ∃ Y c, fX8_part X 109 = some Y ∧ SmP TkP X Y ∧ (∀ j : Int, 0 ≤ j → j ≠ 6 → gI Y 109 j = gI X 109 j) ∧ TkF T L Y c := by
  have w := g_wrI (M := X) (p := 109) (kd := 11) (j := 6) (v := 0) (tp_k h) (by decide)
  rw [show ((6 : Nat) : Int) = 6 from rfl] at w
  have s : SmP TkP X (X.row 109 (uA (gI X 109) 6 0)) := SmP.row X _ (Or.inl rfl)
  have f6 : gI (X.row 109 (uA (gI X 109) 6 0)) 109 6 = 0 := gI_u (by decide) (by decide) (by decide)
  have fo : ∀ j : Int, 0 ≤ j → j ≠ 6 → gI (X.row 109 (uA (gI X 109) 6 0)) 109 j = gI X 109 j := fun j j0 j1 => gI_u_ne j0 j1
  have h1 : LayC (X.row 109 (uA (gI X 109) 6 0)) := h.sm s
  generalize X.row 109 (uA (gI X 109) 6 0) = X1 at w s f6 fo h1
  have tl := tp.2.1
  obtain ⟨Y, c, y1, y2, y3, y4⟩ := c_L7 FL L.toNat X1 0 0 h1 (tp.tk s (fo 1 (by decide) (by decide))) ⟨f6, by omega, fun j hj => absurd hj (by omega), ⟨Int.le_refl _, Int.le_refl _⟩, fun r r0 r1 => by
    have r0' : (0 : Int) ≤ r := r0
    omega⟩ (by omega) (by show _ < 4096; omega)
  refine ⟨Y, c, ?_, s.tr y2, fun j a b => (y3 j a b).trans (fo j a b), y4⟩
  unfold fX8_part
  rw [L_0, w, B1_some, y1]
end TOKS
