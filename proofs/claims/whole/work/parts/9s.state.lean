section STATE
variable {X0 Y0 X Y : Mm} {T : Int → Int} {L z : Int} {c i : Nat} {f : Int} {A : Int → Int}
/-- the word of token i; its number -/
def wdt (X0 : Mm) (T : Int → Int) (i q : Nat) : Int := wdB T (gI X0 147 i) (gI X0 148 i) q
def nmt (X0 : Mm) (T : Int → Int) (i : Nat) : Int := nmv T (gI X0 147 i) (gI X0 148 i)
theorem wdt_01 (X0 : Mm) (T : Int → Int) (i q : Nat) : wdt X0 T i q = 0 ∨ wdt X0 T i q = 1 := wdB_01 _ _ _ _
theorem nmt_b (X0 : Mm) (T : Int → Int) (i : Nat) : -1 ≤ nmt X0 T i ∧ nmt X0 T i ≤ 99 := nmv_b _ _ _
theorem wdt_lt (k : TkF T L X0 c) (hi : i ≤ c) {q : Nat} (hq : q < 22) (w : wdt X0 T i q = 1) : i < c := by
  obtain ⟨⟨te, -⟩, so⟩ := tk_at k hi
  have wb := wL_b hq
  unfold wdt wdB at w
  split at w
  · next y =>
    rcases so with s | s
    · exact s.1
    · rcases te with t | t
      · omega
      · omega
  · omega
theorem nmt_lt (k : TkF T L X0 c) (hi : i ≤ c) (w : 0 ≤ nmt X0 T i) : i < c := by
  obtain ⟨⟨te, -⟩, so⟩ := tk_at k hi
  rcases so with s | s
  · exact s.1
  · unfold nmt at w
    rw [nmv_no te (by omega)] at w
    omega
theorem w_one : ∀ q, q < 22 → ∀ q', q' < 22 → wL q = wL q' → (∀ i, i < 6 → i < (wL q).toNat → wC q i = wC q' i) → q = q' := by decide +kernel
theorem wdt_one {q q' : Nat} (hq : q < 22) (hq' : q' < 22) (ne : q ≠ q') (w : wdt X0 T i q = 1) : wdt X0 T i q' = 0 := by
  rcases wdt_01 X0 T i q' with w' | w'
  · exact w'
  · exfalso
    unfold wdt wdB at w w'
    split at w
    · next y =>
      split at w'
      · next y' =>
        exact ne (w_one q hq q' hq' (by omega) fun j j6 jl => (y.2 j jl).symm.trans (y'.2 j (by omega)))
      · omega
    · omega
def CpP (p : Nat) : Prop := p = 109 ∨ (111 ≤ p ∧ p < 146)
/-- the component tells: token i is to be taken, and there is a fault or there is none -/
def CS (X0 X : Mm) (T : Int → Int) (L : Int) (c i : Nat) (f : Int) (A : Int → Int) : Prop := LayC X ∧ SmP CpP X0 X ∧ Tp X T L ∧ TkF T L X c ∧ (i ≤ c ∧ gI X 109 7 = i) ∧ ((f = 0 ∧ gI X 109 8 = -1 ∧ GA A ∧ CR X 111 A) ∨ (f = 1 ∧ gI X 109 8 = gI X0 147 i))
/-- the reference tells -/
def MS (X0 Y0 Y : Mm) (T : Int → Int) (L : Int) (z : Int) (i : Nat) (f : Int) (A : Int → Int) : Prop := LayM Y ∧ SmP MtP Y0 Y ∧ Mt Y T L ∧ (gI Y 164 7 = gI X0 147 i ∧ gI Y 164 8 = gI X0 148 i) ∧ gI Y 164 9 = f ∧ (∀ j : Int, 0 ≤ j → j ≠ 7 → j ≠ 8 → j ≠ 9 → gI Y 164 j = gI Y0 164 j) ∧ (f = 0 → Y.g 168 = rI (uA A 1 z))
theorem CS.e47 (s : CS X0 X T L c i f A) : gI X 147 = gI X0 147 := s.2.1.at (by unfold CpP; omega)
theorem CS.e48 (s : CS X0 X T L c i f A) : gI X 148 = gI X0 148 := s.2.1.at (by unfold CpP; omega)
theorem TkF.sm {P : Nat → Prop} (s : SmP P X Y) (hP : ∀ p, 146 ≤ p → p ≤ 148 → ¬ P p) (h6 : gI Y 109 6 = gI X 109 6) (k : TkF T L X c) : TkF T L Y c := by
  obtain ⟨k1, k2, k3, k4, k5⟩ := k
  refine ⟨h6.trans k1, k2, fun j hj => (k3 j hj).sm s hP, ?_, ?_⟩
  · rw [s.at (hP 146 (by decide) (by decide)), s.at (hP 147 (by decide) (by decide)), s.at (hP 148 (by decide) (by decide))]; exact k4
  · rw [s.at (hP 148 (by decide) (by decide))]; exact k5
theorem CS.name (s : CS X0 X T L c i f A) {q : Nat} (hq : q < 20) : fX8_isName X 109 q = some (i2 (wdt X0 T i q)) := by
  have k := c_isName s.1 s.2.2.1 s.2.2.2.1 s.2.2.2.2.1.1 s.2.2.2.2.1.2 hq
  rw [s.e47, s.e48] at k
  exact k
theorem CS.sign (s : CS X0 X T L c i f A) : fX8_isSign X 109 (i2 59) = some (i2 (wdt X0 T i 21)) ∧ fX8_isSign X 109 (i2 44) = some (i2 (wdt X0 T i 20)) := by
  have k := c_isSign s.1 s.2.2.1 s.2.2.2.1 s.2.2.2.2.1.1 s.2.2.2.2.1.2 (q := 21) (b := 59) (Or.inr ⟨rfl, rfl⟩)
  have k' := c_isSign s.1 s.2.2.1 s.2.2.2.1 s.2.2.2.2.1.1 s.2.2.2.2.1.2 (q := 20) (b := 44) (Or.inl ⟨rfl, rfl⟩)
  rw [s.e47, s.e48] at k k'
  exact ⟨k, k'⟩
theorem CS.num (s : CS X0 X T L c i f A) : fX8_numberHere X 109 = some (i2 (nmt X0 T i)) := by
  have k := c_numberHere s.1 s.2.2.1 s.2.2.2.1 s.2.2.2.2.1.1 s.2.2.2.2.1.2
  rw [s.e47, s.e48] at k
  exact k
theorem CS.gkk (s : CS X0 X T L c i f A) : gk X 109 11 = some () := tp_gk s.1
theorem CS.flt (s : CS X0 X T L c i 1 A) : ∃ v : Int, 0 ≤ v ∧ v < 2147483648 ∧ rdI X 109 11 8 = some (i2 v) := by
  obtain ⟨h, s2, tp, k, ⟨i1, i2'⟩, w | w⟩ := s
  · omega
  · have b := gI_b X0 147 i
    obtain ⟨⟨te, sk⟩, so⟩ := tk_at k i1
    rw [show gI X 147 = gI X0 147 from s2.at (by unfold CpP; omega)] at sk
    refine ⟨gI X0 147 i, by have := sk.1; omega, b.2, ?_⟩
    rw [tp_rd h 8, ← w.2]
    rfl
theorem CS.ok (s : CS X0 X T L c i 0 A) : rdI X 109 11 8 = some (i2 (-1)) ∧ GA A ∧ CR X 111 A := by
  obtain ⟨h, s2, tp, k, ⟨i1, i2'⟩, w | w⟩ := s
  · refine ⟨?_, w.2.2⟩
    rw [tp_rd h 8, ← w.2.1]
    rfl
  · omega
theorem c_takeF (s : CS X0 X T L c i 1 A) (v : Int32) : fX8_take X 109 v = some X := by
  obtain ⟨w, w0, w1, r⟩ := s.flt
  unfold fX8_take
  rw [r, B1_some, if_neg (by rw [L_0, i2_lt (by omega) (by omega) (by decide) (by decide)]; omega)]
theorem CS.put {j : Nat} {v : Int} (s : CS X0 X T L c i f A) (hj : j = 7 ∨ j = 8) (v0 : -2147483648 ≤ v) (v1 : v < 2147483648) : ∃ Z, wrI X 109 11 j (i2 v) = some Z ∧ LayC Z ∧ SmP CpP X0 Z ∧ Tp Z T L ∧ TkF T L Z c ∧ gI Z 109 j = v ∧ (∀ q : Int, 0 ≤ q → q ≠ j → gI Z 109 q = gI X 109 q) ∧ (CR X 111 A → A 0 ≤ 8 → CR Z 111 A) := by
  obtain ⟨h, s2, tp, k, -, -⟩ := s
  have w := g_wrI (M := X) (p := 109) (kd := 11) (j := j) (v := v) (tp_k h) (by omega)
  have s1 : SmP (fun q => q = 109) X (X.row 109 (uA (gI X 109) j v)) := SmP.row X _ rfl
  have s3 : SmP CpP X (X.row 109 (uA (gI X 109) j v)) := SmP.row X _ (Or.inl rfl)
  have fo : ∀ q : Int, 0 ≤ q → q ≠ j → gI (X.row 109 (uA (gI X 109) j v)) 109 q = gI X 109 q := fun q q0 ne => gI_u_ne q0 ne
  refine ⟨_, w, h.sm s1, s2.tr s3, ⟨(fo 1 (by decide) (by omega)).trans tp.1, tp.2.1, fun q q0 q1 => by rw [s1.at (by decide)]; exact tp.2.2 q q0 q1⟩, k.sm s1 (fun p a b => by omega) (fo 6 (by decide) (by omega)), gI_u (by omega) v0 v1, fo, fun cr g => cr.sm s1 (fun p a b => by omega) g⟩
theorem c_take0 (s : CS X0 X T L c i 0 A) : ∃ Z, fX8_take X 109 (i2 0) = some Z ∧ CS X0 Z T L c i 1 A := by
  obtain ⟨r, g, cr⟩ := s.ok
  obtain ⟨r7, a6, a7, a8⟩ := c_tok s.1 s.2.2.2.2.1.1 s.2.2.2.1.2.1 s.2.2.2.2.1.2
  have b := gI_b X0 147 i
  rw [s.e47] at a7
  obtain ⟨Z, z1, z2, z3, z4, z5, z6, z7, -⟩ := s.put (j := 8) (v := gI X0 147 i) (Or.inr rfl) b.1 b.2
  refine ⟨Z, ?_, z2, z3, z4, z5, ⟨s.2.2.2.2.1.1, (z7 7 (by decide) (by decide)).trans s.2.2.2.2.1.2⟩, Or.inr ⟨rfl, z6⟩⟩
  unfold fX8_take
  rw [r, B1_some, if_pos (by decide), if_pos (by decide), tp_r4 s.1, B1_some, r7, B1_some, a7, B1_some, z1, B1_some]
theorem c_take1 (s : CS X0 X T L c i 0 A) (hi : i < c) : ∃ Z, fX8_take X 109 (i2 1) = some Z ∧ CS X0 Z T L c (i + 1) 0 A := by
  obtain ⟨r, g, cr⟩ := s.ok
  obtain ⟨r7, a6, a7, a8⟩ := c_tok s.1 s.2.2.2.2.1.1 s.2.2.2.1.2.1 s.2.2.2.2.1.2
  have c9 := s.2.2.2.1.2.1
  have r6 : rdI X 109 11 6 = some (i2 (c + 1)) := by rw [tp_rd s.1 6, ← s.2.2.2.1.1]; rfl
  obtain ⟨Z, z1, z2, z3, z4, z5, z6, z7, z8⟩ := s.put (j := 7) (v := i + 1) (Or.inl rfl) (by omega) (by omega)
  refine ⟨Z, ?_, z2, z3, z4, z5, ⟨hi, z6⟩, Or.inl ⟨rfl, ?_, g, z8 cr g.1.2⟩⟩
  · unfold fX8_take
    rw [r, B1_some, if_pos (by decide), if_neg (by decide), r7, B1_some, r6, B1_some, L_1, i2_sub, if_neg (by rw [i2_le (by omega) (by omega) (by omega) (by omega)]; omega), B1_some, i2_add, z1, B1_some]
  · rcases s.2.2.2.2.2 with w | w
    · rw [z7 8 (by decide) (by decide)]; exact w.2.1
    · omega
theorem c_tnF (s : CS X0 X T L c i 1 A) (a b : Int32) : fX8_takeNumber X 109 a b = some (i2 (nmt X0 T i), X) := by
  unfold fX8_takeNumber
  rw [s.gkk, B1_some, s.num, B1_some, c_takeF s, c_takeF s]
  have k : ∀ w : Int32, fX11_isWithin X w a b = some 0 ∨ fX11_isWithin X w a b = some 1 := fun w => by
    unfold fX11_isWithin
    repeat' split
    all_goals simp
  rcases k (i2 (nmt X0 T i)) with k | k
  · rw [k, B1_some, B1_some]
    split <;> simp [B1_some]
  · rw [k, B1_some, B1_some]
    split <;> simp [B1_some]
theorem c_tn1 (s : CS X0 X T L c i 0 A) {a b : Int} (a0 : 0 ≤ a) (h1 : a ≤ nmt X0 T i) (h2 : nmt X0 T i ≤ b) (b9 : b ≤ 99) (hi : i < c) : ∃ Z, fX8_takeNumber X 109 (i2 a) (i2 b) = some (i2 (nmt X0 T i), Z) ∧ CS X0 Z T L c (i + 1) 0 A := by
  obtain ⟨Z, z1, z2⟩ := c_take1 s hi
  refine ⟨Z, ?_, z2⟩
  unfold fX8_takeNumber
  rw [s.gkk, B1_some, s.num, B1_some, if_neg (by rw [L_0, i2_lt (by omega) (by omega) (by decide) (by decide)]; omega), c_isWithin X (by omega) (by omega) (by omega) (by omega) (by omega) (by omega), tf_t ⟨h1, h2⟩, B1_some, if_neg (by decide), B1_some, L_1, z1, B1_some]
theorem c_tn0 (s : CS X0 X T L c i 0 A) {a b : Int} (a0 : -1 ≤ a) (a9 : a ≤ 99) (b0 : 0 ≤ b) (b9 : b ≤ 99) (h : nmt X0 T i < 0 ∨ ¬ (a ≤ nmt X0 T i ∧ nmt X0 T i ≤ b)) : ∃ Z, fX8_takeNumber X 109 (i2 a) (i2 b) = some (i2 (nmt X0 T i), Z) ∧ CS X0 Z T L c i 1 A := by
  obtain ⟨Z, z1, z2⟩ := c_take0 s
  have nb := nmt_b X0 T i
  refine ⟨Z, ?_, z2⟩
  unfold fX8_takeNumber
  rw [s.gkk, B1_some, s.num, B1_some]
  by_cases e : nmt X0 T i < 0
  · rw [if_pos (by rw [L_0, i2_lt (by omega) (by omega) (by decide) (by decide)]; omega), B1_some, L_0, z1, B1_some]
  · rw [if_neg (by rw [L_0, i2_lt (by omega) (by omega) (by decide) (by decide)]; omega), c_isWithin X (by omega) (by omega) (by omega) (by omega) (by omega) (by omega), tf_f (by omega), B1_some, if_pos (by decide), B1_some, L_0, z1, B1_some]
theorem CS.told {Z : Mm} {A' : Int → Int} (s : CS X0 X T L c i 0 A) (h : SmP (fun p => 111 ≤ p ∧ p < 146) X Z) (g : GA A') (cr : CR Z 111 A') : CS X0 Z T L c i 0 A' := by
  obtain ⟨h1, s2, tp, k, ⟨i1, i2'⟩, w | w⟩ := s
  · have e9 : gI Z 109 = gI X 109 := h.at (by omega)
    refine ⟨h1.sm h, s2.tr ⟨h.1, fun p hp => h.2 p fun q => hp (Or.inr q)⟩, ⟨by rw [e9]; exact tp.1, tp.2.1, fun q a b => by rw [h.at (by omega)]; exact tp.2.2 q a b⟩, k.sm h (fun p a b => by omega) (by rw [e9]), ⟨i1, by rw [e9]; exact i2'⟩, Or.inl ⟨rfl, by rw [e9]; exact w.2.1, g, cr⟩⟩
  · omega
end STATE
