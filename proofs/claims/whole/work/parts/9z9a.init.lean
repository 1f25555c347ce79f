section INITW
/-! WHAT STANDS WHEN BOTH OBJECTS ARE MADE: checked by computing (written by wip/gen/initgen.py) -/
def M00 : Mm := (0, fun _ => 0, fun _ => 0, fun _ _ => 0, fun _ _ => 0, fun _ _ => none)
def dS (M : Mm) (o : Nat) : Decidable (LayS M o) := inferInstanceAs (Decidable (M.k o = 10 ∧ M.r o 9 = some (o + 1) ∧ M.r o 10 = some (o + 2) ∧ M.k (o + 1) = 21 ∧ M.len (o + 1) = 2 ∧ M.k (o + 2) = 21 ∧ M.len (o + 2) = 2))
def dD (M : Mm) (B : Nat) : Decidable (LayD M B) := inferInstanceAs (Decidable ((M.k B = 3 ∧ M.r B 0 = some (B + 1) ∧ M.r B 1 = some (B + 2) ∧ M.r B 3 = some (B + 3) ∧ M.r B 4 = some (B + 4)) ∧ (M.k (B + 1) = 21 ∧ M.len (B + 1) = 8) ∧ (M.k (B + 2) = 23 ∧ M.len (B + 2) = 8) ∧ (M.k (B + 3) = 21 ∧ M.len (B + 3) = 2) ∧ (M.k (B + 4) = 24 ∧ M.len (B + 4) = 2) ∧ (∀ w : Nat, w < 2 → M.r (B + 4) w = some (B + 5 + 3 * w) ∧ (M.k (B + 5 + 3 * w) = 13 ∧ M.r (B + 5 + 3 * w) 1 = some ((B + 5 + 3 * w) + 1) ∧ M.r (B + 5 + 3 * w) 2 = some ((B + 5 + 3 * w) + 2) ∧ M.k ((B + 5 + 3 * w) + 1) = 21 ∧ M.len ((B + 5 + 3 * w) + 1) = 10 ∧ M.k ((B + 5 + 3 * w) + 2) = 21 ∧ M.len ((B + 5 + 3 * w) + 2) = 10)) ∧ (∀ i : Nat, i < 8 → M.r (B + 2) i = some (B + 11 + 3 * i) ∧ (M.k (B + 11 + 3 * i) = 10 ∧ M.r (B + 11 + 3 * i) 9 = some ((B + 11 + 3 * i) + 1) ∧ M.r (B + 11 + 3 * i) 10 = some ((B + 11 + 3 * i) + 2) ∧ M.k ((B + 11 + 3 * i) + 1) = 21 ∧ M.len ((B + 11 + 3 * i) + 1) = 2 ∧ M.k ((B + 11 + 3 * i) + 2) = 21 ∧ M.len ((B + 11 + 3 * i) + 2) = 2))))
abbrev iC0 (M : Mm) : Prop := (M.k 0 = 14 ∧ M.r 0 0 = some 1 ∧ M.r 0 1 = some 36 ∧ M.r 0 3 = some 71 ∧ M.r 0 4 = some 106 ∧ M.r 0 5 = some 109 ∧ M.r 0 6 = some 149 ∧ M.r 0 8 = some 160 ∧ M.r 0 9 = some 161 ∧ M.r 0 10 = some 162 ∧ M.r 0 11 = some 163)
abbrev iC1 (M : Mm) : Prop := (M.k 109 = 11 ∧ M.r 109 0 = some 110 ∧ M.r 109 2 = some 111 ∧ M.r 109 3 = some 146 ∧ M.r 109 4 = some 147 ∧ M.r 109 5 = some 148) ∧ (M.k 110 = 21 ∧ M.len 110 = 200)
abbrev iC2 (M : Mm) : Prop := (∀ i : Nat, i < 3 → M.k (146 + i) = 21 ∧ M.len (146 + i) = 201)
abbrev iC3 (M : Mm) : Prop := (M.k 149 = 26 ∧ M.len 149 = 10 ∧ ∀ i : Nat, i < 10 → M.r 149 i = some (150 + i)) ∧ (∀ i : Nat, i < 10 → M.k (150 + i) = 21 ∧ M.len (150 + i) = 3) ∧ (M.k 160 = 25 ∧ M.len 160 = 4) ∧ (M.k 161 = 21 ∧ M.len 161 = 4) ∧ (M.k 162 = 25 ∧ M.len 162 = 4) ∧ M.k 163 = 2
abbrev iR0 (M : Mm) : Prop := (M.k 164 = 15 ∧ M.r 164 0 = some 165 ∧ M.r 164 1 = some 166 ∧ M.r 164 2 = some 167 ∧ M.r 164 3 = some 168 ∧ M.r 164 5 = some 169 ∧ M.r 164 10 = some 170 ∧ M.r 164 12 = some 171 ∧ M.r 164 13 = some 172 ∧ M.r 164 14 = some 173 ∧ M.r 164 15 = some 174 ∧ M.r 164 16 = some 175 ∧ M.r 164 17 = some 176 ∧ M.r 164 18 = some 177 ∧ M.r 164 19 = some 178)
abbrev iR1 (M : Mm) : Prop := (∀ i : Nat, i < 4 → M.k (165 + i) = 21 ∧ M.len (165 + i) = 158)
abbrev iR2 (M : Mm) : Prop := (M.k 169 = 21 ∧ M.len 169 = 200) ∧ (M.k 170 = 21 ∧ M.len 170 = 30) ∧ (M.k 171 = 21 ∧ M.len 171 = 30) ∧ (M.k 172 = 21 ∧ M.len 172 = 4) ∧ (M.k 173 = 21 ∧ M.len 173 = 4) ∧ (M.k 174 = 22 ∧ M.len 174 = 160)
abbrev iR3 (M : Mm) : Prop := (∀ i : Nat, i < 3 → M.k (175 + i) = 21 ∧ M.len (175 + i) = 4)
abbrev iR4 (M : Mm) : Prop := (M.k 178 = 21 ∧ M.len 178 = 30)
abbrev iV1 (M : Mm) : Prop := (∀ j : Nat, j < 8 → M.g 2 j = (sRow 1).getD j 0 ∧ M.g 165 (4 + j) = (sRow 1).getD j 0)
abbrev iV2 (M : Mm) : Prop := (M.g 1 2 = 0 ∧ M.g 1 5 = 1 ∧ M.g 4 0 = -1 ∧ M.g 4 1 = -1 ∧ M.g 6 0 = 0 ∧ M.g 9 0 = 0)
abbrev iV3 (M : Mm) : Prop := (M.g 165 0 = 0 ∧ M.g 165 1 = 1 ∧ M.g 165 2 = -1 ∧ M.g 165 3 = -1 ∧ M.g 165 12 = 0 ∧ M.g 165 13 = 0)
abbrev iV4 (M : Mm) : Prop := (M.g 0 2 = 0 ∧ M.g 164 4 = 0 ∧ M.g 109 1 = 0 ∧ M.g 164 6 = 0 ∧ M.g 0 7 = 0 ∧ M.g 164 11 = 0 ∧ M.g 163 2 = 0 ∧ M.g 164 20 = 0 ∧ M.r 163 1 = some 0)
abbrev iV5 (M : Mm) : Prop := (∀ s : Nat, s < 4 → M.r 160 s = none ∧ M.g 172 s = -1 ∧ M.g 175 s = 2 ∧ M.r 162 s = none ∧ M.g 161 s = -1)
def chk (M : Mm) : Bool := (M.n == 179) && (@decide _ (dD M 1) && (@decide _ (dD M 36) && (@decide _ (dD M 71) && (@decide _ (dD M 111) && (@decide _ (dS M 106) && (decide (iC0 M) && (decide (iC1 M) && (decide (iC2 M) && (decide (iC3 M) && (decide (iR0 M) && (decide (iR1 M) && (decide (iR2 M) && (decide (iR3 M) && (decide (iR4 M) && (decide (iV1 M) && (decide (iV2 M) && (decide (iV3 M) && (decide (iV4 M) && (decide (iV5 M))))))))))))))))))))
def mB (o : Option Mm) (f : Mm → Bool) : Bool := match o with
  | some M => f M
  | none => false
def chk1 (M1 : Mm) : Bool := M1.n == 164 && mB (fX12_init (M1.nw 15 0) 164) chk
set_option maxRecDepth 1000000 in
theorem init_ok : mB (fX11_init (M00.nw 14 0) 0) chk1 = true := by decide +kernel
theorem mt2 {o : Option Mm} {f : Mm → Bool} (h : mB o f = true) : ∃ M, o = some M ∧ f M = true := by
  cases o with
  | none => cases h
  | some M => exact ⟨M, rfl, h⟩
theorem an2 {a b : Bool} (h : (a && b) = true) : a = true ∧ b = true := by
  cases a <;> cases b <;> simp_all
theorem init_ex : ∃ M1 M3, fX11_init (M00.nw 14 0) 0 = some M1 ∧ M1.n = 164 ∧ fX12_init (M1.nw 15 0) 164 = some M3 ∧ chk M3 = true := by
  obtain ⟨M1, h1, h2⟩ := mt2 (o := fX11_init (M00.nw 14 0) 0) (f := chk1) init_ok
  unfold chk1 at h2
  obtain ⟨h2, h3⟩ := an2 h2
  obtain ⟨M3, h3, h4⟩ := mt2 h3
  exact ⟨M1, M3, h1, by simpa using h2, h3, h4⟩
theorem chk_inv {M : Mm} (h : chk M = true) : Inv M := by
  unfold chk at h
  obtain ⟨n, h⟩ := an2 h
  obtain ⟨d1, h⟩ := an2 h
  obtain ⟨d2, h⟩ := an2 h
  obtain ⟨d3, h⟩ := an2 h
  obtain ⟨d4, h⟩ := an2 h
  obtain ⟨ds, h⟩ := an2 h
  obtain ⟨C0, h⟩ := an2 h
  obtain ⟨C1, h⟩ := an2 h
  obtain ⟨C2, h⟩ := an2 h
  obtain ⟨C3, h⟩ := an2 h
  obtain ⟨R0, h⟩ := an2 h
  obtain ⟨R1, h⟩ := an2 h
  obtain ⟨R2, h⟩ := an2 h
  obtain ⟨R3, h⟩ := an2 h
  obtain ⟨R4, h⟩ := an2 h
  obtain ⟨V1, h⟩ := an2 h
  obtain ⟨V2, h⟩ := an2 h
  obtain ⟨V3, h⟩ := an2 h
  obtain ⟨V4, h⟩ := an2 h
  have V5 := h
  replace n : M.n = 179 := by simpa using n
  replace d1 := @of_decide_eq_true _ (dD M 1) d1
  replace d2 := @of_decide_eq_true _ (dD M 36) d2
  replace d3 := @of_decide_eq_true _ (dD M 71) d3
  replace d4 := @of_decide_eq_true _ (dD M 111) d4
  replace ds := @of_decide_eq_true _ (dS M 106) ds
  replace C0 := @of_decide_eq_true _ _ C0
  replace C1 := @of_decide_eq_true _ _ C1
  replace C2 := @of_decide_eq_true _ _ C2
  replace C3 := @of_decide_eq_true _ _ C3
  replace R0 := @of_decide_eq_true _ _ R0
  replace R1 := @of_decide_eq_true _ _ R1
  replace R2 := @of_decide_eq_true _ _ R2
  replace R3 := @of_decide_eq_true _ _ R3
  replace R4 := @of_decide_eq_true _ _ R4
  replace V1 := @of_decide_eq_true _ _ V1
  replace V2 := @of_decide_eq_true _ _ V2
  replace V3 := @of_decide_eq_true _ _ V3
  replace V4 := @of_decide_eq_true _ _ V4
  replace V5 := @of_decide_eq_true _ _ V5
  have gv : ∀ (p j : Nat) (v : Int32), M.g p j = v → gI M p j = v.toInt := fun p j v h => by
    unfold gI
    rw [show ((j : Int)).toNat = j by omega, h]
  have z := fun (p j : Nat) (h : M.g p j = 0) => (gv p j 0 h : gI M p j = 0)
  have ng := fun (p j : Nat) (h : M.g p j = -1) => (gv p j (-1) h : gI M p j = -1)
  have lw : ∀ (p : Nat) (a j : Int), 0 ≤ j → j < 8 → 0 ≤ a → M.g p (a.toNat + j.toNat) = (sRow 1).getD j.toNat 0 → gI M p (a + j) = lw0 j := fun p a j j0 j8 a0 h => by
    unfold gI lw0
    rw [show (a + j).toNat = a.toNat + j.toNat by omega, h]
  obtain ⟨v20, v21, v22, v23, v24, v25⟩ := V2
  obtain ⟨v30, v31, v32, v33, v34, v35⟩ := V3
  obtain ⟨v40, v41, v42, v43, v44, v45, v46, v47, v48⟩ := V4
  have bg : BgR (gI M 165) 1 := ⟨z 165 0 v30, gv 165 1 1 v31, ng 165 2 v32, ng 165 3 v33, fun j j0 j8 => lw 165 4 j j0 j8 (by decide) (V1 j.toNat (by omega)).2, z 165 12 v34, z 165 13 v35⟩
  have ga := bg.ga (by decide) (by decide)
  have b := bg
  obtain ⟨b0, b1, b2, b3, b4, b5, b6⟩ := b
  refine ⟨⟨gI M 165, ⟨C0, d1, d2, d3, d4, ds, C1.1, C1.2, fun p a b => ?_, C3⟩, ⟨R0, fun p a b => ?_, R2.1, R2.2.1, R2.2.2.1, R2.2.2.2.1, R2.2.2.2.2.1, R2.2.2.2.2.2, fun p a b => ?_, R4⟩, by omega, ?_, ga, ?_⟩, ?_, ?_, ?_, ?_, ?_, ?_⟩
  · have q := C2 (p - 146) (by omega)
    rwa [show 146 + (p - 146) = p by omega] at q
  · have q := R1 (p - 165) (by omega)
    rwa [show 165 + (p - 165) = p by omega] at q
  · have q := R3 (p - 175) (by omega)
    rwa [show 175 + (p - 175) = p by omega] at q
  · funext j
    unfold rI gI
    rw [i2_self]
    rfl
  · refine ⟨fun j j0 j8 => ?_, ⟨?_, ?_⟩, ⟨?_, ?_⟩, fun w hw => ?_, fun k hk => ?_⟩
    · rw [b4 j j0 j8]
      have q := lw 2 0 j j0 j8 (by decide) (by rw [show (0 : Int).toNat + j.toNat = j.toNat by omega]; exact (V1 j.toNat (by omega)).1)
      rwa [Int.zero_add] at q
    · rw [b0]; exact z 1 2 v20
    · rw [b1]; exact gv 1 5 1 v21
    · rw [b2]; exact ng 4 0 v22
    · rw [b3]; exact ng 4 1 v23
    · have q : w = 0 ∨ w = 1 := by omega
      rcases q with rfl | rfl
      · refine ⟨?_, fun i i0 i1 => ?_⟩
        · show gI M 6 0 = gI M 165 12
          rw [b5]; exact z 6 0 v24
        · exfalso
          rw [show (12 : Int) + ((0 : Nat) : Int) = 12 from rfl, b5] at i1
          omega
      · refine ⟨?_, fun i i0 i1 => ?_⟩
        · show gI M 9 0 = gI M 165 13
          rw [b6]; exact z 9 0 v25
        · exfalso
          rw [show (12 : Int) + ((1 : Nat) : Int) = 13 from rfl, b6] at i1
          omega
    · rw [b0] at hk
      omega
  · exact ⟨(z 0 2 v40).trans (z 164 4 v41).symm, Or.inl (z 0 2 v40)⟩
  · exact ⟨(z 109 1 v42).trans (z 164 6 v43).symm, by rw [show gI M 109 1 = 0 from z 109 1 v42]; decide, fun i i0 i1 => by rw [show gI M 109 1 = 0 from z 109 1 v42] at i1; omega⟩
  · exact ⟨(z 0 7 v44).trans (z 164 11 v45).symm, by rw [show gI M 0 7 = 0 from z 0 7 v44]; decide, fun i i0 => by rw [show gI M 0 7 = 0 from z 0 7 v44] at i0; omega⟩
  · intro s hs
    exact Or.inl ⟨(V5 s hs).1, ng 172 s (V5 s hs).2.1⟩
  · intro s hs
    exact Or.inr (Or.inr ⟨gv 175 s 2 (V5 s hs).2.2.1, (V5 s hs).2.2.2.1, ng 161 s (V5 s hs).2.2.2.2⟩)
  · exact ⟨by rw [show gI M 163 2 = 0 from z 163 2 v46]; decide, (z 164 20 v47).trans (z 163 2 v46).symm, Or.inl ⟨v48, z 163 2 v46⟩⟩
end INITW
