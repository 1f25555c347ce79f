section NEXT
variable {M Y : Mm} {T : Int → Int} {L : Int}
/-- the tape of the reference -/
def Mt (Y : Mm) (T : Int → Int) (L : Int) : Prop := gI Y 164 6 = L ∧ (0 ≤ L ∧ L ≤ 200) ∧ ∀ i : Int, 0 ≤ i → i < L → gI Y 169 i = T i ∧ 0 ≤ T i ∧ T i ≤ 255
def MtP (p : Nat) : Prop := p = 164 ∨ p = 168
theorem Mt.sm {Z : Mm} (s : SmP MtP Y Z) (h : gI Z 164 6 = gI Y 164 6) (t : Mt Y T L) : Mt Z T L := by
  obtain ⟨a, b, c⟩ := t
  exact ⟨h.trans a, b, fun i i0 i1 => by rw [s.at (p := 169) (by unfold MtP; omega)]; exact c i i0 i1⟩
theorem ar_69 (hm : LayM Y) : Ar Y 169 200 := hm.2.2.1
theorem m_rd (hm : LayM Y) (j : Nat) : rdI Y 164 15 j = some (i2 (gI Y 164 j)) := m_rdI hm
theorem SmP.mt {Z : Mm} (s : SmP (fun q => q = 164) Y Z) : SmP MtP Y Z := ⟨s.1, fun p hp => s.2 p fun q => hp (Or.inl q)⟩
theorem m_isByte (hm : LayM Y) (t : Mt Y T L) {p a b : Int} (p0 : 0 ≤ p) (p1 : p ≤ 200) (a0 : 0 ≤ a) (a1 : a ≤ 255) (b0 : 0 ≤ b) (b1 : b ≤ 255) : fX12_isByte Y 164 (i2 p) (i2 a) (i2 b) = some (i2 (tf (p < L ∧ a ≤ T p ∧ T p ≤ b))) := by
  obtain ⟨t1, t2, t3⟩ := t
  have r6 : rdI Y 164 15 6 = some (i2 L) := by rw [m_rd hm 6, ← t1]; rfl
  unfold fX12_isByte
  rw [r6, B1_some]
  by_cases e : p < L
  · rw [if_neg (by rw [i2_le (by omega) (by omega) (by omega) (by omega)]; omega), m_r5 hm, B1_some, g_alI (ar_69 hm) p0 (by omega) (by omega), B1_some]
    obtain ⟨k1, k2⟩ := t3 p p0 e
    rw [k1, i2_j2 (by omega) (by omega), i2_j2 (by omega) (by omega), i2_j2 (by omega) (by omega), m_in Y (by omega) (by omega) (by omega) (by omega) (by omega) (by omega), B1_some]
    by_cases f : a ≤ T p ∧ T p ≤ b
    · rw [tf_t f, tf_t ⟨e, f⟩]
      rfl
    · rw [tf_f f, tf_f (fun z => f z.2)]
      rfl
  · rw [if_pos (by rw [i2_le (by omega) (by omega) (by omega) (by omega)]; omega), tf_f (fun z => e z.1)]
    rfl
/-- only the place and the end have changed -/
def Nf (Y Z : Mm) : Prop := SmP (fun q => q = 164) Y Z ∧ LayM Z ∧ ∀ i : Int, 0 ≤ i → i ≠ 7 → i ≠ 8 → gI Z 164 i = gI Y 164 i
theorem Nf.rf (hm : LayM Y) : Nf Y Y := ⟨SmP.rf _ _, hm, fun _ _ _ _ => rfl⟩
theorem Nf.tr {Z W : Mm} (h : Nf Y Z) (h' : Nf Z W) : Nf Y W := ⟨h.1.tr h'.1, h'.2.1, fun i a b c => (h'.2.2 i a b c).trans (h.2.2 i a b c)⟩
theorem Nf.mt {Z : Mm} (h : Nf Y Z) (t : Mt Y T L) : Mt Z T L := t.sm h.1.mt (h.2.2 6 (by decide) (by decide) (by decide))
theorem m_w8 (hm : LayM Y) {v : Int} (v0 : 0 ≤ v) (v1 : v ≤ 201) : ∃ Z, wrI Y 164 15 8 (i2 v) = some Z ∧ Nf Y Z ∧ gI Z 164 8 = v ∧ gI Z 164 7 = gI Y 164 7 := by
  obtain ⟨Z, a1, a2, a3, a4, a5⟩ := m_w hm (j := 8) (by decide) (v := v) (by omega) (by omega)
  exact ⟨Z, a1, ⟨a2, a3, fun i i0 _ i2 => a5 i i0 i2⟩, a4, a5 7 (by decide) (by decide)⟩
theorem m_w7 (hm : LayM Y) {v : Int} (v0 : 0 ≤ v) (v1 : v ≤ 201) : ∃ Z, wrI Y 164 15 7 (i2 v) = some Z ∧ Nf Y Z ∧ gI Z 164 7 = v ∧ gI Z 164 8 = gI Y 164 8 := by
  obtain ⟨Z, a1, a2, a3, a4, a5⟩ := m_w hm (j := 7) (by decide) (v := v) (by omega) (by omega)
  exact ⟨Z, a1, ⟨a2, a3, fun i i0 i1 _ => a5 i i0 i1⟩, a4, a5 8 (by decide) (by decide)⟩
/-- a word or a number is read on -/
theorem m_run (v1 v2 : Int32) (a b : Int) (a0 : 0 ≤ a) (a1 : a ≤ 255) (b0 : 0 ≤ b) (b1 : b ≤ 255) {e : Int} (e0 : 0 ≤ e) (e1 : e ≤ L) (u : ∀ (N : Nat) (Y : Mm), fX12_next_L70 164 v1 v2 (N + 1) Y = B1 (rdI Y 164 15 8) fun x => B1 (gk Y 164 15) fun _ => B1 (fX12_isByte Y 164 x (i2 a) (i2 b)) fun w => if w = 0 then (B1 (rdI Y 164 15 8) fun x => B1 (wrI Y 164 15 8 (x + 0)) fun M => some M) else B1 (rdI Y 164 15 8) fun x => B1 (wrI Y 164 15 8 (x + 1)) fun M => fX12_next_L70 164 v1 v2 N M) (he : e < L → ¬ (a ≤ T e ∧ T e ≤ b)) : ∀ (d N : Nat) (Y : Mm) (v : Int), LayM Y → Mt Y T L → gI Y 164 8 = v → 0 ≤ v → v + d = e → d < N → (∀ r, v ≤ r → r < e → a ≤ T r ∧ T r ≤ b) → ∃ Z, fX12_next_L70 164 v1 v2 N Y = some Z ∧ Nf Y Z ∧ gI Z 164 7 = gI Y 164 7 ∧ gI Z 164 8 = e := by
  intro d
  induction d with
  | zero =>
    intro N Y v hm t g8 v0 hv hN hr
    obtain ⟨N, rfl⟩ : ∃ k, N = k + 1 := ⟨N - 1, by omega⟩
    have tl := t.2.1
    have r8 : rdI Y 164 15 8 = some (i2 v) := by rw [m_rd hm 8, ← g8]; rfl
    have ib := m_isByte hm t (p := v) (a := a) (b := b) v0 (by omega) a0 a1 b0 b1
    rw [tf_f (fun z => by
      have ve : v = e := by omega
      rw [ve] at z
      exact he z.1 z.2)] at ib
    obtain ⟨Z, z1, z2, z3, z4⟩ := m_w8 hm (v := v) v0 (by omega)
    refine ⟨Z, ?_, z2, z4, by omega⟩
    rw [u, r8, B1_some, gk_m hm, B1_some, ib, B1_some, if_pos (by decide), B1_some, L_0, i2_add, Int.add_zero, z1, B1_some]
  | succ d ih =>
    intro N Y v hm t g8 v0 hv hN hr
    obtain ⟨N, rfl⟩ : ∃ k, N = k + 1 := ⟨N - 1, by omega⟩
    have tl := t.2.1
    have r8 : rdI Y 164 15 8 = some (i2 v) := by rw [m_rd hm 8, ← g8]; rfl
    have ib := m_isByte hm t (p := v) (a := a) (b := b) v0 (by omega) a0 a1 b0 b1
    rw [tf_t ⟨by omega, hr v (Int.le_refl _) (by omega)⟩] at ib
    obtain ⟨Z, z1, z2, z3, z4⟩ := m_w8 hm (v := v + 1) (by omega) (by omega)
    obtain ⟨W, w1, w2, w3, w4⟩ := ih N Z (v + 1) z2.2.1 (z2.mt t) z3 (by omega) (by omega) (by omega) fun r r0 r1 => hr r (by omega) r1
    refine ⟨W, ?_, z2.tr w2, w3.trans z4, w4⟩
    rw [u, r8, B1_some, gk_m hm, B1_some, ib, B1_some, if_neg (by decide), B1_some, L_1, i2_add, z1, B1_some, w1]
/-- where a token ends, or the text -/
def TkE (T : Int → Int) (L q e : Int) : Prop := (q = L ∧ e = L) ∨ (q < L ∧ Tke T L q e)
theorem m_ends (hm : LayM Y) (t : Mt Y T L) {q e : Int} (q0 : 0 ≤ q) (q1 : q ≤ L) (te : TkE T L q e) (nb : q < L → cls (T q) ≠ 1) (g7 : gI Y 164 7 = q) (g8 : gI Y 164 8 = q) : ∃ Z, fX12_next_L70 164 (i2 (tf (q < L ∧ 97 ≤ T q ∧ T q ≤ 122))) (i2 (tf (q < L ∧ 48 ≤ T q ∧ T q ≤ 57))) FL Y = some Z ∧ Nf Y Z ∧ gI Z 164 7 = q ∧ gI Z 164 8 = e := by
  have tl := t.2.1
  have r8 : rdI Y 164 15 8 = some (i2 q) := by rw [m_rd hm 8, ← g8]; rfl
  have r7 : rdI Y 164 15 7 = some (i2 q) := by rw [m_rd hm 7, ← g7]; rfl
  have r6 : rdI Y 164 15 6 = some (i2 L) := by rw [m_rd hm 6, ← t.1]; rfl
  have u0 : ∀ (N : Nat) (Y : Mm), fX12_next_L70 164 (i2 0) (i2 0) (N + 1) Y = B1 (rdI Y 164 15 8) fun x => B1 (rdI Y 164 15 7) fun a => B1 (rdI Y 164 15 6) fun b => if b ≤ a then (B1 (wrI Y 164 15 8 (x + 0)) fun M => some M) else B1 (wrI Y 164 15 8 (x + 1)) fun M => some M := fun _ _ => rfl
  by_cases e1 : q < L
  · obtain ⟨⟨t1, t2⟩, t3, t4⟩ : Tke T L q e := by
      rcases te with z | z
      · omega
      · exact z.2
    by_cases c2 : cls (T q) = 2
    · have c2' : 97 ≤ T q ∧ T q ≤ 122 := cls_2.mp c2
      rw [tf_t ⟨e1, c2'⟩, tf_f (fun z => by omega)]
      have t5 := t4 (by omega)
      obtain ⟨Z, z1, z2, z3, z4⟩ := m_run (T := T) (L := L) (i2 1) (i2 0) 97 122 (by decide) (by decide) (by decide) (by decide) (e := e) (by omega) t2 (fun _ _ => rfl) (fun z w => t5.2 z (by rw [c2]; exact cls_2.mpr w)) (e - q).toNat FL Y q hm t g8 q0 (by omega) (by show _ < 4096; omega) fun r r0 r1 => cls_2.mp (by rw [t5.1 r r0 r1, c2])
      exact ⟨Z, z1, z2, z3.trans g7, z4⟩
    · by_cases c3 : cls (T q) = 3
      · have c3' : 48 ≤ T q ∧ T q ≤ 57 := cls_3.mp c3
        rw [tf_f (fun z => by omega), tf_t ⟨e1, c3'⟩]
        have t5 := t4 (by omega)
        obtain ⟨Z, z1, z2, z3, z4⟩ := m_run (T := T) (L := L) (i2 0) (i2 1) 48 57 (by decide) (by decide) (by decide) (by decide) (e := e) (by omega) t2 (fun _ _ => rfl) (fun z w => t5.2 z (by rw [c3]; exact cls_3.mpr w)) (e - q).toNat FL Y q hm t g8 q0 (by omega) (by show _ < 4096; omega) fun r r0 r1 => cls_3.mp (by rw [t5.1 r r0 r1, c3])
        exact ⟨Z, z1, z2, z3.trans g7, z4⟩
      · have cb := cls_b (T q)
        have n1 := nb e1
        have c4 : cls (T q) = 4 := by omega
        have ee := t3 c4
        rw [tf_f (fun z => c2 (cls_2.mpr z.2)), tf_f (fun z => c3 (cls_3.mpr z.2))]
        obtain ⟨Z, z1, z2, z3, z4⟩ := m_w8 hm (v := q + 1) (by omega) (by omega)
        refine ⟨Z, ?_, z2, z4.trans g7, by omega⟩
        rw [show FL = 4095 + 1 from rfl, u0, r8, B1_some, r7, B1_some, r6, B1_some, if_neg (by rw [i2_le (by omega) (by omega) (by omega) (by omega)]; omega), L_1, i2_add, z1, B1_some]
  · have eL : e = L := by
      rcases te with z | z
      · exact z.2
      · omega
    rw [tf_f (fun z => e1 z.1), tf_f (fun z => e1 z.1)]
    obtain ⟨Z, z1, z2, z3, z4⟩ := m_w8 hm (v := q) q0 (by omega)
    refine ⟨Z, ?_, z2, z4.trans g7, by omega⟩
    rw [show FL = 4095 + 1 from rfl, u0, r8, B1_some, r7, B1_some, r6, B1_some, if_pos (by rw [i2_le (by omega) (by omega) (by omega) (by omega)]; omega), L_0, i2_add, Int.add_zero, z1, B1_some]
theorem m_L8 {p q e : Int} (sk : Skp T L p q) (te : TkE T L q e) : ∀ (d N : Nat) (Y : Mm) (v : Int), LayM Y → Mt Y T L → gI Y 164 7 = v → p ≤ v → v + d = q → d < N → ∃ Z, fX12_next_L8 164 N Y = some Z ∧ Nf Y Z ∧ gI Z 164 7 = q ∧ gI Z 164 8 = e := by
  obtain ⟨⟨s0, s1, s2⟩, s3, s4⟩ := sk
  have u : ∀ (N : Nat) (M : Mm), fX12_next_L8 164 (N + 1) M = B1 (rdI M 164 15 7) fun x10 => B1 (gk M 164 15) fun _ => B1 (fX12_isByte M 164 x10 (i2 32) (i2 32)) fun x17 => if x17 = 0 then (B1 (rdI M 164 15 7) fun x38 => B1 (wrI M 164 15 8 x38) fun M41 => B1 (rdI M41 164 15 7) fun x46 => B1 (gk M41 164 15) fun _ => B1 (fX12_isByte M41 164 x46 (i2 97) (i2 122)) fun x53 => B1 (rdI M41 164 15 7) fun x59 => B1 (gk M41 164 15) fun _ => B1 (fX12_isByte M41 164 x59 (i2 48) (i2 57)) fun x66 => fX12_next_L70 164 x53 x66 FL M41) else B1 (rdI M 164 15 7) fun x25 => B1 (wrI M 164 15 7 (x25 + 1)) fun M30 => fX12_next_L8 164 N M30 := fun _ _ => rfl
  intro d
  induction d with
  | zero =>
    intro N Y v hm t g7 pv hv hN
    obtain ⟨N, rfl⟩ : ∃ k, N = k + 1 := ⟨N - 1, by omega⟩
    have tl := t.2.1
    have vq : v = q := by omega
    have r7 : rdI Y 164 15 7 = some (i2 q) := by rw [m_rd hm 7, ← vq, ← g7]; rfl
    have ib := m_isByte hm t (p := q) (a := 32) (b := 32) (by omega) (by omega) (by decide) (by decide) (by decide) (by decide)
    rw [tf_f (fun z => s4 z.1 (cls_1.mpr (by omega)))] at ib
    obtain ⟨Z, z1, z2, z3, z4⟩ := m_w8 hm (v := q) (by omega) (by omega)
    have g7' : gI Z 164 7 = q := by rw [z4, g7, vq]
    have r7' : rdI Z 164 15 7 = some (i2 q) := by rw [m_rd z2.2.1 7, ← g7']; rfl
    have i1 := m_isByte z2.2.1 (z2.mt t) (p := q) (a := 97) (b := 122) (by omega) (by omega) (by decide) (by decide) (by decide) (by decide)
    have i2' := m_isByte z2.2.1 (z2.mt t) (p := q) (a := 48) (b := 57) (by omega) (by omega) (by decide) (by decide) (by decide) (by decide)
    obtain ⟨W, w1, w2, w3, w4⟩ := m_ends z2.2.1 (z2.mt t) (q := q) (e := e) (by omega) s2 te s4 g7' z3
    refine ⟨W, ?_, z2.tr w2, w3, w4⟩
    rw [u, r7, B1_some, gk_m hm, B1_some, ib, B1_some, if_pos (by decide), B1_some, z1, B1_some, r7', B1_some, gk_m z2.2.1, B1_some, i1, B1_some, B1_some, B1_some, i2', B1_some, w1]
  | succ d ih =>
    intro N Y v hm t g7 pv hv hN
    obtain ⟨N, rfl⟩ : ∃ k, N = k + 1 := ⟨N - 1, by omega⟩
    have tl := t.2.1
    have r7 : rdI Y 164 15 7 = some (i2 v) := by rw [m_rd hm 7, ← g7]; rfl
    have ib := m_isByte hm t (p := v) (a := 32) (b := 32) (by omega) (by omega) (by decide) (by decide) (by decide) (by decide)
    have b32 := cls_1.mp (s3 v pv (by omega))
    rw [tf_t ⟨by omega, by omega⟩] at ib
    obtain ⟨Z, z1, z2, z3, z4⟩ := m_w7 hm (v := v + 1) (by omega) (by omega)
    obtain ⟨W, w1, w2, w3, w4⟩ := ih N Z (v + 1) z2.2.1 (z2.mt t) z3 (by omega) (by omega) (by omega)
    refine ⟨W, ?_, z2.tr w2, w3, w4⟩
    rw [u, r7, B1_some, gk_m hm, B1_some, ib, B1_some, if_neg (by decide), B1_some, L_1, i2_add, z1, B1_some, w1]
theorem m_next (hm : LayM Y) (t : Mt Y T L) {p q e : Int} (g8 : gI Y 164 8 = p) (sk : Skp T L p q) (te : TkE T L q e) : ∃ Z, fX12_next Y 164 = some Z ∧ Nf Y Z ∧ gI Z 164 7 = q ∧ gI Z 164 8 = e := by
  have tl := t.2.1
  have s := sk.1
  have r8 : rdI Y 164 15 8 = some (i2 p) := by rw [m_rd hm 8, ← g8]; rfl
  obtain ⟨Z, z1, z2, z3, z4⟩ := m_w7 hm (v := p) (by omega) (by omega)
  obtain ⟨W, w1, w2, w3, w4⟩ := m_L8 sk te (q - p).toNat FL Z p z2.2.1 (z2.mt t) z3 (Int.le_refl _) (by omega) (by show _ < 4096; omega)
  refine ⟨W, ?_, z2.tr w2, w3, w4⟩
  unfold fX12_next
  rw [r8, B1_some, z1, B1_some, w1]
end NEXT
