section ACT3
variable {M X : Mm}
theorem act_hz {n a : Int} (n0 : 0 ≤ n) (n8 : n < 8) (a0 : 0 ≤ a) (a9 : a ≤ 9) : ((i2 a - i2 n = i2 0) = True ∧ (i2 a = i2 n) = True) ∨ ((i2 a - i2 n = i2 0) = False ∧ (i2 a = i2 n) = False ∧ nzI (i2 a - i2 n) = some ()) := by
  have h1 : (i2 a - i2 n = i2 0) = (a - n = 0) := by rw [i2_sub, i2_eq (by omega) (by omega) (by decide) (by decide)]
  have h2 : (i2 a = i2 n) = (a = n) := i2_eq (by omega) (by omega) (by omega) (by omega)
  rw [h1, h2]
  by_cases e : a = n
  · exact Or.inl ⟨eq_true (by omega), eq_true e⟩
  · refine Or.inr ⟨eq_false (by omega), eq_false e, if_neg ?_⟩
    rw [L_0, h1]
    omega
/-- one act, on both sides -/
def ActB (M : Mm) (th kd : Nat) (k n a : Int) (t : Int) (x : Int32) : Prop := ∃ (r : Int32) (bl : List Int) (p : Int), bl.length ≤ 15 ∧ (∀ X, CA M X th kd n a [] 0 → ∃ Y, cSw (some th) X (i2 t) x = some (r, Y) ∧ CA M Y th kd n a bl p) ∧ ∀ N W, RA N W k n a [] 0 → ∃ Z, mSw 164 W (i2 t) x = some (r, Z) ∧ RA N Z k n a bl p
theorem actb_0 {th : Nat} {n a t : Int} (n0 : 0 ≤ n) (n8 : n < 8) (a0 : 0 ≤ a) (a9 : a ≤ 9) (t0 : 0 ≤ t) (t3 : t ≤ 3) (x : Int32) : ActB M th 7 0 n a t x := by
  have tt : t = 0 ∨ t = 1 ∨ t = 2 ∨ t = 3 := by omega
  rcases tt with rfl | rfl | rfl | rfl
  · exact ⟨_, _, _, by decide, fun X s => csw_0_0 s x, fun N W s => msw_0_0 s x⟩
  · exact ⟨_, _, _, by decide, fun X s => csw_0_1 s x, fun N W s => msw_0_1 s x⟩
  · rcases act_hz n0 n8 a0 a9 with ⟨h1, h2⟩ | ⟨h1, h2, h3⟩
    · exact ⟨_, _, _, by decide, fun X s => csw_0_2_p s h1 x, fun N W s => msw_0_2_p s h2 x⟩
    · exact ⟨_, _, _, by decide, fun X s => csw_0_2_q s h1 x, fun N W s => msw_0_2_q s h2 h3 x⟩
  · exact ⟨_, _, _, by decide, fun X s => csw_0_3 s x, fun N W s => msw_0_3 s x⟩
theorem actb_1 {th : Nat} {n a t : Int} (n0 : 0 ≤ n) (n8 : n < 8) (a0 : 0 ≤ a) (a9 : a ≤ 9) (t0 : 0 ≤ t) (t3 : t ≤ 3) (x : Int32) : ActB M th 8 1 n a t x := by
  have tt : t = 0 ∨ t = 1 ∨ t = 2 ∨ t = 3 := by omega
  rcases tt with rfl | rfl | rfl | rfl
  · exact ⟨_, _, _, by decide, fun X s => csw_1_0 s x, fun N W s => msw_1_0 s x⟩
  · exact ⟨_, _, _, by decide, fun X s => csw_1_1 s x, fun N W s => msw_1_1 s x⟩
  · rcases act_hz n0 n8 a0 a9 with ⟨h1, h2⟩ | ⟨h1, h2, h3⟩
    · exact ⟨_, _, _, by decide, fun X s => csw_1_2_p s h1 x, fun N W s => msw_1_2_p s h2 x⟩
    · exact ⟨_, _, _, by decide, fun X s => csw_1_2_q s h1 x, fun N W s => msw_1_2_q s h2 h3 x⟩
  · exact ⟨_, _, _, by decide, fun X s => csw_1_3 s x, fun N W s => msw_1_3 s x⟩
theorem actb_2 {th : Nat} {n a t : Int} (n0 : 0 ≤ n) (n8 : n < 8) (a0 : 0 ≤ a) (a9 : a ≤ 9) (t0 : 0 ≤ t) (t3 : t ≤ 3) (x : Int32) : ActB M th 12 2 n a t x := by
  have tt : t = 0 ∨ t = 1 ∨ t = 2 ∨ t = 3 := by omega
  rcases tt with rfl | rfl | rfl | rfl
  · exact ⟨_, _, _, by decide, fun X s => csw_2_0 s x, fun N W s => msw_2_0 s x⟩
  · exact ⟨_, _, _, by decide, fun X s => csw_2_1 s x, fun N W s => msw_2_1 s x⟩
  · rcases act_hz n0 n8 a0 a9 with ⟨h1, h2⟩ | ⟨h1, h2, h3⟩
    · exact ⟨_, _, _, by decide, fun X s => csw_2_2_p s h1 x, fun N W s => msw_2_2_p s h2 x⟩
    · exact ⟨_, _, _, by decide, fun X s => csw_2_2_q s h1 x, fun N W s => msw_2_2_q s h2 h3 x⟩
  · rcases act_hz n0 n8 a0 a9 with ⟨h1, h2⟩ | ⟨h1, h2, h3⟩
    · exact ⟨_, _, _, by decide, fun X s => csw_2_3_p s h1 x, fun N W s => msw_2_3_p s h2 x⟩
    · exact ⟨_, _, _, by decide, fun X s => csw_2_3_q s h1 x, fun N W s => msw_2_3_q s h2 h3 x⟩
theorem actb_3 {th : Nat} {n a t : Int} (n0 : 0 ≤ n) (n8 : n < 8) (a0 : 0 ≤ a) (a9 : a ≤ 9) (t0 : 0 ≤ t) (t3 : t ≤ 3) (x : Int32) : ActB M th 5 3 n a t x := by
  have tt : t = 0 ∨ t = 1 ∨ t = 2 ∨ t = 3 := by omega
  rcases tt with rfl | rfl | rfl | rfl
  · exact ⟨_, _, _, by decide, fun X s => csw_3_0 s x, fun N W s => msw_3_0 s x⟩
  · exact ⟨_, _, _, by decide, fun X s => csw_3_1 s x, fun N W s => msw_3_1 s x⟩
  · rcases act_hz n0 n8 a0 a9 with ⟨h1, h2⟩ | ⟨h1, h2, h3⟩
    · exact ⟨_, _, _, by decide, fun X s => csw_3_2_p s h1 x, fun N W s => msw_3_2_p s h2 x⟩
    · exact ⟨_, _, _, by decide, fun X s => csw_3_2_q s h1 x, fun N W s => msw_3_2_q s h2 h3 x⟩
  · exact ⟨_, _, _, by decide, fun X s => csw_3_3 s x, fun N W s => msw_3_3 s x⟩
theorem actb_4 {th : Nat} {n a t : Int} (n0 : 0 ≤ n) (n8 : n < 8) (a0 : 0 ≤ a) (a9 : a ≤ 9) (t0 : 0 ≤ t) (t3 : t ≤ 3) (x : Int32) : ActB M th 4 4 n a t x := by
  have tt : t = 0 ∨ t = 1 ∨ t = 2 ∨ t = 3 := by omega
  rcases tt with rfl | rfl | rfl | rfl
  · exact ⟨_, _, _, by decide, fun X s => csw_4_0 s x, fun N W s => msw_4_0 s x⟩
  · exact ⟨_, _, _, by decide, fun X s => csw_4_1 s x, fun N W s => msw_4_1 s x⟩
  · rcases act_hz n0 n8 a0 a9 with ⟨h1, h2⟩ | ⟨h1, h2, h3⟩
    · exact ⟨_, _, _, by decide, fun X s => csw_4_2_p s h1 x, fun N W s => msw_4_2_p s h2 x⟩
    · exact ⟨_, _, _, by decide, fun X s => csw_4_2_q s h1 x, fun N W s => msw_4_2_q s h2 h3 x⟩
  · rcases act_hz n0 n8 a0 a9 with ⟨h1, h2⟩ | ⟨h1, h2, h3⟩
    · exact ⟨_, _, _, by decide, fun X s => csw_4_3_p s h1 x, fun N W s => msw_4_3_p s h2 x⟩
    · exact ⟨_, _, _, by decide, fun X s => csw_4_3_q s h1 x, fun N W s => msw_4_3_q s h2 h3 x⟩
theorem actb_5 {th : Nat} {n a t : Int} (n0 : 0 ≤ n) (n8 : n < 8) (a0 : 0 ≤ a) (a9 : a ≤ 9) (t0 : 0 ≤ t) (t3 : t ≤ 3) (x : Int32) : ActB M th 6 5 n a t x := by
  have tt : t = 0 ∨ t = 1 ∨ t = 2 ∨ t = 3 := by omega
  rcases tt with rfl | rfl | rfl | rfl
  · exact ⟨_, _, _, by decide, fun X s => csw_5_0 s x, fun N W s => msw_5_0 s x⟩
  · exact ⟨_, _, _, by decide, fun X s => csw_5_1 s x, fun N W s => msw_5_1 s x⟩
  · rcases act_hz n0 n8 a0 a9 with ⟨h1, h2⟩ | ⟨h1, h2, h3⟩
    · exact ⟨_, _, _, by decide, fun X s => csw_5_2_p s h1 x, fun N W s => msw_5_2_p s h2 x⟩
    · exact ⟨_, _, _, by decide, fun X s => csw_5_2_q s h1 x, fun N W s => msw_5_2_q s h2 h3 x⟩
  · exact ⟨_, _, _, by decide, fun X s => csw_5_3 s x, fun N W s => msw_5_3 s x⟩
/-- the thing of a kind -/
theorem c_thing {k n a : Int} (hC : LayC X) (nx : Nx (LiP M) (LiP M) NoP M X) (n9 : 179 ≤ M.n) (li : LiI X []) (k0 : 0 ≤ k) (k5 : k ≤ 5) (n0 : 0 ≤ n) (n8 : n < 8) (a0 : 0 ≤ a) (a9 : a ≤ 9) {t : Int} (t0 : 0 ≤ t) (t3 : t ≤ 3) (x : Int32) : ∃ kd Y, fX11_thingOf X 0 (i2 k) (i2 n) (i2 a) = some (some X.n, Y) ∧ CA M Y X.n kd n a [] 0 ∧ ActB M X.n kd k n a t x := by
  have n0X : X.n ≠ 0 := by have := nx.1; omega
  have kk : k = 0 ∨ k = 1 ∨ k = 2 ∨ k = 3 ∨ k = 4 ∨ k = 5 := by omega
  have go : ∀ kd : Nat, kd ≠ 27 → (∃ Y, (B1 (wrZ (X.nw kd 0) X.n kd 3 (i2 0)) fun M6 => B1 (wrI M6 X.n kd 0 (i2 n)) fun M11 => B1 (wrI M11 X.n kd 1 (i2 a)) fun M16 => B1 (wrR M16 X.n kd 2 (some 163)) fun M21 => some M21) = some Y ∧ CA M Y X.n kd n a [] 0) ∧ rdN (X.nw kd 0) 0 14 11 = some 163 := fun kd hk => ⟨ca_init nx n9 li hk (by omega) (by omega) (by omega) (by omega), by rw [← t_ran hC]; unfold rdN; rw [nw_ko X kd 0 0 (Ne.symm n0X), nw_r X kd 0 0 (Ne.symm n0X)]⟩
  rcases kk with rfl | rfl | rfl | rfl | rfl | rfl
  · obtain ⟨⟨Y, y1, y2⟩, rn⟩ := go 7 (by decide)
    refine ⟨7, Y, ?_, y2, actb_0 n0 n8 a0 a9 t0 t3 x⟩
    have ini : fX4_init_k7 (X.nw 7 0) X.n (i2 n) (i2 a) 163 = some Y := y1
    have nw : nwO X 7 = some (X.nw 7 0) := rfl
    clear go y1 y2
    generalize X.nw 7 0 = W at rn ini nw
    unfold fX11_thingOf
    rw [if_neg (by decide : ¬ i2 0 = 1), if_neg (by decide : ¬ i2 0 = 2), if_neg (by decide : ¬ i2 0 = 3), if_neg (by decide : ¬ i2 0 = 4), if_neg (by decide : ¬ i2 0 = 5), nw, B1_some, rn, B1_some, ini, B1_some]
  · obtain ⟨⟨Y, y1, y2⟩, rn⟩ := go 8 (by decide)
    refine ⟨8, Y, ?_, y2, actb_1 n0 n8 a0 a9 t0 t3 x⟩
    have ini : fX5_init_k8 (X.nw 8 0) X.n (i2 n) (i2 a) 163 = some Y := by show B1 (fX4_init_k8 (X.nw 8 0) X.n (i2 n) (i2 a) 163) (fun M => some M) = some Y; rw [show fX4_init_k8 (X.nw 8 0) X.n (i2 n) (i2 a) 163 = some Y from y1]; rfl
    have nw : nwO X 8 = some (X.nw 8 0) := rfl
    clear go y1 y2
    generalize X.nw 8 0 = W at rn ini nw
    unfold fX11_thingOf
    rw [if_pos (by decide : i2 1 = 1), nw, B1_some, rn, B1_some, ini, B1_some]
  · obtain ⟨⟨Y, y1, y2⟩, rn⟩ := go 12 (by decide)
    refine ⟨12, Y, ?_, y2, actb_2 n0 n8 a0 a9 t0 t3 x⟩
    have ini : fX9_init_k12 (X.nw 12 0) X.n (i2 n) (i2 a) 163 = some Y := by show B1 (fX4_init_k12 (X.nw 12 0) X.n (i2 n) (i2 a) 163) (fun M => some M) = some Y; rw [show fX4_init_k12 (X.nw 12 0) X.n (i2 n) (i2 a) 163 = some Y from y1]; rfl
    have nw : nwO X 12 = some (X.nw 12 0) := rfl
    clear go y1 y2
    generalize X.nw 12 0 = W at rn ini nw
    unfold fX11_thingOf
    rw [if_neg (by decide : ¬ i2 2 = 1), if_pos (by decide : i2 2 = 2), nw, B1_some, rn, B1_some, ini, B1_some]
  · obtain ⟨⟨Y, y1, y2⟩, rn⟩ := go 5 (by decide)
    refine ⟨5, Y, ?_, y2, actb_3 n0 n8 a0 a9 t0 t3 x⟩
    have ini : fX2_init_k5 (X.nw 5 0) X.n (i2 n) (i2 a) 163 = some Y := by show B1 (B1 (fX4_init_k5 (X.nw 5 0) X.n (i2 n) (i2 a) 163) (fun M => some M)) (fun M => some M) = some Y; rw [show fX4_init_k5 (X.nw 5 0) X.n (i2 n) (i2 a) 163 = some Y from y1]; rfl
    have nw : nwO X 5 = some (X.nw 5 0) := rfl
    clear go y1 y2
    generalize X.nw 5 0 = W at rn ini nw
    unfold fX11_thingOf
    rw [if_neg (by decide : ¬ i2 3 = 1), if_neg (by decide : ¬ i2 3 = 2), if_pos (by decide : i2 3 = 3), nw, B1_some, rn, B1_some, ini, B1_some]
  · obtain ⟨⟨Y, y1, y2⟩, rn⟩ := go 4 (by decide)
    refine ⟨4, Y, ?_, y2, actb_4 n0 n8 a0 a9 t0 t3 x⟩
    have ini : fX1_init_k4 (X.nw 4 0) X.n (i2 n) (i2 a) 163 = some Y := by show B1 (B1 (fX4_init_k4 (X.nw 4 0) X.n (i2 n) (i2 a) 163) (fun M => some M)) (fun M => some M) = some Y; rw [show fX4_init_k4 (X.nw 4 0) X.n (i2 n) (i2 a) 163 = some Y from y1]; rfl
    have nw : nwO X 4 = some (X.nw 4 0) := rfl
    clear go y1 y2
    generalize X.nw 4 0 = W at rn ini nw
    unfold fX11_thingOf
    rw [if_neg (by decide : ¬ i2 4 = 1), if_neg (by decide : ¬ i2 4 = 2), if_neg (by decide : ¬ i2 4 = 3), if_pos (by decide : i2 4 = 4), nw, B1_some, rn, B1_some, ini, B1_some]
  · obtain ⟨⟨Y, y1, y2⟩, rn⟩ := go 6 (by decide)
    refine ⟨6, Y, ?_, y2, actb_5 n0 n8 a0 a9 t0 t3 x⟩
    have ini : fX3_init_k6 (X.nw 6 0) X.n (i2 n) (i2 a) 163 = some Y := by show B1 (fX4_init_k6 (X.nw 6 0) X.n (i2 n) (i2 a) 163) (fun M => some M) = some Y; rw [show fX4_init_k6 (X.nw 6 0) X.n (i2 n) (i2 a) 163 = some Y from y1]; rfl
    have nw : nwO X 6 = some (X.nw 6 0) := rfl
    clear go y1 y2
    generalize X.nw 6 0 = W at rn ini nw
    unfold fX11_thingOf
    rw [if_neg (by decide : ¬ i2 5 = 1), if_neg (by decide : ¬ i2 5 = 2), if_neg (by decide : ¬ i2 5 = 3), if_neg (by decide : ¬ i2 5 = 4), if_pos (by decide : i2 5 = 5), nw, B1_some, rn, B1_some, ini, B1_some]
end ACT3
