section LAWC
/-! THE LAW'S WALK: what each case stands on -/
variable {E : Ev} {p : Program} {l : Launch} {e : Env} {s : State} {m : MethodId} {below : List Frame} {meth : Method} {c : Code} {b L : Nat} {xs : Nat → Int32} {H : Heap} {locs : List Loc} {cells slots : Nat} {Q : State → Prop} {M : Mm} {ls : Array Slot} {pc : Nat} {rest : List Value}
def LwS (E : Ev) (p : Program) (s : State) (m : MethodId) (meth : Method) (c : Code) (b L : Nat) (xs : Nat → Int32) : Prop := Cx E p s m #[Value.ref b] meth c code RL 4 ∧ va_X b L xs s s.heap ∧ b < s.heap.size ∧ E.b = s.heap.size
/-- the law's locals -/
def LwL (E : Ev) (b : Nat) (i : Int) : List (Nat × Value) := [(0, .ref b), (1, .ref (E.b + 0)), (2, .ref (E.b + 164)), (3, .int (i2 i))]
theorem la_cell (Z : LwS E p s m meth c b L xs) (hW : Wx E s H locs M) (L9 : L ≤ 2560) {q : Nat} (hq : q < L) (hdg : decode code pc = .ok (.iaload, 1)) (kk : W p l e room_1 s m #[Value.ref b] below meth c H locs cells slots Q (F0 m (pc + 1) ls (.int (xs q) :: rest))) : W p l e room_1 s m #[Value.ref b] below meth c H locs cells slots Q (F0 m pc ls (.int (i2 q) :: .ref b :: rest)) := by
  obtain ⟨C, hX, hbl, hE⟩ := Z
  have k : (i2 (q : Int)).toNatClampNeg = q := by rw [i2_nat (by omega) (by omega)]; omega
  refine va_sld C.x C.b hX hbl (by show ¬ E.b ≤ b; omega) hW.2 (inB_vp (by rw [i2_inB (by omega) (by omega)]; simp; omega)) hdg ?_
  rw [k]
  exact kk
theorem la_arg (Z : LwS E p s m meth c b L xs) (hW : Wx E s H locs M) (L9 : L ≤ 2560) {i : Nat} (hl : lv_has ls 4 (LwL E b i)) {j : Nat} {jv : Int} (hij : i + j < L) (hj : Int32.ofInt jv = i2 j) (d0 : decode code pc = .ok (.aload_n 0, 1)) (d1 : decode code (pc + 1) = .ok (.iload_n 3, 1)) (d2 : decode code (pc + 2) = .ok (.iconst jv, 1)) (d3 : decode code (pc + 3) = .ok (.iadd, 1)) (d4 : decode code (pc + 4) = .ok (.iaload, 1)) (kk : W p l e room_1 s m #[Value.ref b] below meth c H locs cells slots Q (F0 m (pc + 5) ls (.int (xs (i + j)) :: rest))) : W p l e room_1 s m #[Value.ref b] below meth c H locs cells slots Q (F0 m pc ls rest) := by
  have C := Z.1
  refine lv_aload_n C.x C.b d0 rfl (lv_at hl 0 rfl) ?_
  refine lv_iload_n C.x C.b d1 rfl (lv_at hl 3 rfl) ?_
  refine lv_iconst (v := i2 j) C.x C.b d2 hj ?_
  refine lv_iadd C.x C.b d3 ?_
  rw [i2_add, show (i : Int) + (j : Int) = ((i + j : Nat) : Int) from rfl]
  exact la_cell Z hW L9 hij d4 kk
end LAWC
