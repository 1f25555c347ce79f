/-! the words of the classes' fields; no division by 0 -/
def nzI (y : Int32) : Option Unit := if y = 0 then none else some ()
def nzL (y : Int64) : Option Unit := if y = 0 then none else some ()
theorem x_nzI {y : Int32} {u : Unit} (h : nzI y = some u) : ¬ y = 0 := by
  unfold nzI at h
  split at h
  · cases h
  · assumption
theorem x_nzL {y : Int64} {u : Unit} (h : nzL y = some u) : ¬ y = 0 := by
  unfold nzL at h
  split at h
  · cases h
  · assumption
def mxL (x y : Int64) : Int64 := if y < x then x else y
def mnL (x y : Int64) : Int64 := if y < x then y else x
theorem gxX0 : ∀ w ∈ u_ws RX0 TX0 6, w ∈ gT := by decide +kernel
theorem gxX1 : ∀ w ∈ u_ws RX1 TX1 4, w ∈ gT := by decide +kernel
theorem gxX2 : ∀ w ∈ u_ws RX2 TX2 4, w ∈ gT := by decide +kernel
theorem gxX3 : ∀ w ∈ u_ws RX3 TX3 4, w ∈ gT := by decide +kernel
theorem gxX4 : ∀ w ∈ u_ws RX4 TX4 4, w ∈ gT := by decide +kernel
theorem gxX5 : ∀ w ∈ u_ws RX5 TX5 4, w ∈ gT := by decide +kernel
theorem gxX6 : ∀ w ∈ u_ws RX6 TX6 2, w ∈ gT := by decide +kernel
theorem gxX7 : ∀ w ∈ u_ws RX7 TX7 11, w ∈ gT := by decide +kernel
theorem gxX8 : ∀ w ∈ u_ws RX8 TX8 9, w ∈ gT := by decide +kernel
theorem gxX9 : ∀ w ∈ u_ws RX9 TX9 4, w ∈ gT := by decide +kernel
theorem gxX10 : ∀ w ∈ u_ws RX10 TX10 3, w ∈ gT := by decide +kernel
theorem gxX11 : ∀ w ∈ u_ws RX11 TX11 12, w ∈ gT := by decide +kernel
theorem gxX12 : ∀ w ∈ u_ws RX12 TX12 25, w ∈ gT := by decide +kernel
theorem gxJx4a65c : ∀ w ∈ u_ws RJx4a65c TJx4a65c 3, w ∈ gT := by decide +kernel
section CLS
variable {E : Ev} {p : Program} {l : Launch} {e : Env} {R : Room} {s : State} {m : MethodId} {args : Array Value} {below : List Frame} {meth : Method} {c : Code} {H : Heap} {locs : List Loc} {cells slots : Nat} {Q : State → Prop} {cc : ByteArray} {own : String} {nL : Nat} {M M1 : Mm} {pc : Nat} {ls : Array Slot} {rest : List Value} {idx : Nat}
theorem x_mmaxl (C : Cx E p s m args meth c cc own nL) {lv : List (Nat × Value)} (hl : lv_has ls nL lv) (h1 : Cond.methodLink own idx Lib.MathLoose.max_long.x ∈ gT) (h2 : Cond.static Lib.MathLoose.max_long.x ∈ gT) (h3 : Cond.initialized "java/lang/Math" ∈ gT) (h4 : Cond.code Lib.MathLoose.max_long.x Lib.MathLoose.max_long.code 4 (some .long) ∈ gT) (hf : 1 ≤ R.frames) (hw : (rest.map fun v => v.category).sum + 15 ≤ R.locals) (hcs : cells ≤ R.cells ∧ slots ≤ R.slots) {x y : Int64} (hdg : decode cc pc = .ok (.invokestatic idx, 3))
    (kk : W p l e R s m args below meth c H locs cells slots Q (F0 m (pc + 3) ls (.long (mxL x y) :: rest))) : W p l e R s m args below meth c H locs cells slots Q (F0 m pc ls (.long y :: .long x :: rest)) :=
  va_mmax_long C.x C.b (by rw [C.ml]; exact hl.1.symm) C.ow (C.ts _ h1) (C.ts _ h2) (C.ts _ h3) (C.ts _ h4) hf hw hcs.1 hcs.2 hdg kk
theorem x_mminl (C : Cx E p s m args meth c cc own nL) {lv : List (Nat × Value)} (hl : lv_has ls nL lv) (h1 : Cond.methodLink own idx Lib.MathLoose.min_long.x ∈ gT) (h2 : Cond.static Lib.MathLoose.min_long.x ∈ gT) (h3 : Cond.initialized "java/lang/Math" ∈ gT) (h4 : Cond.code Lib.MathLoose.min_long.x Lib.MathLoose.min_long.code 4 (some .long) ∈ gT) (hf : 1 ≤ R.frames) (hw : (rest.map fun v => v.category).sum + 15 ≤ R.locals) (hcs : cells ≤ R.cells ∧ slots ≤ R.slots) {x y : Int64} (hdg : decode cc pc = .ok (.invokestatic idx, 3))
    (kk : W p l e R s m args below meth c H locs cells slots Q (F0 m (pc + 3) ls (.long (mnL x y) :: rest))) : W p l e R s m args below meth c H locs cells slots Q (F0 m pc ls (.long y :: .long x :: rest)) :=
  va_mmin_long C.x C.b (by rw [C.ml]; exact hl.1.symm) C.ow (C.ts _ h1) (C.ts _ h2) (C.ts _ h3) (C.ts _ h4) hf hw hcs.1 hcs.2 hdg kk
end CLS
