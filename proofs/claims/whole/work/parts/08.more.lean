/-! MORE ROWS: statics, texts, Math, System.arraycopy, new cells, switches. -/
def sld (k : Nat) (i : Int32) : Option Int32 := if inB i (sRow k).length = true then some ((sRow k).getD i.toNatClampNeg 0) else none
def cpI (M : Mm) (a0 : Nat) (sp : Int32) (a : Nat) (dp n : Int32) : Option Mm := if M.k a0 = 21 ∧ M.k a = 21 ∧ 0 ≤ sp.toInt ∧ 0 ≤ dp.toInt ∧ 0 ≤ n.toInt ∧ sp.toNatClampNeg + n.toNatClampNeg ≤ M.len a0 ∧ dp.toNatClampNeg + n.toNatClampNeg ≤ M.len a then some (M.wg (va_up M.g a (va_cpy (M.g a0) (M.g a) sp.toNatClampNeg dp.toNatClampNeg n.toNatClampNeg))) else none
def cpS (M : Mm) (k : Nat) (sp : Int32) (a : Nat) (dp n : Int32) : Option Mm := if M.k a = 21 ∧ 0 ≤ sp.toInt ∧ 0 ≤ dp.toInt ∧ 0 ≤ n.toInt ∧ sp.toNatClampNeg + n.toNatClampNeg ≤ (sRow k).length ∧ dp.toNatClampNeg + n.toNatClampNeg ≤ M.len a then some (M.wg (va_up M.g a (va_cpy (fun j => (sRow k).getD j 0) (M.g a) sp.toNatClampNeg dp.toNatClampNeg n.toNatClampNeg))) else none
/-- a new array of at most B items -/
def nwA (M : Mm) (kd B : Nat) (n : Int32) : Option Mm := if 0 ≤ n.toInt ∧ n.toNatClampNeg ≤ B then some (M.nw kd n.toNatClampNeg) else none
section MORE
variable {E : Ev} {p : Program} {l : Launch} {e : Env} {R : Room} {s : State} {m : MethodId} {args : Array Value} {below : List Frame} {meth : Method} {c : Code} {H : Heap} {locs : List Loc} {cells slots : Nat} {Q : State → Prop} {cc : ByteArray} {own : String} {nL : Nat} {M M1 : Mm} {pc : Nat} {ls : Array Slot} {rest : List Value} {idx : Nat}
theorem nn0 {i : Int32} (h : 0 ≤ i.toInt) : ¬ i < 0 := fun q => by
  have := Int32.lt_iff_toInt_lt.mp q
  have e : (0 : Int32).toInt = 0 := rfl
  omega
theorem x_gets (C : Cx E p s m args meth c cc own nL) (hW : Wx E s H locs M) {k : Nat} (h1 : 1 ≤ k) (h4 : k ≤ 4) (hlk : Cond.fieldLink own idx "NylonLadder" (sNm k) "[I" ∈ gT) (hdg : decode cc pc = .ok (.getstatic idx, 3)) (kk : W p l e R s m args below meth c H locs cells slots Q (F0 m (pc + 3) ls (.ref (E.x k) :: rest))) : W p l e R s m args below meth c H locs cells slots Q (F0 m pc ls rest) :=
  va_gets C.x C.b (C.T.2.1 k h1 h4).1 hW.2 C.ow (C.ts _ hlk) (fun _ h => h) hdg kk
theorem x_getsN (C : Cx E p s m args meth c cc own nL) (hW : Wx E s H locs M) {k : Nat} {host : String} (h1 : 1 ≤ k) (h4 : k ≤ 4) (hlk : Cond.fieldLinkNest own idx "NylonLadder" (sNm k) "[I" host ∈ lw_tbl) (hdg : decode cc pc = .ok (.getstatic idx, 3)) (kk : W p l e R s m args below meth c H locs cells slots Q (F0 m (pc + 3) ls (.ref (E.x k) :: rest))) : W p l e R s m args below meth c H locs cells slots Q (F0 m pc ls rest) :=
  va_getsN C.x C.b (C.T.2.1 k h1 h4).1 hW.2 C.ow (va_Nw.use rfl (C.nt hlk rfl)) (fun _ h => h) hdg kk
theorem x_sald (C : Cx E p s m args meth c cc own nL) (hW : Wx E s H locs M) {k : Nat} {i v : Int32} (h1 : 1 ≤ k) (h4 : k ≤ 4) (hr : sld k i = some v) (hdg : decode cc pc = .ok (.iaload, 1)) (kk : W p l e R s m args below meth c H locs cells slots Q (F0 m (pc + 1) ls (.int v :: rest))) : W p l e R s m args below meth c H locs cells slots Q (F0 m pc ls (.int i :: .ref (E.x k) :: rest)) := by
  unfold sld at hr
  split at hr
  · rename_i h
    cases hr
    exact va_ti C.x C.b (C.T.2.1 k h1 h4).2 hW.2 (inB_vp h) rfl hdg kk
  · cases hr
theorem x_ldcS (C : Cx E p s m args meth c cc own nL) {q : Nat} {tx : String} (hq : (own, idx, tx, q) ∈ txr) (hdg : decode cc pc = .ok (.ldc idx, 2)) (kk : W p l e R s m args below meth c H locs cells slots Q (F0 m (pc + 2) ls (.ref (E.x (100 + q)) :: rest))) : W p l e R s m args below meth c H locs cells slots Q (F0 m pc ls rest) :=
  va_ldcS C.x C.b C.ow (C.T.1.2.1 _ hq) hdg kk
theorem x_ldcSW (C : Cx E p s m args meth c cc own nL) {q : Nat} {tx : String} (hq : (own, idx, tx, q) ∈ txr) (hdg : decode cc pc = .ok (.ldc_w idx, 3)) (kk : W p l e R s m args below meth c H locs cells slots Q (F0 m (pc + 3) ls (.ref (E.x (100 + q)) :: rest))) : W p l e R s m args below meth c H locs cells slots Q (F0 m pc ls rest) := by
  have hZ := C.T.1.2.1 _ hq
  intro T hT X
  obtain ⟨t, a1, b1⟩ := kk T hT X
  exact ⟨t, X.ldcStringW C.x C.ow (text := tx) (a := E.x (100 + q)) hZ.1 hZ.2 (g := F0 m pc ls rest) rfl (by rw [C.b]; exact hdg) t a1, b1⟩
theorem x_ldci (C : Cx E p s m args meth c cc own nL) {v : Int32} (hw : Cond.constant own idx v ∈ gT) (hdg : decode cc pc = .ok (.ldc idx, 2)) (kk : W p l e R s m args below meth c H locs cells slots Q (F0 m (pc + 2) ls (.int v :: rest))) : W p l e R s m args below meth c H locs cells slots Q (F0 m pc ls rest) := lv_ldc C.x C.b C.ow (C.ts _ hw) hdg kk
theorem x_ldciW (C : Cx E p s m args meth c cc own nL) {v : Int32} (hw : Cond.constant own idx v ∈ gT) (hdg : decode cc pc = .ok (.ldc_w idx, 3)) (kk : W p l e R s m args below meth c H locs cells slots Q (F0 m (pc + 3) ls (.int v :: rest))) : W p l e R s m args below meth c H locs cells slots Q (F0 m pc ls rest) := lv_ldcw C.x C.b C.ow (C.ts _ hw) hdg kk
theorem x_ldc2 (C : Cx E p s m args meth c cc own nL) {v : Int64} (hw : Cond.constantLong own idx v ∈ gT) (hdg : decode cc pc = .ok (.ldc2_w idx, 3)) (kk : W p l e R s m args below meth c H locs cells slots Q (F0 m (pc + 3) ls (.long v :: rest))) : W p l e R s m args below meth c H locs cells slots Q (F0 m pc ls rest) := lv_ldc2 C.x C.b C.ow (C.ts _ hw) hdg kk
theorem x_mmax (C : Cx E p s m args meth c cc own nL) {lv : List (Nat × Value)} (hl : lv_has ls nL lv) (h1 : Cond.methodLink own idx Lib.Math.max.name ∈ gT) (h2 : Cond.static Lib.Math.max.name ∈ gT) (h3 : Cond.initialized "java/lang/Math" ∈ gT) (h4 : Cond.code Lib.Math.max.name Lib.Math.max.code 2 (some .int) ∈ gT) (hf : 1 ≤ R.frames) (hw : (rest.map fun v => v.category).sum + 13 ≤ R.locals) (hcs : cells ≤ R.cells ∧ slots ≤ R.slots) {x y : Int32} (hdg : decode cc pc = .ok (.invokestatic idx, 3))
    (kk : W p l e R s m args below meth c H locs cells slots Q (F0 m (pc + 3) ls (.int (mxI x y) :: rest))) : W p l e R s m args below meth c H locs cells slots Q (F0 m pc ls (.int y :: .int x :: rest)) :=
  va_mmax C.x C.b (by rw [C.ml]; exact hl.1.symm) C.ow (C.ts _ h1) (C.ts _ h2) (C.ts _ h3) (C.ts _ h4) hf hw hcs.1 hcs.2 hdg kk
theorem x_mmin (C : Cx E p s m args meth c cc own nL) {lv : List (Nat × Value)} (hl : lv_has ls nL lv) (h1 : Cond.methodLink own idx Lib.Math.min.name ∈ gT) (h2 : Cond.static Lib.Math.min.name ∈ gT) (h3 : Cond.initialized "java/lang/Math" ∈ gT) (h4 : Cond.code Lib.Math.min.name Lib.Math.min.code 2 (some .int) ∈ gT) (hf : 1 ≤ R.frames) (hw : (rest.map fun v => v.category).sum + 13 ≤ R.locals) (hcs : cells ≤ R.cells ∧ slots ≤ R.slots) {x y : Int32} (hdg : decode cc pc = .ok (.invokestatic idx, 3))
    (kk : W p l e R s m args below meth c H locs cells slots Q (F0 m (pc + 3) ls (.int (mnI x y) :: rest))) : W p l e R s m args below meth c H locs cells slots Q (F0 m pc ls (.int y :: .int x :: rest)) :=
  va_mmin C.x C.b (by rw [C.ml]; exact hl.1.symm) C.ow (C.ts _ h1) (C.ts _ h2) (C.ts _ h3) (C.ts _ h4) hf hw hcs.1 hcs.2 hdg kk
theorem cellE_w {E : Ev} {M : Mm} {a b : Nat} {f : Nat → Int32} (h : b ≠ a) : cellE E (M.wg (va_up M.g a f)) b = cellE E M b := by
  have e : (M.wg (va_up M.g a f)).g b = M.g b := va_up_ne _ _ h
  simp only [cellE, oVals, fV, e]
  rfl
/-- System.arraycopy into an int array of ours, out of a row of ints -/
theorem x_cpy (C : Cx E p s m args meth c cc own nL) (hW : Wx E s H locs M) {lv : List (Nat × Value)} (hl : lv_has ls nL lv) (h1 : Cond.methodLink own idx arraycopyName ∈ gT) (h2 : Cond.native arraycopyName ∈ gT) (h3 : Cond.static arraycopyName ∈ gT) (h4 : Cond.initialized "java/lang/System" ∈ gT)
    {b0 n0 : Nat} {f : Nat → Int32} {scr : Cell} (hc0 : H[b0]? = some scr) (hs2 : s.isArrayOf scr .int) (hs3 : scr.vm ≠ .unknown) (hs4 : n0 ≤ scr.slots.size) (hs5 : ∀ j : Nat, j < n0 → scr.slots[j]? = some (.int (f j))) {a : Nat} {sp dp n : Int32} (ha : M.k a = 21) (g1 : 0 ≤ sp.toInt) (g2 : 0 ≤ dp.toInt) (g3 : 0 ≤ n.toInt) (g4 : sp.toNatClampNeg + n.toNatClampNeg ≤ n0) (g5 : dp.toNatClampNeg + n.toNatClampNeg ≤ M.len a)
    (hframes : 1 ≤ R.frames) (hlocals : (rest.map fun v => v.category).sum + (nativeFrameWords "java/lang/System" "arraycopy" 5 + 11) ≤ R.locals) (hdg : decode cc pc = .ok (.invokestatic idx, 3))
    (kk : ∀ (H1 : Heap) (locs1 : List Loc), Wx E s H1 locs1 (M.wg (va_up M.g a (va_cpy f (M.g a) sp.toNatClampNeg dp.toNatClampNeg n.toNatClampNeg))) → W p l e R s m args below meth c H1 locs1 cells slots Q (F0 m (pc + 3) ls rest)) : W p l e R s m args below meth c H locs cells slots Q (F0 m pc ls (.int n :: .int dp :: .ref (E.b + a) :: .int sp :: .ref b0 :: rest)) := by
  have nn : ∀ z : Int32, 0 ≤ z.toInt → z.toInt = (z.toNatClampNeg : Int) := by
    intro z hz
    show z.toInt = ((z.toInt.toNat : Nat) : Int)
    omega
  have hP := x_one hW (a := a) (by rw [ha]; decide)
  rw [cellE_i ha] at hP
  have hc1 : H[E.b + a]? = some (vp_cell (E.cy 21) (M.len a, .inl (M.g a))) := hP 0 _ rfl
  intro T hT X
  obtain ⟨hs6, k0, hk0, cm0, hkk0⟩ := hs2
  obtain ⟨-, k1, hk1, cm1, hkk1⟩ := (C.K.2 0 _ rfl).1 (M.len a) (fun j => .int (M.g a j))
  obtain ⟨vm', X', step⟩ := X.arraycopy C.x C.ow (C.ts _ h1) (C.ts _ h2) (C.ts _ h3) (C.ts _ h4) (src := b0) (dst := E.b + a) (cs := scr) (cd := vp_cell (E.cy 21) (M.len a, .inl (M.g a))) (srcPos := sp) (destPos := dp) (n := n) (by rw [hT]; exact hc0) (by rw [hT]; exact hc1)
    hs6 (fun _ h => by cases h) hs3 (fun h => by cases h) hk0 hk1 hkk0 hkk1 (by rfl) (nn0 g1) (nn0 g2) (nn0 g3)
    (by rw [nn sp g1, nn n g3]; omega)
    (by rw [nn dp g2, nn n g3]; show ¬ _ > ((arrV (E.cy 21) (M.len a) (fun j => .int (M.g a j))).slots.size : Int); rw [arrV_size]; omega)
    (fun vm₁ _ i hi => by
      have e : scr.slots.getD (sp.toNatClampNeg + i) .null = .int (f (sp.toNatClampNeg + i)) := by
        rw [Array.getD_eq_getD_getElem?, hs5 _ (by omega)]
        rfl
      refine ⟨?_, ?_⟩
      · rw [e]
        rfl
      · rw [e]
        exact trivial)
    (g := F0 m pc ls (.int n :: .int dp :: .ref (E.b + a) :: .int sp :: .ref b0 :: rest)) rfl (by rw [C.ml]; exact hl.1) (rest := rest) rfl (by rw [C.b]; exact hdg) hframes (by show 2 * 0 + _ + _ ≤ _; omega)
  have e1 : copied scr (vp_cell (E.cy 21) (M.len a, .inl (M.g a))) sp dp n = vp_cell (E.cy 21) (M.len a, .inl (va_cpy f (M.g a) sp.toNatClampNeg dp.toNatClampNeg n.toNatClampNeg)) := va_copiedX (fun z => .int z) scr (E.cy 21) f (M.g a) hs5 g4
  rw [e1] at X' step
  have hlt : E.b + a < H.size := (Array.getElem?_eq_some_iff.mp hc1).1
  generalize hnew : vp_cell (E.cy 21) (M.len a, .inl (va_cpy f (M.g a) sp.toNatClampNeg dp.toNatClampNeg n.toNatClampNeg)) = nc at X' step
  have hheap : ((T.setVm vm').setCell (E.b + a) nc).heap = H.setIfInBounds (E.b + a) nc := by rw [← hT]; rfl
  have oq : ∀ q : Nat, q ≠ E.b + a → (H.setIfInBounds (E.b + a) nc)[q]? = H[q]? := fun q hq => by simp [Array.getElem?_setIfInBounds, Ne.symm hq]
  have z : (H.setIfInBounds (E.b + a) nc).size = H.size := by simp
  obtain ⟨t, a1, b1⟩ := kk _ _ ⟨Wd.step (a := a) hW.1 rfl rfl (fun b hb => cellE_w hb) z oq (fun _ => by
      rw [cellE_i (M := M.wg (va_up M.g a (va_cpy f (M.g a) sp.toNatClampNeg dp.toNatClampNeg n.toNatClampNeg))) (a := a) ha]
      show (H.setIfInBounds (E.b + a) nc)[E.b + a]? = some (vp_cell _ _)
      rw [show (H.setIfInBounds (E.b + a) nc)[E.b + a]? = some nc by simp [Array.getElem?_setIfInBounds, hlt], ← hnew]
      show _ = some (vp_cell (E.cy 21) (M.len a, .inl (va_up M.g a _ a)))
      rw [va_up_self]), ⟨by rw [z]; exact hW.2.1, fun q q1 q2 => by
      rw [oq q (fun e => q2 (by rw [e]; exact Nat.le_add_right _ _))]
      exact hW.2.2.1 q q1 q2, fun q hq => by
      rcases List.mem_append.mp hq with h | h
      · exact hW.2.2.2 q h
      · obtain ⟨z, -, hz⟩ := List.mem_map.mp h
        rw [← hz]
        exact Nat.le_add_right _ _⟩⟩ _ hheap X'
  exact ⟨t, step t a1, b1⟩
theorem x_cpI (C : Cx E p s m args meth c cc own nL) (hW : Wx E s H locs M) {lv : List (Nat × Value)} (hl : lv_has ls nL lv) (h1 : Cond.methodLink own idx arraycopyName ∈ gT) (h2 : Cond.native arraycopyName ∈ gT) (h3 : Cond.static arraycopyName ∈ gT) (h4 : Cond.initialized "java/lang/System" ∈ gT) {a0 a : Nat} {sp dp n : Int32} (hr : cpI M a0 sp a dp n = some M1)
    (hframes : 1 ≤ R.frames) (hlocals : (rest.map fun v => v.category).sum + (nativeFrameWords "java/lang/System" "arraycopy" 5 + 11) ≤ R.locals) (hdg : decode cc pc = .ok (.invokestatic idx, 3))
    (kk : ∀ (H1 : Heap) (locs1 : List Loc), Wx E s H1 locs1 M1 → W p l e R s m args below meth c H1 locs1 cells slots Q (F0 m (pc + 3) ls rest)) : W p l e R s m args below meth c H locs cells slots Q (F0 m pc ls (.int n :: .int dp :: .ref (E.b + a) :: .int sp :: .ref (E.b + a0) :: rest)) := by
  unfold cpI at hr
  split at hr
  · rename_i h
    cases hr
    have hP := x_one hW (a := a0) (by rw [h.1]; decide)
    rw [cellE_i h.1] at hP
    have hc0 : H[E.b + a0]? = some (vp_cell (E.cy 21) (M.len a0, .inl (M.g a0))) := hP 0 _ rfl
    exact x_cpy C hW hl h1 h2 h3 h4 (n0 := M.len a0) (f := M.g a0) hc0 ((C.K.2 0 _ rfl).1 (M.len a0) (fun j => .int (M.g a0 j))) (fun q => by cases q) (by show _ ≤ (arrV _ _ _).slots.size; rw [arrV_size]; exact Nat.le_refl _) (fun j hj => by show (arrV _ _ _).slots[_]? = _; rw [arrV_read _ _ hj]) h.2.1 h.2.2.1 h.2.2.2.1 h.2.2.2.2.1 h.2.2.2.2.2.1 h.2.2.2.2.2.2 hframes hlocals hdg kk
  · cases hr
theorem x_cpS (C : Cx E p s m args meth c cc own nL) (hW : Wx E s H locs M) {lv : List (Nat × Value)} (hl : lv_has ls nL lv) (h1 : Cond.methodLink own idx arraycopyName ∈ gT) (h2 : Cond.native arraycopyName ∈ gT) (h3 : Cond.static arraycopyName ∈ gT) (h4 : Cond.initialized "java/lang/System" ∈ gT) {k a : Nat} {sp dp n : Int32} (hk1 : 1 ≤ k) (hk4 : k ≤ 4) (hr : cpS M k sp a dp n = some M1)
    (hframes : 1 ≤ R.frames) (hlocals : (rest.map fun v => v.category).sum + (nativeFrameWords "java/lang/System" "arraycopy" 5 + 11) ≤ R.locals) (hdg : decode cc pc = .ok (.invokestatic idx, 3))
    (kk : ∀ (H1 : Heap) (locs1 : List Loc), Wx E s H1 locs1 M1 → W p l e R s m args below meth c H1 locs1 cells slots Q (F0 m (pc + 3) ls rest)) : W p l e R s m args below meth c H locs cells slots Q (F0 m pc ls (.int n :: .int dp :: .ref (E.b + a) :: .int sp :: .ref (E.x k) :: rest)) := by
  unfold cpS at hr
  split at hr
  · rename_i h
    cases hr
    obtain ⟨scr, hs1, hs2, hs3, hs4, -, hs5, hs7⟩ := (C.T.2.1 k hk1 hk4).2
    have hc0 : H[E.x k]? = some scr := by rw [hW.2.2.1 _ (Array.getElem?_eq_some_iff.mp hs1).1 hs7]; exact hs1
    exact x_cpy C hW hl h1 h2 h3 h4 (n0 := (sRow k).length) (f := fun j => (sRow k).getD j 0) hc0 hs2 hs3 hs4 hs5 h.1 h.2.1 h.2.2.1 h.2.2.2.1 h.2.2.2.2.1 h.2.2.2.2.2 hframes hlocals hdg kk
  · cases hr
/-- a world with one cell more -/
theorem Wd.new {M : Mm} {H H1 : Heap} {kd len : Nat} (hW : Wd E M H) (hz : H1.size = H.size + 1) (oq : ∀ q : Nat, q < H.size → H1[q]? = H[q]?) (hc : kd ≠ 0 → va_at E.D vwCl (E.b + M.n, cellE E (M.nw kd len) M.n) H1) : Wd E (M.nw kd len) H1 := by
  refine ⟨by rw [hz, hW.1]; rfl, fun b hb => ?_⟩
  by_cases e : b = M.n
  · subst e
    have hk : (M.nw kd len).k M.n = kd := va_up_self _ _ _
    rw [hk] at hb
    exact ⟨Nat.lt_succ_self _, hc hb⟩
  · have hk : (M.nw kd len).k b = M.k b := va_up_ne _ _ e
    rw [hk] at hb
    have h1 := hW.2 b hb
    refine ⟨Nat.lt_succ_of_lt h1.1, ?_⟩
    have e1 : cellE E (M.nw kd len) b = cellE E M b := by
      have e2 : (M.nw kd len).len b = M.len b := va_up_ne _ _ e
      have e3 : (M.nw kd len).g b = M.g b := va_up_ne _ _ e
      have e4 : (M.nw kd len).l b = M.l b := va_up_ne _ _ e
      have e5 : (M.nw kd len).r b = M.r b := va_up_ne _ _ e
      simp only [cellE, oVals, fV, hk, e2, e3, e4, e5]
    rw [e1]
    exact h1.2.kept (oq _ (by have := hW.1; show E.b + b < H.size; omega))
theorem Wx.new (hb : E.b ≤ s.heap.size) {kd len : Nat} {H1 : Heap} (hW : Wx E s H locs M) (hz : H1.size = H.size + 1) (oq : ∀ q : Nat, q < H.size → H1[q]? = H[q]?) (hc : kd ≠ 0 → va_at E.D vwCl (E.b + M.n, cellE E (M.nw kd len) M.n) H1) : Wx E s H1 locs (M.nw kd len) :=
  ⟨hW.1.new hz oq hc, Nat.le_trans hW.2.1 (by omega), fun x h1 h2 => (oq x (Nat.lt_of_lt_of_le h1 hW.2.1)).trans (hW.2.2.1 x h1 h2), hW.2.2.2⟩
def NwO (own : String) (idx kd N : Nat) : Prop := ∃ (C : String) (T : u_T) (ty : Nat → FieldType), vwCl[kd - 1]? = some (C, T, N) ∧ kd ≠ 0 ∧ kd ≤ 20 ∧ (∀ w ∈ u_ws C T N, w ∈ gT) ∧ (∀ k, k < N → parseFieldDescriptor (T k).2.2.1 = some (ty k)) ∧ Cond.classLink own idx C ∈ gT ∧ Cond.instantiable C N ∈ gT ∧ Cond.initialized C ∈ gT ∧ (kd ≠ 2 → (oSig kd).length = N) ∧ (∀ j, j < N → defaultValue (ty j) = if kd = 2 then (if j = 1 then .null else .int 0) else if (oSig kd).getD j false then .null else .int 0)
theorem x_new (C : Cx E p s m args meth c cc own nL) (hW : Wx E s H locs M) {kd N : Nat} (hN : NwO own idx kd N) (hdg : decode cc pc = .ok (.new idx, 3)) (hcs : cells + 1 ≤ R.cells ∧ slots + N ≤ R.slots)
    (kk : ∀ H1 : Heap, Wx E s H1 locs (M.nw kd 0) → W p l e R s m args below meth c H1 locs (cells + 1) (slots + N) Q (F0 m (pc + 3) ls (.ref (E.b + M.n) :: rest))) : W p l e R s m args below meth c H locs cells slots Q (F0 m pc ls rest) := by
  obtain ⟨Cn, T, ty, hc, h0, h20, hin, hty, hcl, hinst, hini, hlen, hdef⟩ := hN
  have hKn := C.K.1 (kd - 1) _ hc
  refine W.newcK C.x C.b C.ow (C.ts _ hcl) (C.ts _ hinst) (C.ts _ hini) rfl hdg hcs.1 hcs.2 hKn.2.1 hW.1.1 fun H1 kC hkC e1 z1 o1 => ?_
  refine kk H1 (Wx.new C.le hW (by rw [z1, hW.1.1]) (fun q hq => o1 q (by rw [← hW.1.1]; exact hq)) (fun _ => ?_))
  have hk : (M.nw kd 0).k M.n = kd := va_up_self _ _ _
  have hg : (M.nw kd 0).g M.n = fun _ => 0 := va_up_self _ _ _
  have hr : (M.nw kd 0).r M.n = fun _ => none := va_up_self _ _ _
  by_cases h2 : kd = 2
  · subst h2
    have e2 : cellE E (M.nw 2 0) M.n = .inr (1, [.int 0, .null, .int 0]) := by simp only [cellE, hk, hg, hr, if_true]; rfl
    rw [e2]
    refine ⟨_, hc, (u_born ty C.ts hin hKn hkC e1 hty).to fun j hj => ?_⟩
    have hN3 : N = 3 := by have := hc; simp [vwCl] at this; exact this.2.2.symm
    have := hdef j hj
    rw [if_pos rfl] at this
    rw [this]
    rcases (show j = 0 ∨ j = 1 ∨ j = 2 by omega) with rfl | rfl | rfl <;> rfl
  · rw [cellE_o hk h2 h20]
    refine ⟨_, hc, (u_born ty C.ts hin hKn hkC e1 hty).to fun j hj => ?_⟩
    have h1 := hdef j hj
    rw [if_neg h2] at h1
    rw [h1]
    show _ = (oVals E.b (M.nw kd 0) M.n kd).getD j .null
    simp only [oVals, fV, hg, hr, List.getD_eq_getElem?_getD, List.getElem?_mapIdx]
    cases hs : (oSig kd)[j]? with
    | none => exact absurd hs (by rw [List.getElem?_eq_none_iff, hlen h2]; omega)
    | some t => cases t <;> rfl
end MORE
