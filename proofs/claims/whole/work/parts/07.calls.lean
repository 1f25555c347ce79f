/-! CALLS, statics, text constants, Math, System.arraycopy, new cells. -/
theorem good_code {w : Cond} (h : w ∈ gT) : GoodIn gT (w :: gT) := fun x hx => by
  rcases List.mem_cons.mp hx with rfl | h1
  · exact gT_good _ h
  · exact gT_good _ h1
theorem good_app {a b : List Cond} (ha : ∀ w ∈ a, w ∈ gT) (hb : GoodIn gT b) : GoodIn gT (a ++ b) := fun x hx => by
  rcases List.mem_append.mp hx with h | h
  · exact gT_good _ (ha x h)
  · exact hb x h
theorem good_V {own C : String} {idx : Nat} {y : MethodName} {w : Cond} (h1 : Cond.methodLink own idx y ∈ gT) (h2 : Cond.instanceMethod y ∈ gT) (h3 : Cond.selects C y y ∈ gT) (h4 : Cond.initialized C ∈ gT) (h5 : w ∈ gT) : GoodIn gT (wsV own idx C y (w :: gT)) := by
  refine good_app (fun x hx => ?_) (good_code h5)
  simp only [List.mem_cons, List.not_mem_nil, or_false] at hx
  rcases hx with rfl | rfl | rfl | rfl <;> assumption
theorem good_S {own : String} {idx : Nat} {y : MethodName} {w : Cond} (h1 : Cond.methodLink own idx y ∈ gT) (h2 : Cond.static y ∈ gT) (h4 : Cond.initialized y.cls ∈ gT) (h5 : w ∈ gT) : GoodIn gT (va_wsS own idx y (w :: gT)) := by
  refine good_app (fun x hx => ?_) (good_code h5)
  simp only [List.mem_cons, List.not_mem_nil, or_false] at hx
  rcases hx with rfl | rfl | rfl <;> assumption
/-- the stack behind a call -/
def psh (v : Option Value) (rest : List Value) : List Value := match v with
  | none => rest
  | some x => x :: rest
theorem psh_eq (v : Option Value) (rest : List Value) : psh v rest = v.toList ++ rest := by cases v <;> rfl
theorem XT.same {E : Ev} {u U : State} {H : Heap} (hv : u.vm = U.vm) (h : XT E u H) : XT E U H := by
  obtain ⟨⟨h1, h2, h3, h4, h5, h6, h7, h8⟩, hS⟩ := h
  have ha : u.vm.Alike U.vm := by rw [hv]; exact Vm.Alike.refl _
  exact ⟨⟨fun w hw hn => va_Nw.same (by cases w <;> first | rfl | (simp [isNt] at hn)) hv (h1 w hw hn), fun q hm => (h2 q hm).same hv.symm, h3.moved ha, h4.moved ha, h5.moved ha, h6.moved ha, h7.moved ha, h8.moved ha⟩, hS.go ha (fun _ _ _ => rfl)⟩
theorem St.blind {E : Ev} {M : Mm} {av : List Value} : FrameBlind (va_Pc av (St E M)) := fun a U g mk q => by
  obtain ⟨q0, q1, q2, q3, q4⟩ := q
  exact ⟨q0, q1, va_K.moved (u := U) (U := U.calling g mk a) (Vm.Alike.refl U.vm) q2, XT.same (u := U) (U := U.calling g mk a) rfl q3, q4⟩
section CALLS
variable {E : Ev} {p : Program} {l : Launch} {e : Env} {R : Room} {s : State} {m : MethodId} {args : Array Value} {below : List Frame} {meth : Method} {c : Code} {H : Heap} {locs : List Loc} {cells slots : Nat} {Q : State → Prop} {cc : ByteArray} {own : String} {nL : Nat} {M M1 : Mm} {pc : Nat} {ls : Array Slot} {rest st0 : List Value}
variable {y : MethodName} {cb : ByteArray} {nL1 f w mc ms idx n : Nat} {ret : Option FieldType} {As : List Value} {v : Option Value}
theorem Cx.St (C : Cx E p s m args meth c cc own nL) (hW : Wx E s H locs M) {U : State} (hU : U.heap = H) (hw : s.WarmedH U.vm) : St E M U :=
  ⟨by rw [hU]; exact hW.1, va_K.moved hw.alike C.K, by rw [hU]; exact C.T.go hw (fun a h1 h2 => hW.2.2.1 a h1 h2), by rw [hU]; exact Nat.le_trans C.le hW.2.1⟩
theorem Cx.fix (C : Cx E p s m args meth c cc own nL) : CallFix p m c cc nL s args gT own := ⟨C.x, C.b, C.ml, C.ow, C.ts⟩

theorem x_goon (C : Cx E p s m args meth c cc own nL) (hW : Wx E s H locs M) {a : Array Value} (hr : va_Run p l e R s m args below meth c H locs cells slots mc ms (F0 m pc ls st0) rest (Qp E v M1 a) E.A)
    (kk : ∀ (H1 : Heap) (locs1 : List Loc), Wx E s H1 locs1 M1 → W p l e R s m args below meth c H1 locs1 (cells + mc) (slots + ms) Q (F0 m (pc + 3) ls (psh v rest))) : W p l e R s m args below meth c H locs cells slots Q (F0 m pc ls st0) := by
  intro T hT X
  obtain ⟨v0, st₀, t, T', L, h0, X', hL, e1, e2, ⟨hv, hWd, hz, hk⟩, st⟩ := hr T hT X
  cases hv
  rw [h0] at hz hk
  rw [← psh_eq] at st
  have hS := hW.2
  obtain ⟨t2, a1, b1⟩ := kk T'.heap (locs ++ L) ⟨by rw [e1]; exact hWd, Nat.le_trans hS.1 (by rw [e1]; exact hz), fun q h1 h2 => by rw [e1, hk q (Nat.lt_of_lt_of_le h1 hS.1) h2]; exact hS.2.1 q h1 h2, fun q hq => by
      rcases List.mem_append.mp hq with h | h
      · exact hS.2.2 q h
      · exact hL q h⟩ T' rfl X'
  exact ⟨t2, st t2 a1, b1⟩
/-- the receiver: an object of the class of kind kd -/
theorem x_recv (C : Cx E p s m args meth c cc own nL) (hW : Wx E s H locs M) {a kd : Nat} {q : vw_C} (hk : M.k a = kd) (h0 : kd ≠ 0) (h20 : kd ≤ 20) (hc : vwCl[kd - 1]? = some q) : ∃ cell : Cell, H[E.b + a]? = some cell ∧ cell.vm.isStatics = false ∧ s.vm.findClass q.1 = some cell.cls := by
  have hP := x_one hW (a := a) (by rw [hk]; exact h0)
  by_cases h2 : kd = 2
  · have e1 : cellE E M a = .inr (1, [.int (M.g a 0), alV E (M.r a 1), .int (M.g a 2)]) := by simp [cellE, hk, h2]
    rw [e1] at hP
    subst h2
    exact va_recv C.K hP (ci := 1) (q0 := 0) hc rfl
  · rw [cellE_o hk h2 h20] at hP
    exact va_recv C.K hP (ci := kd - 1) (q0 := 0) hc rfl
theorem x_callV (C : Cx E p s m args meth c cc own nL) (hW : Wx E s H locs M) {a kd : Nat} {q : vw_C} {lv : List (Nat × Value)} (hl : lv_has ls nL lv) (hc : Ct l E y cb nL1 ret f w mc ms (.ref (E.b + a) :: As) M v M1)
    (hk : M.k a = kd) (h0 : kd ≠ 0) (h20 : kd ≤ 20) (hcl : vwCl[kd - 1]? = some q) (hG : GoodIn gT (wsV own idx q.1 y (Cond.code y cb nL1 ret :: gT)))
    (hd : y.cls = q.1 ∧ y.cls ≠ "java/lang/invoke/MethodHandle" ∧ y.cls ≠ "java/lang/invoke/VarHandle" ∧ (parseMethodDescriptor y.desc).map (fun d => d.parameters.length) = some n) (hn : As.length = n) (hst : st0 = As.reverse ++ .ref (E.b + a) :: rest) (hrest : (rest.map fun v => v.category).sum ≤ 8) (hdg : decode cc pc = .ok (.invokevirtual idx, 3))
    (hf : f + 1 ≤ R.frames ∧ 8 + (nL1 + 11) + w ≤ R.locals) (hcs : cells + mc ≤ R.cells ∧ slots + ms ≤ R.slots)
    (kk : ∀ (H1 : Heap) (locs1 : List Loc), Wx E s H1 locs1 M1 → W p l e R s m args below meth c H1 locs1 (cells + mc) (slots + ms) Q (F0 m (pc + 3) ls (psh v rest))) : W p l e R s m args below meth c H locs cells slots Q (F0 m pc ls st0) :=
  x_goon C hW (va_runV (C := q.1) (b := E.b + a) (As := As) C.fix hc (cwV n C.ts hG rfl rfl rfl hd hf) ⟨St.blind, x_recv C hW hk h0 h20 hcl, fun U hU hw => ⟨rfl, C.St hW hU hw⟩⟩ rfl hn hl.1 hst (lv_room hrest) hdg hcs) kk
theorem x_callS (C : Cx E p s m args meth c cc own nL) (hW : Wx E s H locs M) {lv : List (Nat × Value)} (hl : lv_has ls nL lv) (hc : Ct l E y cb nL1 ret f w mc ms As M v M1)
    (hG : GoodIn gT (va_wsS own idx y (Cond.code y cb nL1 ret :: gT)))
    (hd : y.cls ≠ "java/lang/invoke/MethodHandle" ∧ y.cls ≠ "java/lang/invoke/VarHandle" ∧ (parseMethodDescriptor y.desc).map (fun d => d.parameters.length) = some n) (hn : As.length = n) (hst : st0 = As.reverse ++ rest) (hrest : (rest.map fun v => v.category).sum ≤ 8) (hdg : decode cc pc = .ok (.invokestatic idx, 3))
    (hf : f + 1 ≤ R.frames ∧ 8 + (nL1 + 11) + w ≤ R.locals) (hcs : cells + mc ≤ R.cells ∧ slots + ms ≤ R.slots)
    (kk : ∀ (H1 : Heap) (locs1 : List Loc), Wx E s H1 locs1 M1 → W p l e R s m args below meth c H1 locs1 (cells + mc) (slots + ms) Q (F0 m (pc + 3) ls (psh v rest))) : W p l e R s m args below meth c H locs cells slots Q (F0 m pc ls st0) :=
  x_goon C hW (va_runS (As := As) C.fix hc (va_cwS n C.ts hG rfl rfl rfl hd hf) ⟨St.blind, fun U hU hw => ⟨rfl, C.St hW hU hw⟩⟩ rfl hn hl.1 hst (lv_room hrest) hdg hcs) kk
theorem Cx.nt (C : Cx E p s m args meth c cc own nL) {w : Cond} (h : w ∈ lw_tbl) (hn : isNt w = true) : va_Nw w s := C.T.1.1 w h hn
theorem x_callSN (C : Cx E p s m args meth c cc own nL) (hW : Wx E s H locs M) {host : String} {lv : List (Nat × Value)} (hl : lv_has ls nL lv) (hc : Ct l E y cb nL1 ret f w mc ms As M v M1)
    (hlk : Cond.methodLinkNest own idx y host ∈ lw_tbl) (hst1 : Cond.static y ∈ gT) (hini : Cond.initialized y.cls ∈ gT) (hcode : Cond.code y cb nL1 ret ∈ gT)
    (hd : y.cls ≠ "java/lang/invoke/MethodHandle" ∧ y.cls ≠ "java/lang/invoke/VarHandle" ∧ (parseMethodDescriptor y.desc).map (fun d => d.parameters.length) = some n) (hn : As.length = n) (hst : st0 = As.reverse ++ rest) (hrest : (rest.map fun v => v.category).sum ≤ 8) (hdg : decode cc pc = .ok (.invokestatic idx, 3))
    (hf : f + 1 ≤ R.frames ∧ 8 + (nL1 + 11) + w ≤ R.locals) (hcs : cells + mc ≤ R.cells ∧ slots + ms ≤ R.slots)
    (kk : ∀ (H1 : Heap) (locs1 : List Loc), Wx E s H1 locs1 M1 → W p l e R s m args below meth c H1 locs1 (cells + mc) (slots + ms) Q (F0 m (pc + 3) ls (psh v rest))) : W p l e R s m args below meth c H locs cells slots Q (F0 m pc ls st0) :=
  x_goon C hW (va_runSN (As := As) (host := host) C.fix hc ⟨va_cnB n C.ts (good_code hcode) rfl rfl rfl (C.nt hlk rfl) (C.ts _ hini) hd hf, C.ts _ hst1, trivial⟩ ⟨St.blind, fun U hU hw => ⟨rfl, C.St hW hU hw⟩⟩ rfl hn hl.1 hst (lv_room hrest) hdg hcs) kk
theorem x_callI (C : Cx E p s m args meth c cc own nL) (hW : Wx E s H locs M) {a : Nat} {lv : List (Nat × Value)} (hl : lv_has ls nL lv) (hc : Ct l E y cb nL1 none f w mc ms (.ref (E.b + a) :: As) M v M1)
    (hlk : Cond.methodLink own idx y ∈ gT) (hin : Cond.instanceMethod y ∈ gT) (hini : Cond.initialized y.cls ∈ gT) (hcode : Cond.code y cb nL1 none ∈ gT) (hy : y.name = "<init>")
    (hd : y.cls ≠ "java/lang/invoke/MethodHandle" ∧ y.cls ≠ "java/lang/invoke/VarHandle" ∧ (parseMethodDescriptor y.desc).map (fun d => d.parameters.length) = some n) (hn : As.length = n) (hst : st0 = As.reverse ++ .ref (E.b + a) :: rest) (hrest : (rest.map fun v => v.category).sum ≤ 8) (hdg : decode cc pc = .ok (.invokespecial idx, 3))
    (hf : f + 1 ≤ R.frames ∧ 8 + (nL1 + 11) + w ≤ R.locals) (hcs : cells + mc ≤ R.cells ∧ slots + ms ≤ R.slots)
    (kk : ∀ (H1 : Heap) (locs1 : List Loc), Wx E s H1 locs1 M1 → W p l e R s m args below meth c H1 locs1 (cells + mc) (slots + ms) Q (F0 m (pc + 3) ls (psh v rest))) : W p l e R s m args below meth c H locs cells slots Q (F0 m pc ls st0) :=
  x_goon C hW (va_runI (b := E.b + a) (As := As) C.fix hc (cwI n C.ts (good_code hcode) rfl rfl rfl (C.ts _ hini) (C.ts _ hlk) (C.ts _ hin) hy hd hf) ⟨St.blind, fun U hU hw => ⟨rfl, C.St hW hU hw⟩⟩ rfl hn hl.1 hst (lv_room hrest) hdg hcs) kk
theorem x_callIN (C : Cx E p s m args meth c cc own nL) (hW : Wx E s H locs M) {a : Nat} {host : String} {lv : List (Nat × Value)} (hl : lv_has ls nL lv) (hc : Ct l E y cb nL1 none f w mc ms (.ref (E.b + a) :: As) M v M1)
    (hlk : Cond.methodLinkNest own idx y host ∈ lw_tbl) (hin : Cond.instanceMethod y ∈ gT) (hini : Cond.initialized y.cls ∈ gT) (hcode : Cond.code y cb nL1 none ∈ gT) (hy : y.name = "<init>")
    (hd : y.cls ≠ "java/lang/invoke/MethodHandle" ∧ y.cls ≠ "java/lang/invoke/VarHandle" ∧ (parseMethodDescriptor y.desc).map (fun d => d.parameters.length) = some n) (hn : As.length = n) (hst : st0 = As.reverse ++ .ref (E.b + a) :: rest) (hrest : (rest.map fun v => v.category).sum ≤ 8) (hdg : decode cc pc = .ok (.invokespecial idx, 3))
    (hf : f + 1 ≤ R.frames ∧ 8 + (nL1 + 11) + w ≤ R.locals) (hcs : cells + mc ≤ R.cells ∧ slots + ms ≤ R.slots)
    (kk : ∀ (H1 : Heap) (locs1 : List Loc), Wx E s H1 locs1 M1 → W p l e R s m args below meth c H1 locs1 (cells + mc) (slots + ms) Q (F0 m (pc + 3) ls (psh v rest))) : W p l e R s m args below meth c H locs cells slots Q (F0 m pc ls st0) :=
  x_goon C hW (va_runIN (b := E.b + a) (As := As) (host := host) C.fix hc ⟨va_cnB n C.ts (good_code hcode) rfl rfl rfl (C.nt hlk rfl) (C.ts _ hini) hd hf, hy, C.ts _ hin⟩ ⟨St.blind, fun U hU hw => ⟨rfl, C.St hW hU hw⟩⟩ rfl hn hl.1 hst (lv_room hrest) hdg hcs) kk
theorem x_objInit (C : Cx E p s m args meth c cc own nL) {a : Nat} {lv : List (Nat × Value)} (hl : lv_has ls nL lv) (hlk : Cond.methodLink own idx Lib.objectInit ∈ gT) (h2 : Cond.instanceMethod Lib.objectInit ∈ gT) (h3 : Cond.code Lib.objectInit ⟨#[0xb1]⟩ 1 none ∈ gT) (hdg : decode cc pc = .ok (.invokespecial idx, 3)) (hf : 1 ≤ R.frames) (hw : (rest.map fun v => v.category).sum + 12 ≤ R.locals)
    (kk : W p l e R s m args below meth c H locs cells slots Q (F0 m (pc + 3) ls rest)) : W p l e R s m args below meth c H locs cells slots Q (F0 m pc ls (.ref a :: rest)) :=
  W.objInit C.x C.b C.ow (C.ts _ hlk) (C.ts _ h2) (C.ts _ h3) (g := F0 m pc ls (.ref a :: rest)) rfl (by rw [C.ml]; exact hl.1) rfl hdg hf (by show 2 * 0 + _ + 12 ≤ _; omega) kk
def mxI (x y : Int32) : Int32 := if x < y then y else x
def mnI (x y : Int32) : Int32 := if y < x then y else x
end CALLS
