/-! receivers of the library, dispatch, calls upward, boxes -/
theorem x_e1 {α : Type} {a r : α} {b m : Mm} (h : some (a, b) = some (r, m)) : r = a := (congrArg Prod.fst (Option.some.inj h)).symm
theorem x_e2 {α : Type} {a r : α} {b m : Mm} (h : some (a, b) = some (r, m)) : m = b := (congrArg Prod.snd (Option.some.inj h)).symm
theorem x_e0 {α : Type} {a r : α} (h : some a = some r) : r = a := (Option.some.inj h).symm
/-- an elementData row is the shared empty one -/
def gz (o : Nat) : Option Unit := if o = 0 then some () else none
theorem x_gz {o : Nat} {u : Unit} (h : gz o = some u) : o = 0 := by
  unfold gz at h
  split at h
  · assumption
  · cases h
def gnz (o : Nat) : Option Unit := if o = 0 then none else some ()
theorem x_gnz {o : Nat} {u : Unit} (h : gnz o = some u) : o ≠ 0 := by
  unfold gnz at h
  split at h
  · cases h
  · assumption
/-- a new Object[] of at most B places -/
def dnw (M : Mm) (B : Nat) (n : Int32) : Option Mm := if 0 ≤ n.toInt ∧ n.toNatClampNeg ≤ B ∧ 0 < M.n then some (M.nw 27 n.toNatClampNeg) else none
/-- System.arraycopy between rows of boxes; the places hold boxes or nothing -/
def dac (M : Mm) (a0 : Nat) (sp : Int32) (a : Nat) (dp n : Int32) : Option Mm := if (a0 ≠ 0 ∧ M.k a0 = 27) ∧ (a ≠ 0 ∧ M.k a = 27) ∧ 0 ≤ sp.toInt ∧ 0 ≤ dp.toInt ∧ 0 ≤ n.toInt ∧ sp.toNatClampNeg + n.toNatClampNeg ≤ M.len a0 ∧ dp.toNatClampNeg + n.toNatClampNeg ≤ M.len a ∧ (∀ i : Nat, i < n.toNatClampNeg → inB (M.g a0 (sp.toNatClampNeg + i)) 128 = true) then some (M.n, M.k, M.len, va_up M.g a (va_cpy (M.g a0) (M.g a) sp.toNatClampNeg dp.toNatClampNeg n.toNatClampNeg), M.l, va_up M.r a (va_cpy (M.r a0) (M.r a) sp.toNatClampNeg dp.toNatClampNeg n.toNatClampNeg)) else none
theorem good_U {own C owner : String} {idx : Nat} {x y : MethodName} {w : Cond} (h1 : Cond.methodLink own idx x ∈ gT) (h2 : Cond.sameMethod x.cls owner x.name x.desc ∈ gT) (h3 : Cond.selects C x y ∈ gT) (h4 : Cond.instanceMethod y ∈ gT) (h6 : Cond.initialized y.cls ∈ gT) (h5 : w ∈ gT) : GoodIn gT (va_wsU own idx C owner x y (w :: gT)) := by
  refine good_app (fun x hx => ?_) (good_code h5)
  simp only [List.mem_cons, List.not_mem_nil, or_false] at hx
  rcases hx with rfl | rfl | rfl | rfl | rfl <;> assumption
theorem good_O {own C owner : String} {idx : Nat} {x y : MethodName} {w : Cond} (h1 : Cond.methodLink own idx x ∈ gT) (h2 : Cond.sameMethod x.cls owner x.name x.desc ∈ gT) (h7 : Cond.instanceMethod ⟨owner, x.name, x.desc⟩ ∈ gT) (h3 : Cond.selects C x y ∈ gT) (h4 : Cond.instanceMethod y ∈ gT) (h6 : Cond.initialized y.cls ∈ gT) (h5 : w ∈ gT) : GoodIn gT (va_wsO own idx C owner x y (w :: gT)) := by
  refine good_app (fun x hx => ?_) (good_code h5)
  simp only [List.mem_cons, List.not_mem_nil, or_false] at hx
  rcases hx with rfl | rfl | rfl | rfl | rfl | rfl <;> assumption
theorem good_SU {own : String} {idx : Nat} {y : MethodName} {w : Cond} (h1 : Cond.methodLink own idx y ∈ gT) (h2 : Cond.sameMethod y.cls y.cls y.name y.desc ∈ gT) (h3 : Cond.superclass own y.cls ∈ gT) (h4 : Cond.instanceMethod y ∈ gT) (h6 : Cond.initialized y.cls ∈ gT) (h5 : w ∈ gT) : GoodIn gT (va_wsSU own idx y (w :: gT)) := by
  refine good_app (fun x hx => ?_) (good_code h5)
  simp only [List.mem_cons, List.not_mem_nil, or_false] at hx
  rcases hx with rfl | rfl | rfl | rfl | rfl <;> assumption
section DYN
variable {E : Ev} {p : Program} {l : Launch} {e : Env} {R : Room} {s : State} {m : MethodId} {args : Array Value} {below : List Frame} {meth : Method} {c : Code} {H : Heap} {locs : List Loc} {cells slots : Nat} {Q : State → Prop} {cc : ByteArray} {own : String} {nL : Nat} {M M1 : Mm} {pc : Nat} {ls : Array Slot} {rest st0 : List Value} {idx : Nat}
variable {y x : MethodName} {cb : ByteArray} {nL1 f w mc ms n : Nat} {ret : Option FieldType} {As : List Value} {v : Option Value}
theorem x_cret (C : Cx E p s m args meth c cc own nL) (hr : meth.sig.returnType = some .char) (hW : Wx E s H locs M) {v w : Int32} {pc : Nat} {ls : Array Slot} (hz : bc v = some w) (hdg : decode cc pc = .ok (.ireturn, 1)) : W p l e R s m args below meth c H locs cells slots (MQ below (Qp E (some (.int w)) M) args s cells slots E.A) (F0 m pc ls [.int v]) := by
  unfold bc at hz
  split at hz
  · rename_i h
    cases hz
    have hn : narrow .char (.int v) = .int v := congrArg Value.int h
    exact W.zret C.x C.b hr hn (fun _ ht _ => x_fr hW ht) hW.2.2.2 hdg C.lk
  · cases hz
theorem x_yret (C : Cx E p s m args meth c cc own nL) (hr : meth.sig.returnType = some .byte) (hW : Wx E s H locs M) {v : Int32} {pc : Nat} {ls : Array Slot} (hz : narrow .byte (.int v) = .int v) (hdg : decode cc pc = .ok (.ireturn, 1)) : W p l e R s m args below meth c H locs cells slots (MQ below (Qp E (some (.int v)) M) args s cells slots E.A) (F0 m pc ls [.int v]) :=
  W.zret C.x C.b hr hz (fun _ ht _ => x_fr hW ht) hW.2.2.2 hdg C.lk
theorem x_rcvT (C : Cx E p s m args meth c cc own nL) (hW : Wx E s H locs M) {q : Nat} (hq : q < 22) : ∃ cell : Cell, H[E.x (100 + q)]? = some cell ∧ cell.vm.isStatics = false ∧ s.vm.findClass "java/lang/String" = some cell.cls := vk_recv (adK := fun i => E.x (100 + i)) C.S hq hW.2
/-- a call on a receiver of the library -/
theorem x_callA (C : Cx E p s m args meth c cc own nL) (hW : Wx E s H locs M) {a : Nat} {Cn : String} {lv : List (Nat × Value)} (hl : lv_has ls nL lv) (hc : Ct l E y cb nL1 ret f w mc ms (.ref a :: As) M v M1)
    (hrc : ∃ cell : Cell, H[a]? = some cell ∧ cell.vm.isStatics = false ∧ s.vm.findClass Cn = some cell.cls) (hG : GoodIn gT (wsV own idx Cn y (Cond.code y cb nL1 ret :: gT)))
    (hd : y.cls = Cn ∧ y.cls ≠ "java/lang/invoke/MethodHandle" ∧ y.cls ≠ "java/lang/invoke/VarHandle" ∧ (parseMethodDescriptor y.desc).map (fun d => d.parameters.length) = some n) (hn : As.length = n) (hst : st0 = As.reverse ++ .ref a :: rest) (hrest : (rest.map fun v => v.category).sum ≤ 8) (hdg : decode cc pc = .ok (.invokevirtual idx, 3))
    (hf : f + 1 ≤ R.frames ∧ 8 + (nL1 + 11) + w ≤ R.locals) (hcs : cells + mc ≤ R.cells ∧ slots + ms ≤ R.slots)
    (kk : ∀ (H1 : Heap) (locs1 : List Loc), Wx E s H1 locs1 M1 → W p l e R s m args below meth c H1 locs1 (cells + mc) (slots + ms) Q (F0 m (pc + 3) ls (psh v rest))) : W p l e R s m args below meth c H locs cells slots Q (F0 m pc ls st0) :=
  x_goon C hW (va_runV (C := Cn) (b := a) (As := As) C.fix hc (cwV n C.ts hG rfl rfl rfl hd hf) ⟨St.blind, hrc, fun U hU hw => ⟨rfl, C.St hW hU hw⟩⟩ rfl hn hl.1 hst (lv_room hrest) hdg hcs) kk
/-- a call whose reference x finds owner's method, the receiver's class selects y -/
theorem x_callU (C : Cx E p s m args meth c cc own nL) (hW : Wx E s H locs M) {a kd : Nat} {q : vw_C} {owner : String} {lv : List (Nat × Value)} (hl : lv_has ls nL lv) (hc : Ct l E y cb nL1 ret f w mc ms (.ref (E.b + a) :: As) M v M1)
    (hk : M.k a = kd) (h0 : kd ≠ 0) (h20 : kd ≤ 20) (hcl : vwCl[kd - 1]? = some q) (hG : GoodIn gT (va_wsU own idx q.1 owner x y (Cond.code y cb nL1 ret :: gT)))
    (hyx : y = ⟨owner, x.name, x.desc⟩) (hd : owner ≠ "java/lang/invoke/MethodHandle" ∧ owner ≠ "java/lang/invoke/VarHandle" ∧ (parseMethodDescriptor x.desc).map (fun d => d.parameters.length) = some n) (hn : As.length = n) (hst : st0 = As.reverse ++ .ref (E.b + a) :: rest) (hrest : (rest.map fun v => v.category).sum ≤ 8) (hdg : decode cc pc = .ok (.invokevirtual idx, 3))
    (hf : f + 1 ≤ R.frames ∧ 8 + (nL1 + 11) + w ≤ R.locals) (hcs : cells + mc ≤ R.cells ∧ slots + ms ≤ R.slots)
    (kk : ∀ (H1 : Heap) (locs1 : List Loc), Wx E s H1 locs1 M1 → W p l e R s m args below meth c H1 locs1 (cells + mc) (slots + ms) Q (F0 m (pc + 3) ls (psh v rest))) : W p l e R s m args below meth c H locs cells slots Q (F0 m pc ls st0) :=
  x_goon C hW (va_runU (C := q.1) (b := E.b + a) (As := As) C.fix hc (va_cwU n C.ts hG rfl rfl rfl hyx hd hf) ⟨St.blind, x_recv C hW hk h0 h20 hcl, fun U hU hw => ⟨rfl, C.St hW hU hw⟩⟩ rfl hn hl.1 hst (lv_room hrest) hdg hcs) kk
theorem x_callO (C : Cx E p s m args meth c cc own nL) (hW : Wx E s H locs M) {a kd : Nat} {q : vw_C} {owner : String} {lv : List (Nat × Value)} (hl : lv_has ls nL lv) (hc : Ct l E y cb nL1 ret f w mc ms (.ref (E.b + a) :: As) M v M1)
    (hk : M.k a = kd) (h0 : kd ≠ 0) (h20 : kd ≤ 20) (hcl : vwCl[kd - 1]? = some q) (hG : GoodIn gT (va_wsO own idx q.1 owner x y (Cond.code y cb nL1 ret :: gT)))
    {b0 : ByteArray} {m0 : Nat} {r0 : Option FieldType} (hown : Cond.code ⟨owner, x.name, x.desc⟩ b0 m0 r0 ∈ gT) (hd : owner ≠ "java/lang/invoke/MethodHandle" ∧ owner ≠ "java/lang/invoke/VarHandle" ∧ (parseMethodDescriptor x.desc).map (fun d => d.parameters.length) = some n) (hn : As.length = n) (hst : st0 = As.reverse ++ .ref (E.b + a) :: rest) (hrest : (rest.map fun v => v.category).sum ≤ 8) (hdg : decode cc pc = .ok (.invokevirtual idx, 3))
    (hf : f + 1 ≤ R.frames ∧ 8 + (nL1 + 11) + w ≤ R.locals) (hcs : cells + mc ≤ R.cells ∧ slots + ms ≤ R.slots)
    (kk : ∀ (H1 : Heap) (locs1 : List Loc), Wx E s H1 locs1 M1 → W p l e R s m args below meth c H1 locs1 (cells + mc) (slots + ms) Q (F0 m (pc + 3) ls (psh v rest))) : W p l e R s m args below meth c H locs cells slots Q (F0 m pc ls st0) :=
  x_goon C hW (va_runU (C := q.1) (b := E.b + a) (As := As) C.fix hc (va_cwO n C.ts hG rfl rfl rfl hown hd hf) ⟨St.blind, x_recv C hW hk h0 h20 hcl, fun U hU hw => ⟨rfl, C.St hW hU hw⟩⟩ rfl hn hl.1 hst (lv_room hrest) hdg hcs) kk
/-- super.y -/
theorem x_callSU (C : Cx E p s m args meth c cc own nL) (hW : Wx E s H locs M) {a kd : Nat} {q : vw_C} {lv : List (Nat × Value)} (hl : lv_has ls nL lv) (hc : Ct l E y cb nL1 ret f w mc ms (.ref (E.b + a) :: As) M v M1)
    (hk : M.k a = kd) (h0 : kd ≠ 0) (h20 : kd ≤ 20) (hcl : vwCl[kd - 1]? = some q) (hG : GoodIn gT (va_wsSU own idx y (Cond.code y cb nL1 ret :: gT)))
    (hd : y.name ≠ "<init>" ∧ (parseMethodDescriptor y.desc).map (fun d => d.parameters.length) = some n) (hn : As.length = n) (hst : st0 = As.reverse ++ .ref (E.b + a) :: rest) (hrest : (rest.map fun v => v.category).sum ≤ 8) (hdg : decode cc pc = .ok (.invokespecial idx, 3))
    (hf : f + 1 ≤ R.frames ∧ 8 + (nL1 + 11) + w ≤ R.locals) (hcs : cells + mc ≤ R.cells ∧ slots + ms ≤ R.slots)
    (kk : ∀ (H1 : Heap) (locs1 : List Loc), Wx E s H1 locs1 M1 → W p l e R s m args below meth c H1 locs1 (cells + mc) (slots + ms) Q (F0 m (pc + 3) ls (psh v rest))) : W p l e R s m args below meth c H locs cells slots Q (F0 m pc ls st0) :=
  x_goon C hW (va_runSU (b := E.b + a) (As := As) ((C.K.1 (kd - 1) q hcl).2) C.fix hc (va_cwSU n C.ts hG rfl rfl rfl hd hf) ⟨St.blind, x_recv C hW hk h0 h20 hcl, fun U hU hw => ⟨rfl, C.St hW hU hw⟩⟩ rfl hn hl.1 hst (lv_room hrest) hdg hcs) kk
/-- elementData is the shared empty row -/
theorem x_adee (C : Cx E p s m args meth c cc own nL) {o : Nat} {off : Int} {tgt : Nat} (h : o = 0) (hdg : decode cc pc = .ok (.if_acmp .eq off, 3)) (ht : (pc : Int) + off = (tgt : Int)) (kk : W p l e R s m args below meth c H locs cells slots Q (F0 m tgt ls rest)) : W p l e R s m args below meth c H locs cells slots Q (F0 m pc ls (.ref (alA E 0) :: .ref (alA E o) :: rest)) := by
  subst h
  exact lv_acmp_eq (rx := some (alA E 0)) (ry := some (alA E 0)) C.x C.b hdg ht (fun _ => kk) (fun h => absurd rfl h)
/-- two mirrors of one class -/
theorem x_mmne (C : Cx E p s m args meth c cc own nL) {a : Nat} {off : Int} {tgt : Nat} (hdg : decode cc pc = .ok (.if_acmp .ne off, 3)) (ht : (pc : Int) + off = (tgt : Int)) (kk : W p l e R s m args below meth c H locs cells slots Q (F0 m (pc + 3) ls rest)) : W p l e R s m args below meth c H locs cells slots Q (F0 m pc ls (.ref a :: .ref a :: rest)) :=
  lv_acmp_ne (rx := some a) (ry := some a) C.x C.b hdg ht (fun h => absurd rfl h) (fun _ => kk)
theorem x_ldcM (C : Cx E p s m args meth c cc own nL) (hlk : Cond.classLink own idx "[Ljava/lang/Object;" ∈ gT) (hdg : decode cc pc = .ok (.ldc idx, 2)) (kk : W p l e R s m args below meth c H locs cells slots Q (F0 m (pc + 2) ls (.ref (E.x 6) :: rest))) : W p l e R s m args below meth c H locs cells slots Q (F0 m pc ls rest) :=
  va_ldcM C.x C.b C.ow (C.ts _ hlk) C.T.1.2.2.2.2.2.2.2 hdg kk
theorem d_cell (C : Cx E p s m args meth c cc own nL) (hW : Wx E s H locs M) {o : Nat} (hk : M.k o = 27) : ∃ cell : Cell, H[E.b + o]? = some cell ∧ cell.vm.isStatics = false ∧ s.vm.findClass "[Ljava/lang/Object;" = some cell.cls := by
  have hP := x_one hW (a := o) (by rw [hk]; decide)
  rw [cellE_b hk] at hP
  exact ⟨_, hP 0 _ rfl, rfl, va_nmO (C.K.2 6 _ rfl).2 rfl⟩
theorem x_getcl (C : Cx E p s m args meth c cc own nL) (hW : Wx E s H locs M) {o : Nat} {u : Unit} (hg : gk M o 27 = some u) (ho : o ≠ 0) {lv : List (Nat × Value)} (hl : lv_has ls nL lv) (hlk : Cond.methodLink own idx ⟨"java/lang/Object", "getClass", "()Ljava/lang/Class;"⟩ ∈ gT) (hdecl : Cond.declares ⟨"java/lang/Object", "getClass", "()Ljava/lang/Class;"⟩ ∈ lw_tbl) (hsel : Cond.selects "[Ljava/lang/Object;" ⟨"java/lang/Object", "getClass", "()Ljava/lang/Class;"⟩ ⟨"java/lang/Object", "getClass", "()Ljava/lang/Class;"⟩ ∈ gT) (hinst : Cond.instanceMethod ⟨"java/lang/Object", "getClass", "()Ljava/lang/Class;"⟩ ∈ gT) (hnat : Cond.native ⟨"java/lang/Object", "getClass", "()Ljava/lang/Class;"⟩ ∈ gT) (hframes : 1 ≤ R.frames) (hlocals : (rest.map fun v => v.category).sum + 14 ≤ R.locals) (hdg : decode cc pc = .ok (.invokevirtual idx, 3)) (kk : W p l e R s m args below meth c H locs cells slots Q (F0 m (pc + 3) ls (.ref (E.x 6) :: rest))) : W p l e R s m args below meth c H locs cells slots Q (F0 m pc ls (.ref (alA E o) :: rest)) := by
  rw [show alA E o = E.b + o from if_neg ho]
  exact va_getC (C := "[Ljava/lang/Object;") C.x C.b (by rw [C.ml]; exact hl.1.symm) C.ow (C.ts _ hlk) (va_Nw.use rfl (C.nt hdecl rfl)) (C.ts _ hsel) (C.ts _ hinst) (C.ts _ hnat) C.T.1.2.2.2.2.2.2.2 (d_cell C hW (x_gk hg)) hframes hlocals hdg kk
theorem x_castB (C : Cx E p s m args meth c cc own nL) (hW : Wx E s H locs M) {v : Int32} (hv : inB v 128 = true) (hlk : Cond.classLink own idx "java/lang/Integer" ∈ gT) (hdg : decode cc pc = .ok (.checkcast idx, 3)) (kk : W p l e R s m args below meth c H locs cells slots Q (F0 m (pc + 3) ls (.ref (bxA E v) :: rest))) : W p l e R s m args below meth c H locs cells slots Q (F0 m pc ls (.ref (bxA E v) :: rest)) :=
  va_castE C.x C.b C.ow (C.ts _ hlk) (bx_at C hW hv) hdg kk
theorem x_ibx {v w : Int32} (h : ibx v = some w) : inB v 128 = true ∧ v = w := by
  unfold ibx at h
  split at h
  · rename_i h1
    exact ⟨h1, Option.some.inj h⟩
  · cases h
theorem x_dnw (C : Cx E p s m args meth c cc own nL) (hW : Wx E s H locs M) {B : Nat} {n : Int32} (hr : dnw M B n = some M1) (hcl : Cond.classLink own idx "java/lang/Object" ∈ gT) (hB : B * 4 ≤ 536870912) (hcs : cells + 1 ≤ R.cells ∧ slots + B ≤ R.slots) (hdg : decode cc pc = .ok (.anewarray idx, 3))
    (kk : ∀ H1 : Heap, Wx E s H1 locs M1 → W p l e R s m args below meth c H1 locs (cells + 1) (slots + B) Q (F0 m (pc + 3) ls (.ref (alA E M.n) :: rest))) : W p l e R s m args below meth c H locs cells slots Q (F0 m pc ls (.int n :: rest)) := by
  unfold dnw at hr
  split at hr
  · rename_i h
    cases hr
    have hb : n.toNatClampNeg * 4 ≤ 536870912 := Nat.le_trans (Nat.mul_le_mul_right 4 h.2.1) hB
    rw [show alA E M.n = E.b + M.n from if_neg (by have := h.2.2; omega)] at kk
    refine W.anew C.x C.b C.ow (C.ts _ hcl) (va_AO.use C.T.1.2.2.2.2.2.1) (g := F0 m pc ls (.int n :: rest)) rfl hdg rfl (nn0 h.1) hb hcs.1 (Nat.le_trans (Nat.add_le_add_left h.2.1 _) hcs.2) fun cA kA comp f1 f2 f3 f4 => ?_
    have hcy : cA = E.cy 27 := by
      obtain ⟨_, _, _, _, _, h9⟩ := (C.K.2 6 _ rfl).2
      exact Option.some.inj (f1.symm.trans h9)
    generalize hH1 : H.push ({ cls := cA, slots := Array.replicate n.toNatClampNeg .null, vm := .none } : Cell) = H1
    have z1 : H1.size = H.size + 1 := by rw [← hH1, Array.size_push]
    have e1 : H1[H.size]? = some (arrV cA n.toNatClampNeg (fun _ => .null)) := by rw [← hH1, Array.getElem?_push_size, ← arrV_new]
    have o1 : ∀ q : Nat, q < H.size → H1[q]? = H[q]? := fun q hq => by rw [← hH1, Array.getElem?_push, if_neg (Nat.ne_of_lt hq)]
    rw [hW.1.1]
    refine W.widen (k := cells + 1) (n := slots + B) (Nat.le_refl _) (Nat.add_le_add_left h.2.1 _) (kk H1 (Wx.new C.le hW z1 o1 (fun _ => ?_)))
    have hk : (M.nw 27 n.toNatClampNeg).k M.n = 27 := va_up_self _ _ _
    have hg : (M.nw 27 n.toNatClampNeg).r M.n = fun _ => none := va_up_self _ _ _
    have hle : (M.nw 27 n.toNatClampNeg).len M.n = n.toNatClampNeg := va_up_self _ _ _
    rw [cellE_b hk, hg, hle]
    show H1[E.b + M.n]? = some (vp_cell _ _)
    rw [vp_cell_q, ← hW.1.1, e1, hcy]
    rfl
  · cases hr
theorem cellE_d {E : Ev} {M : Mm} {a b : Nat} {f : Nat → Int32} {g : Nat → Option Nat} (h : b ≠ a) : cellE E (M.n, M.k, M.len, va_up M.g a f, M.l, va_up M.r a g) b = cellE E M b := by
  have e : Mm.g (M.n, M.k, M.len, va_up M.g a f, M.l, va_up M.r a g) b = M.g b := va_up_ne _ _ h
  have e2 : Mm.r (M.n, M.k, M.len, va_up M.g a f, M.l, va_up M.r a g) b = M.r b := va_up_ne _ _ h
  simp only [cellE, oVals, fV, e, e2]
  rfl
theorem x_dac (C : Cx E p s m args meth c cc own nL) (hW : Wx E s H locs M) {lv : List (Nat × Value)} (hl : lv_has ls nL lv) (h1 : Cond.methodLink own idx arraycopyName ∈ gT) (h2 : Cond.native arraycopyName ∈ gT) (h3 : Cond.static arraycopyName ∈ gT) (h4 : Cond.initialized "java/lang/System" ∈ gT) (hca : Cond.castable "java/lang/Integer" "java/lang/Object" ∈ lw_tbl) {a0 a : Nat} {sp dp n : Int32} (hr : dac M a0 sp a dp n = some M1)
    (hframes : 1 ≤ R.frames) (hlocals : (rest.map fun v => v.category).sum + (nativeFrameWords "java/lang/System" "arraycopy" 5 + 11) ≤ R.locals) (hdg : decode cc pc = .ok (.invokestatic idx, 3))
    (kk : ∀ (H1 : Heap) (locs1 : List Loc), Wx E s H1 locs1 M1 → W p l e R s m args below meth c H1 locs1 cells slots Q (F0 m (pc + 3) ls rest)) : W p l e R s m args below meth c H locs cells slots Q (F0 m pc ls (.int n :: .int dp :: .ref (alA E a) :: .int sp :: .ref (alA E a0) :: rest)) := by
  unfold dac at hr
  split at hr
  · rename_i h
    cases hr
    obtain ⟨⟨hz0, hk0⟩, ⟨hza, hka⟩, g1, g2, g3, g4, g5, hbx⟩ := h
    rw [show alA E a0 = E.b + a0 from if_neg hz0, show alA E a = E.b + a from if_neg hza]
    have nn : ∀ z : Int32, 0 ≤ z.toInt → z.toInt = (z.toNatClampNeg : Int) := by
      intro z hz
      show z.toInt = ((z.toInt.toNat : Nat) : Int)
      omega
    generalize hf : (fun j => (M.r a0 j).map fun _ => E.x (1128 + (M.g a0 j).toNatClampNeg)) = f
    generalize hg : (fun j => (M.r a j).map fun _ => E.x (1128 + (M.g a j).toNatClampNeg)) = g
    have hP0 := x_one hW (a := a0) (by rw [hk0]; decide)
    rw [cellE_b hk0, hf] at hP0
    have hP1 := x_one hW (a := a) (by rw [hka]; decide)
    rw [cellE_b hka, hg] at hP1
    have hc0 : H[E.b + a0]? = some (vp_cell (E.cy 27) (M.len a0, .inr (.inr (.inr (.inr f))))) := hP0 0 _ rfl
    have hc1 : H[E.b + a]? = some (vp_cell (E.cy 27) (M.len a, .inr (.inr (.inr (.inr g))))) := hP1 0 _ rfl
    intro T hT X
    obtain ⟨-, k0, hkk0, cm0, hkd0⟩ := (C.K.2 6 _ rfl).1 (M.len a0) (fun j => va_rf (f j))
    obtain ⟨-, k1, hkk1, cm1, hkd1⟩ := (C.K.2 6 _ rfl).1 (M.len a) (fun j => va_rf (g j))
    obtain ⟨vm', X', step⟩ := X.arraycopy C.x C.ow (C.ts _ h1) (C.ts _ h2) (C.ts _ h3) (C.ts _ h4) (src := E.b + a0) (dst := E.b + a) (cs := vp_cell (E.cy 27) (M.len a0, .inr (.inr (.inr (.inr f))))) (cd := vp_cell (E.cy 27) (M.len a, .inr (.inr (.inr (.inr g))))) (srcPos := sp) (destPos := dp) (n := n) (by rw [hT]; exact hc0) (by rw [hT]; exact hc1)
      (fun _ h => by cases h) (fun _ h => by cases h) (fun h => by cases h) (fun h => by cases h) hkk0 hkk1 hkd0 hkd1 rfl (nn0 g1) (nn0 g2) (nn0 g3)
      (by rw [nn sp g1, nn n g3]; show ¬ _ > ((arrV (E.cy 27) (M.len a0) (fun j => va_rf (f j))).slots.size : Int); rw [arrV_size]; omega)
      (by rw [nn dp g2, nn n g3]; show ¬ _ > ((arrV (E.cy 27) (M.len a) (fun j => va_rf (g j))).slots.size : Int); rw [arrV_size]; omega)
      (fun vm₁ hal i hi => by
        have e : (vp_cell (E.cy 27) (M.len a0, .inr (.inr (.inr (.inr f))))).slots.getD (sp.toNatClampNeg + i) .null = va_rf (f (sp.toNatClampNeg + i)) := by
          show (arrV (E.cy 27) (M.len a0) (fun j => va_rf (f j))).slots.getD _ _ = _
          rw [Array.getD_eq_getD_getElem?, arrV_read _ _ (by omega)]
          rfl
        rw [e]
        cases hy : f (sp.toNatClampNeg + i) with
        | none => exact ⟨rfl, trivial⟩
        | some y =>
          have hy2 : y = bxA E (M.g a0 (sp.toNatClampNeg + i)) := by
            rw [← hf] at hy
            obtain ⟨_, _, h9⟩ := Option.map_eq_some_iff.mp hy
            exact h9.symm
          obtain ⟨cellV, g1, g2, g3⟩ := bx_at C hW (hbx i hi)
          rw [← hy2] at g1
          obtain ⟨kA, comp, r1, r2, r3, -⟩ := (C.K.2 6 _ rfl).2
          cases hkk1.symm.trans r1
          cases hkd1.symm.trans r2
          obtain ⟨kC, hkC, -⟩ := Vm.findClass_spec g3
          obtain ⟨kE, hkE, -⟩ := Vm.findClass_spec r3
          obtain ⟨kC', hkC', -⟩ := hal.2.2 _ _ hkC
          obtain ⟨kE', hkE', -⟩ := hal.2.2 _ _ hkE
          refine ⟨rfl, cellV, (show T.heap[y]? = some cellV by rw [hT]; exact g1), (fun q h => by rw [h] at g2; cases g2), ⟨kC', hkC'⟩, ?_, ?_⟩
          · exact ⟨kE', hkE'⟩
          · show vm₁.assignable _ _ = true
            rw [hal.assignable]
            exact vb_asgC (C.nt hca rfl) _ _ r3 g3)
      (g := F0 m pc ls (.int n :: .int dp :: .ref (E.b + a) :: .int sp :: .ref (E.b + a0) :: rest)) rfl (by rw [C.ml]; exact hl.1) (rest := rest) rfl (by rw [C.b]; exact hdg) hframes (by show 2 * 0 + _ + _ ≤ _; omega)
    have e1 : copied (vp_cell (E.cy 27) (M.len a0, .inr (.inr (.inr (.inr f))))) (vp_cell (E.cy 27) (M.len a, .inr (.inr (.inr (.inr g))))) sp dp n = vp_cell (E.cy 27) (M.len a, .inr (.inr (.inr (.inr (va_cpy f g sp.toNatClampNeg dp.toNatClampNeg n.toNatClampNeg))))) := by
      rw [vp_cell_q, vp_cell_q, vp_cell_q]
      exact va_copied (fun z => va_rf z) (E.cy 27) (E.cy 27) f g g4
    rw [e1] at X' step
    have hlt : E.b + a < H.size := (Array.getElem?_eq_some_iff.mp hc1).1
    generalize hnew : vp_cell (E.cy 27) (M.len a, .inr (.inr (.inr (.inr (va_cpy f g sp.toNatClampNeg dp.toNatClampNeg n.toNatClampNeg))))) = nc at X' step
    have hheap : ((T.setVm vm').setCell (E.b + a) nc).heap = H.setIfInBounds (E.b + a) nc := by rw [← hT]; rfl
    have oq : ∀ q : Nat, q ≠ E.b + a → (H.setIfInBounds (E.b + a) nc)[q]? = H[q]? := fun q hq => by simp [Array.getElem?_setIfInBounds, Ne.symm hq]
    have z : (H.setIfInBounds (E.b + a) nc).size = H.size := by simp
    obtain ⟨t, a1, b1⟩ := kk _ _ ⟨Wd.step (a := a) hW.1 rfl rfl (fun b hb => cellE_d hb) z oq (fun _ => by
        rw [cellE_b (M := (M.n, M.k, M.len, va_up M.g a (va_cpy (M.g a0) (M.g a) sp.toNatClampNeg dp.toNatClampNeg n.toNatClampNeg), M.l, va_up M.r a (va_cpy (M.r a0) (M.r a) sp.toNatClampNeg dp.toNatClampNeg n.toNatClampNeg))) (a := a) hka]
        show (H.setIfInBounds (E.b + a) nc)[E.b + a]? = some (vp_cell _ _)
        rw [show (H.setIfInBounds (E.b + a) nc)[E.b + a]? = some nc by simp [Array.getElem?_setIfInBounds, hlt], ← hnew]
        show some (vp_cell (E.cy 27) (M.len a, _)) = some (vp_cell (E.cy 27) (M.len a, .inr (.inr (.inr (.inr fun j => ((va_up M.r a (va_cpy (M.r a0) (M.r a) sp.toNatClampNeg dp.toNatClampNeg n.toNatClampNeg)) a j).map fun _ => E.x (1128 + ((va_up M.g a (va_cpy (M.g a0) (M.g a) sp.toNatClampNeg dp.toNatClampNeg n.toNatClampNeg)) a j).toNatClampNeg))))))
        rw [va_up_self, va_up_self]
        have e9 : va_cpy f g sp.toNatClampNeg dp.toNatClampNeg n.toNatClampNeg = fun j => ((va_cpy (M.r a0) (M.r a) sp.toNatClampNeg dp.toNatClampNeg n.toNatClampNeg) j).map fun _ => E.x (1128 + ((va_cpy (M.g a0) (M.g a) sp.toNatClampNeg dp.toNatClampNeg n.toNatClampNeg) j).toNatClampNeg) := by
          funext j
          rw [← hf, ← hg]
          unfold va_cpy
          split <;> rfl
        rw [e9]), ⟨by rw [z]; exact hW.2.1, fun q q1 q2 => by
        rw [oq q (fun e => q2 (by rw [e]; exact Nat.le_add_right _ _))]
        exact hW.2.2.1 q q1 q2, fun q hq => by
        rcases List.mem_append.mp hq with h | h
        · exact hW.2.2.2 q h
        · obtain ⟨z, -, hz⟩ := List.mem_map.mp h
          rw [← hz]
          exact Nat.le_add_right _ _⟩⟩ _ hheap X'
    exact ⟨t, step t a1, b1⟩
  · cases hr
end DYN
