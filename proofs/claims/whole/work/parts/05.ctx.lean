/-! WHAT HOLDS BESIDE THE WORLD: words that want care under warming, text constants, statics, small Integers (nobody writes them); a method's contract; its start, its ends, its calls. -/
def isNt : Cond → Bool
  | .methodLinkNest .. => true
  | .fieldLinkNest .. => true
  | .declares _ => true
  | .castable .. => true
  | _ => false
theorem nt_warm {w : Cond} (hw : isNt w = true) {s U : State} (hW : s.WarmedH U.vm) (h : va_Nw w s) : va_Nw w U := by
  cases w <;> first | exact va_Nw.warmM hW h | exact va_Nw.warmF hW h | exact va_Nw.warmD hW h | exact va_Nw.warmC hW h | (simp [isNt] at hw)
def wAO (U : State) : Prop := (Cond.arrayOver (.array .int)).before #[] U = true
def wFI (vm : Vm) (comp : ClassId) : Option Nat := vm.classes.findIdx? fun (x : Class) => match x.kind with | .array component _ => component == comp | _ => false
theorem wFI_eq {v w : Vm} (h : v.Alike w) (comp : ClassId) : wFI w comp = wFI v comp := by
  refine ((va_idx_bare w comp).symm.trans ?_).trans (va_idx_bare v comp)
  first | rw [h.bare_eq] | rw [← h.bare_eq]
def wAb (vm : Vm) (comp : ClassId) : Bool := ((wFI vm comp).bind fun c => (vm.classes[c]?).map fun (k : Class) => match k.kind with | .array _ ty => decide (ty = FieldType.array .int) && decide (vm.findClass ("[" ++ (FieldType.array .int).toString) = some c) | _ => false) == some true
theorem wAO.moved {u U : State} (hvm : u.vm.Alike U.vm) (h : wAO u) : wAO U := by
  have hf : ∀ n, U.vm.findClass n = u.vm.findClass n := fun n => by rw [hvm.findClass]
  unfold wAO Cond.before Cond.holds at h ⊢
  simp only [Cond.value] at h ⊢
  rw [hf (FieldType.array FieldType.int).toString]
  cases hc : u.vm.findClass (FieldType.array FieldType.int).toString with
  | none => rw [hc] at h; exact h
  | some comp =>
    rw [hc, Option.bind_some] at h
    rw [Option.bind_some]
    have h : wAb u.vm comp = true := h
    show wAb U.vm comp = true
    unfold wAb at h ⊢
    rw [wFI_eq hvm comp]
    cases hi : wFI u.vm comp with
    | none => rw [hi] at h; exact h
    | some c =>
      rw [hi, Option.bind_some] at h
      rw [Option.bind_some]
      cases hk : u.vm.classes[c]? with
      | none => rw [hk] at h; cases h
      | some k =>
        obtain ⟨k', hk', he⟩ := hvm.2.2 _ _ hk
        have hkk : k'.kind = k.kind := by rw [he]
        rw [hk] at h
        simp only [Option.map_some] at h
        simp only [hk', Option.map_some, hkk, hf]
        exact h
/-- the texts, by number -/
def txs : List String := ["left", "right", "step", "bend", "go", "stairs", "sits", "stands", "steps", "cab", "sheer", "thick", "mesh", "lined", "old", "plain", "shade", "lasts", "ladder", "to", ",", ";"]
def txb : List (List Int32) := [[108, 101, 102, 116], [114, 105, 103, 104, 116], [115, 116, 101, 112], [98, 101, 110, 100], [103, 111], [115, 116, 97, 105, 114, 115], [115, 105, 116, 115], [115, 116, 97, 110, 100, 115], [115, 116, 101, 112, 115], [99, 97, 98], [115, 104, 101, 101, 114], [116, 104, 105, 99, 107], [109, 101, 115, 104], [108, 105, 110, 101, 100], [111, 108, 100], [112, 108, 97, 105, 110], [115, 104, 97, 100, 101], [108, 97, 115, 116, 115], [108, 97, 100, 100, 101, 114], [116, 111], [44], [59]]
def txl : List Nat := [4, 5, 4, 4, 2, 6, 4, 6, 5, 3, 5, 5, 4, 5, 3, 5, 5, 5, 6, 2, 1, 1]
/-- where a class loads a text: class, place in its constants, text, its number -/
def txr : List (String × Nat × String × Nat) := [("NylonLadder$Tape", 65, "left", 0), ("NylonLadder$Tape", 75, "right", 1), ("NylonLadder$Tape", 77, "step", 2), ("NylonLadder$Tape", 82, "bend", 3), ("NylonLadder$Tape", 84, "go", 4), ("NylonLadder$Tape", 203, "stairs", 5), ("NylonLadder$Tape", 205, "sits", 6), ("NylonLadder$Tape", 207, "stands", 7), ("NylonLadder$Tape", 209, "steps", 8), ("NylonLadder$Tape", 94, "cab", 9), ("NylonLadder$Tape", 191, "sheer", 10), ("NylonLadder$Tape", 193, "thick", 11), ("NylonLadder$Tape", 195, "mesh", 12), ("NylonLadder$Tape", 197, "lined", 13), ("NylonLadder$Tape", 199, "old", 14), ("NylonLadder$Tape", 201, "plain", 15), ("NylonLadder$Tape", 152, "shade", 16), ("NylonLadder$Tape", 154, "lasts", 17), ("NylonLadder$Tape", 156, "ladder", 18), ("NylonLadder$Tape", 158, "to", 19), ("NylonLadderModel", 319, "plain", 15), ("NylonLadderModel", 321, "sheer", 10), ("NylonLadderModel", 323, "thick", 11), ("NylonLadderModel", 325, "mesh", 12), ("NylonLadderModel", 327, "lined", 13), ("NylonLadderModel", 329, "old", 14), ("NylonLadderModel", 345, "shade", 16), ("NylonLadderModel", 351, "lasts", 17), ("NylonLadderModel", 353, "ladder", 18), ("NylonLadderModel", 357, "to", 19), ("NylonLadderModel", 369, "left", 0), ("NylonLadderModel", 374, "right", 1), ("NylonLadderModel", 376, "step", 2), ("NylonLadderModel", 378, "bend", 3), ("NylonLadderModel", 380, "go", 4), ("NylonLadderModel", 335, "steps", 8), ("NylonLadderModel", 337, "stairs", 5), ("NylonLadderModel", 339, "sits", 6), ("NylonLadderModel", 341, "stands", 7), ("NylonLadderModel", 361, ",", 20), ("NylonLadderModel", 385, "cab", 9), ("NylonLadderModel", 387, ";", 21)]
/-- the class's own static rows: 1 LAWS_AT_FIRST, 2 LEAST_LAWS, 3 GREATEST_LAWS, 4 ABOVE -/
def sRow : Nat → List Int32
  | 1 => [3, 10, 2, 8, 60, 2, 190, 2]
  | 2 => [0, 0, 1, 0, 31, 0, 1, 0]
  | 3 => [9, 20, 5, 30, 100, 99, 999, 10]
  | 4 => [0, 0, 0, 1, 2, 0]
  | _ => []
def sNm : Nat → String
  | 1 => "LAWS_AT_FIRST"
  | 2 => "LEAST_LAWS"
  | 3 => "GREATEST_LAWS"
  | _ => "ABOVE"
def Ev.A (E : Ev) : Nat → Prop := fun q => E.b ≤ q
def XS (E : Ev) (U : State) (H : Heap) : Prop :=
  (∀ i, 1 ≤ i → i ≤ 4 → va_Z "NylonLadder" (sNm i) "[I" (.ref (E.x i)) E.A U H ∧ va_T .int (E.x i) (sRow i).length (fun j => .int ((sRow i).getD j 0)) E.A U H) ∧
  (va_Z "java/lang/Integer$IntegerCache" "high" "I" (.int 127) E.A U H ∧ va_Z "java/lang/Integer$IntegerCache" "cache" "[Ljava/lang/Integer;" (.ref (E.x 5)) E.A U H ∧ va_T (.object "java/lang/Integer") (E.x 5) 256 (fun j => .ref (E.x (1000 + j))) E.A U H) ∧
  (va_Z "java/util/ArrayList" "DEFAULTCAPACITY_EMPTY_ELEMENTDATA" "[Ljava/lang/Object;" (.ref (E.x 0)) E.A U H ∧ va_T (.object "java/lang/Object") (E.x 0) 0 (fun _ => .null) E.A U H) ∧
  va_Z "java/lang/String" "COMPACT_STRINGS" "Z" (.int 1) E.A U H ∧
  va_Zq "jdk/internal/util/Preconditions" "SIOOBE_FORMATTER" "Ljava/util/function/BiFunction;" E.A U H ∧
  vk_S 22 txl txb (fun i => E.x (100 + i)) (fun i => E.x (200 + i)) E.A U H ∧ vb_C (fun k => E.x (1000 + k)) E.A U H
def XT (E : Ev) (U : State) (H : Heap) : Prop :=
  ((∀ w ∈ lw_tbl, isNt w = true → va_Nw w U) ∧ (∀ q ∈ txr, vk_R q.1 q.2.1 q.2.2.1 (E.x (100 + q.2.2.2)) U) ∧ va_AO "NylonLadder$Stocking" U ∧ va_AO "NylonLadder$Way" U ∧ va_AO "NylonLadder$Sheet" U ∧ va_AO "java/lang/Object" U ∧ wAO U ∧ va_Mi "[Ljava/lang/Object;" (E.x 6) U) ∧ XS E U H
theorem XS.go {E : Ev} {s U : State} {H0 H : Heap} (hvm : s.vm.Alike U.vm) (hq : ∀ a : Nat, a < H0.size → ¬ E.A a → H[a]? = H0[a]?) (h : XS E s H0) : XS E U H := by
  obtain ⟨h1, ⟨h2, h3, h4⟩, ⟨h5, h6⟩, h7, h8, h9, h10⟩ := h
  exact ⟨fun i a b => ⟨((h1 i a b).1.kept hq).moved hvm, ((h1 i a b).2.kept hq).moved hvm⟩, ⟨(h2.kept hq).moved hvm, (h3.kept hq).moved hvm, (h4.kept hq).moved hvm⟩, ⟨(h5.kept hq).moved hvm, (h6.kept hq).moved hvm⟩, (h7.kept hq).moved hvm, (h8.kept hq).moved hvm, (h9.kept hq).moved hvm, (h10.kept hq).moved hvm⟩
theorem XT.go {E : Ev} {s U : State} {H0 H : Heap} (hW : s.WarmedH U.vm) (hq : ∀ a : Nat, a < H0.size → ¬ E.A a → H[a]? = H0[a]?) (h : XT E s H0) : XT E U H := by
  obtain ⟨⟨h1, h2, h3, h4, h5, h6, h7, h8⟩, hS⟩ := h
  exact ⟨⟨fun w hw hn => nt_warm hn hW (h1 w hw hn), fun q hm => (h2 q hm).warm hW, h3.moved hW.alike, h4.moved hW.alike, h5.moved hW.alike, h6.moved hW.alike, h7.moved hW.alike, h8.moved hW.alike⟩, hS.go hW.alike hq⟩
/-- a state that holds the world M, seen from outside -/
def St (E : Ev) (M : Mm) (U : State) : Prop := Wd E M U.heap ∧ va_K E.D vwCl (arTys E) U ∧ XT E U U.heap ∧ E.b ≤ U.heap.size
/-- a method's end: its answer v, the world M -/
def Qp (E : Ev) (v : Option Value) (M : Mm) : Array Value → State → Outcome → State → Prop := fun _ st oc t => oc = .returned v ∧ Wd E M t.heap ∧ va_F E.A st t
def rM (f w mc ms : Nat) : Room := { frames := f, cells := mc, slots := ms, locals := w }
/-- THE CONTRACT: from the world M with these arguments y returns v and leaves the world M1 -/
def Ct (l : Launch) (E : Ev) (y : MethodName) (cc : ByteArray) (nL : Nat) (ret : Option FieldType) (f w mc ms : Nat) (av : List Value) (M : Mm) (v : Option Value) (M1 : Mm) : Prop :=
  Met l y (Cond.code y cc nL ret :: gT) (rM f w mc ms) (va_Pc av (St E M)) (Qp E v M1) mc ms E.A
/-- what holds all through a method -/
def Cx (E : Ev) (p : Program) (s : State) (m : MethodId) (args : Array Value) (meth : Method) (c : Code) (cc : ByteArray) (own : String) (nL : Nat) : Prop :=
  p.tables.exec = Jvm.exec ∧ c.code = cc ∧ c.maxLocals = nL ∧ s.vm.findClass own = some m.cls ∧ (∀ w ∈ gT, w.before args s = true) ∧ va_K E.D vwCl (arTys E) s ∧ XT E s s.heap ∧ E.b ≤ s.heap.size ∧ meth.locks = false
/-- what holds at a step -/
def Wx (E : Ev) (s : State) (H : Heap) (locs : List Loc) (M : Mm) : Prop := Wd E M H ∧ va_S E.A s.heap H locs
section CX
variable {E : Ev} {p : Program} {l : Launch} {e : Env} {R : Room} {s : State} {m : MethodId} {args : Array Value} {below : List Frame} {meth : Method} {c : Code} {H : Heap} {locs : List Loc} {cells slots : Nat} {Q : State → Prop} {cc : ByteArray} {own : String} {nL : Nat} {M M1 : Mm}
theorem Cx.x (C : Cx E p s m args meth c cc own nL) : p.tables.exec = Jvm.exec := C.1
theorem Cx.b (C : Cx E p s m args meth c cc own nL) : c.code = cc := C.2.1
theorem Cx.ml (C : Cx E p s m args meth c cc own nL) : c.maxLocals = nL := C.2.2.1
theorem Cx.ow (C : Cx E p s m args meth c cc own nL) : s.vm.findClass own = some m.cls := C.2.2.2.1
theorem Cx.ts (C : Cx E p s m args meth c cc own nL) : ∀ w ∈ gT, w.before args s = true := C.2.2.2.2.1
theorem Cx.K (C : Cx E p s m args meth c cc own nL) : va_K E.D vwCl (arTys E) s := C.2.2.2.2.2.1
theorem Cx.T (C : Cx E p s m args meth c cc own nL) : XT E s s.heap := C.2.2.2.2.2.2.1
theorem Cx.le (C : Cx E p s m args meth c cc own nL) : E.b ≤ s.heap.size := C.2.2.2.2.2.2.2.1
theorem Cx.lk (C : Cx E p s m args meth c cc own nL) : meth.locks = false := C.2.2.2.2.2.2.2.2
/-- a contract out of a walk from the entry -/
theorem ct_of {y : MethodName} {ret : Option FieldType} {f w mc ms : Nat} {av : List Value} {v : Option Value} (hy : plainName y.cls = true) (hn : (lg_sl av).length ≤ nL)
    (body : ∀ p e s m args below meth c, Cx E p s m args meth c cc y.cls nL → meth.sig.returnType = ret → (y.name = "<init>" → meth.name = "<init>") → Wx E s s.heap [] M → ∀ ls : Array Slot, lv_has ls nL (lv_args 0 av) → W p l e (rM f w mc ms) s m args below meth c s.heap [] 0 0 (MQ below (Qp E v M1) args s mc ms E.A) (F0 m 0 ls [])) : Ct l E y cc nL ret f w mc ms av M v M1 := by
  refine Met.ofW (cc := cc) (maxL := nL) (ret := ret) hy rfl ?_
  intro p e s m args below meth c s₁ B hml hv
  obtain ⟨rfl, hW, hK, hX, hle⟩ := hv
  have hts := atoms_spec (ws := Cond.code y cc nL ret :: gT) B.pre
  have hl := lv_entry av (n := nL) hn
  rw [lg_entry_eq]
  exact body p e s m _ below meth c ⟨B.exec, B.bytes, hml, findClass_of_methodNamed B.named, fun w hw => hts w (List.mem_cons_of_mem _ hw), hK, hX, hle, B.notSynchronized⟩ B.returns (fun h => (name_of_methodNamed B.named B.method).1.trans h) ⟨hW, va_S.rf⟩ _ hl
theorem x_fr {s t : State} {H : Heap} {locs : List Loc} (hW : Wx E s H locs M) (ht : t.heap = H) {v : Option Value} {a : Array Value} : Qp E v M a s (.returned v) t := ⟨rfl, by rw [ht]; exact hW.1, hW.2.F ht⟩
theorem x_iret (C : Cx E p s m args meth c cc own nL) (hr : meth.sig.returnType = some .int) (hW : Wx E s H locs M) {v : Int32} {pc : Nat} {ls : Array Slot} (hdg : decode cc pc = .ok (.ireturn, 1)) : W p l e R s m args below meth c H locs cells slots (MQ below (Qp E (some (.int v)) M) args s cells slots E.A) (F0 m pc ls [.int v]) :=
  W.iret C.x C.b hr (fun _ ht _ => x_fr hW ht) hW.2.2.2 hdg C.lk
theorem x_zret (C : Cx E p s m args meth c cc own nL) (hr : meth.sig.returnType = some .boolean) (hW : Wx E s H locs M) {v w : Int32} {pc : Nat} {ls : Array Slot} (hz : bz v = some w) (hdg : decode cc pc = .ok (.ireturn, 1)) : W p l e R s m args below meth c H locs cells slots (MQ below (Qp E (some (.int w)) M) args s cells slots E.A) (F0 m pc ls [.int v]) := by
  unfold bz at hz
  split at hz
  · rename_i h
    cases hz
    exact W.zret C.x C.b hr (by rcases h with rfl | rfl <;> rfl) (fun _ ht _ => x_fr hW ht) hW.2.2.2 hdg C.lk
  · cases hz
theorem x_lret (C : Cx E p s m args meth c cc own nL) (hr : meth.sig.returnType = some .long) (hW : Wx E s H locs M) {v : Int64} {pc : Nat} {ls : Array Slot} (hdg : decode cc pc = .ok (.lreturn, 1)) : W p l e R s m args below meth c H locs cells slots (MQ below (Qp E (some (.long v)) M) args s cells slots E.A) (F0 m pc ls [.long v]) :=
  W.lret C.x C.b hr (fun _ ht _ => x_fr hW ht) hW.2.2.2 hdg C.lk
theorem x_vret (C : Cx E p s m args meth c cc own nL) (hr : meth.sig.returnType = none) (hW : Wx E s H locs M) {pc : Nat} {ls : Array Slot} (hdg : decode cc pc = .ok (.return_, 1)) : W p l e R s m args below meth c H locs cells slots (MQ below (Qp E none M) args s cells slots E.A) (F0 m pc ls []) :=
  W.vret C.x C.b hr (fun _ ht _ => x_fr hW ht) hW.2.2.2 hdg C.lk
end CX
