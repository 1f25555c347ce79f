/-! null and not; switches; shifts; what is left of the locals. -/
def NL {α : Type} (r : Option Nat) (a : Option α) (b : Nat → Option α) : Option α := match r with
  | none => a
  | some x => b x
theorem x_nl {α : Type} {r : Option Nat} {a : Option α} {b : Nat → Option α} {z : α} (h : NL r a b = some z) : (r = none ∧ a = some z) ∨ ∃ x, r = some x ∧ b x = some z := by
  cases r with
  | none => exact Or.inl ⟨rfl, h⟩
  | some x => exact Or.inr ⟨x, rfl, h⟩
def gk (M : Mm) (a kd : Nat) : Option Unit := if M.k a = kd then some () else none
theorem x_gk {M : Mm} {a kd : Nat} {u : Unit} (h : gk M a kd = some u) : M.k a = kd := by
  unfold gk at h
  split at h
  · assumption
  · cases h
def ushI (x y : Int32) : Int32 := (x.toUInt32 >>> (y.toUInt32 &&& Int32.toUInt32 31)).toInt32
def ushL (x : Int64) (y : Int32) : Int64 := (x.toUInt64 >>> (y.toInt64.toUInt64 &&& Int64.toUInt64 63)).toInt64
def shL (x : Int64) (y : Int32) : Int64 := x >>> (y.toInt64 &&& 63)
def slL (x : Int64) (y : Int32) : Int64 := x <<< (y.toInt64 &&& 63)
/-- how often a loop may run -/
def FL : Nat := 4096
section EXTRA
variable {E : Ev} {p : Program} {l : Launch} {e : Env} {R : Room} {s : State} {m : MethodId} {args : Array Value} {below : List Frame} {meth : Method} {c : Code} {H : Heap} {locs : List Loc} {cells slots : Nat} {Q : State → Prop} {cc : ByteArray} {own : String} {nL : Nat} {M M1 : Mm} {pc : Nat} {ls : Array Slot} {rest : List Value} {idx : Nat}
theorem x_aload_n (C : Cx E p s m args meth c cc own nL) {k : Fin 4} {i : Nat} {r : Option Nat} (hdg : decode cc pc = .ok (.aload_n k, 1)) (hi : (k : Nat) = i) (hl : ls[i]? = some (.val (rv E.b r)))
    (kk : W p l e R s m args below meth c H locs cells slots Q (F0 m (pc + 1) ls (rv E.b r :: rest))) : W p l e R s m args below meth c H locs cells slots Q (F0 m pc ls rest) := by
  cases r with
  | none => exact lv_aload_nN C.x C.b hdg hi hl kk
  | some o => exact lv_aload_n C.x C.b hdg hi hl kk
theorem x_aload (C : Cx E p s m args meth c cc own nL) {i : Nat} {r : Option Nat} (hdg : decode cc pc = .ok (.aload i, 2)) (hl : ls[i]? = some (.val (rv E.b r)))
    (kk : W p l e R s m args below meth c H locs cells slots Q (F0 m (pc + 2) ls (rv E.b r :: rest))) : W p l e R s m args below meth c H locs cells slots Q (F0 m pc ls rest) := by
  cases r with
  | none => exact lv_aloadN C.x C.b hdg hl kk
  | some o => exact lv_aload C.x C.b hdg hl kk
theorem x_astore_n (C : Cx E p s m args meth c cc own nL) {k : Fin 4} {i : Nat} {r : Option Nat} {lv lv' : List (Nat × Value)} (hdg : decode cc pc = .ok (.astore_n k, 1)) (hi : (k : Nat) = i) (h : lv_has ls nL lv) (hn : i < nL) (hl : (i, rv E.b r) :: lv.filter (fun q => !(q.1 == i) && !(q.1 + 1 == i && q.2.category == 2)) = lv')
    (kk : ∀ ls' : Array Slot, lv_has ls' nL lv' → W p l e R s m args below meth c H locs cells slots Q (F0 m (pc + 1) ls' rest)) : W p l e R s m args below meth c H locs cells slots Q (F0 m pc ls (rv E.b r :: rest)) := by
  cases r with
  | none => exact lv_astore_nN C.x C.b hdg hi h hn hl kk
  | some o => exact lv_astore_n C.x C.b hdg hi h hn hl kk
theorem x_astore (C : Cx E p s m args meth c cc own nL) {i : Nat} {r : Option Nat} {lv lv' : List (Nat × Value)} (hdg : decode cc pc = .ok (.astore i, 2)) (h : lv_has ls nL lv) (hn : i < nL) (hl : (i, rv E.b r) :: lv.filter (fun q => !(q.1 == i) && !(q.1 + 1 == i && q.2.category == 2)) = lv')
    (kk : ∀ ls' : Array Slot, lv_has ls' nL lv' → W p l e R s m args below meth c H locs cells slots Q (F0 m (pc + 2) ls' rest)) : W p l e R s m args below meth c H locs cells slots Q (F0 m pc ls (rv E.b r :: rest)) := by
  cases r with
  | none => exact lv_astoreN C.x C.b hdg h hn hl kk
  | some o => exact lv_astore C.x C.b hdg h hn hl kk
theorem x_aret (C : Cx E p s m args meth c cc own nL) {rt : FieldType} (hr : meth.sig.returnType = some rt) (hrt : (∃ n, rt = .object n) ∨ ∃ t, rt = .array t) (hW : Wx E s H locs M) {r : Option Nat} {pc : Nat} {ls : Array Slot} (hdg : decode cc pc = .ok (.areturn, 1)) : W p l e R s m args below meth c H locs cells slots (MQ below (Qp E (some (rv E.b r)) M) args s cells slots E.A) (F0 m pc ls [rv E.b r]) :=
  W.aret C.x C.b hr hrt (rv_or _ _) (fun _ ht _ => x_fr hW ht) hW.2.2.2 hdg C.lk
theorem x_sret (C : Cx E p s m args meth c cc own nL) {rt : FieldType} (hr : meth.sig.returnType = some rt) (hrt : (∃ n, rt = .object n) ∨ ∃ t, rt = .array t) (hW : Wx E s H locs M) {q : Nat} {pc : Nat} {ls : Array Slot} (hdg : decode cc pc = .ok (.areturn, 1)) : W p l e R s m args below meth c H locs cells slots (MQ below (Qp E (some (.ref q)) M) args s cells slots E.A) (F0 m pc ls [.ref q]) :=
  W.aret C.x C.b hr hrt (Or.inr ⟨q, rfl⟩) (fun _ ht _ => x_fr hW ht) hW.2.2.2 hdg C.lk
theorem x_newa (C : Cx E p s m args meth c cc own nL) (hW : Wx E s H locs M) {B : Nat} {n : Int32} (hr : nwA M 21 B n = some M1) (hw : Cond.arrayClass .int ∈ gT) (hB : B * 4 ≤ 536870912) (hcs : cells + 1 ≤ R.cells ∧ slots + B ≤ R.slots) (hdg : decode cc pc = .ok (.newarray .int, 2))
    (kk : ∀ H1 : Heap, Wx E s H1 locs M1 → W p l e R s m args below meth c H1 locs (cells + 1) (slots + B) Q (F0 m (pc + 2) ls (.ref (E.b + M.n) :: rest))) : W p l e R s m args below meth c H locs cells slots Q (F0 m pc ls (.int n :: rest)) := by
  unfold nwA at hr
  split at hr
  · rename_i h
    cases hr
    have hb : n.toNatClampNeg * componentBytes .int ≤ 536870912 := Nat.le_trans (Nat.mul_le_mul_right 4 h.2) hB
    refine va_newaK (atype := .int) C.x C.b (C.ts _ hw) (g := F0 m pc ls (.int n :: rest)) rfl hdg rfl (nn0 h.1) rfl hb hcs.1 (Nat.le_trans (Nat.add_le_add_left h.2 _) hcs.2) hW.1.1 fun H1 cA e1 z1 o1 hAr hNm => ?_
    have hcy : cA = E.cy 21 := by
      have h2 := (C.K.2 0 _ rfl).2
      exact Option.some.inj (hNm.symm.trans h2)
    refine W.widen (k := cells + 1) (n := slots + B) (Nat.le_refl _) (Nat.add_le_add_left h.2 _) (kk H1 (Wx.new C.le hW (by rw [z1, hW.1.1]) (fun q hq => o1 q (by rw [← hW.1.1]; exact hq)) (fun _ => ?_)))
    have hk : (M.nw 21 n.toNatClampNeg).k M.n = 21 := va_up_self _ _ _
    have hg : (M.nw 21 n.toNatClampNeg).g M.n = fun _ => 0 := va_up_self _ _ _
    have hle : (M.nw 21 n.toNatClampNeg).len M.n = n.toNatClampNeg := va_up_self _ _ _
    rw [cellE_i hk, hg, hle]
    show H1[E.b + M.n]? = some (vp_cell _ _)
    rw [vp_cell_i, e1, hcy]
    rfl
  · cases hr
theorem x_newl (C : Cx E p s m args meth c cc own nL) (hW : Wx E s H locs M) {B : Nat} {n : Int32} (hr : nwA M 22 B n = some M1) (hw : Cond.arrayClass .long ∈ gT) (hB : B * 8 ≤ 536870912) (hcs : cells + 1 ≤ R.cells ∧ slots + B ≤ R.slots) (hdg : decode cc pc = .ok (.newarray .long, 2))
    (kk : ∀ H1 : Heap, Wx E s H1 locs M1 → W p l e R s m args below meth c H1 locs (cells + 1) (slots + B) Q (F0 m (pc + 2) ls (.ref (E.b + M.n) :: rest))) : W p l e R s m args below meth c H locs cells slots Q (F0 m pc ls (.int n :: rest)) := by
  unfold nwA at hr
  split at hr
  · rename_i h
    cases hr
    have hb : n.toNatClampNeg * componentBytes .long ≤ 536870912 := Nat.le_trans (Nat.mul_le_mul_right 8 h.2) hB
    refine va_newaK (atype := .long) C.x C.b (C.ts _ hw) (g := F0 m pc ls (.int n :: rest)) rfl hdg rfl (nn0 h.1) rfl hb hcs.1 (Nat.le_trans (Nat.add_le_add_left h.2 _) hcs.2) hW.1.1 fun H1 cA e1 z1 o1 hAr hNm => ?_
    have hcy : cA = E.cy 22 := by
      have h2 := (C.K.2 1 _ rfl).2
      exact Option.some.inj (hNm.symm.trans h2)
    refine W.widen (k := cells + 1) (n := slots + B) (Nat.le_refl _) (Nat.add_le_add_left h.2 _) (kk H1 (Wx.new C.le hW (by rw [z1, hW.1.1]) (fun q hq => o1 q (by rw [← hW.1.1]; exact hq)) (fun _ => ?_)))
    have hk : (M.nw 22 n.toNatClampNeg).k M.n = 22 := va_up_self _ _ _
    have hg : (M.nw 22 n.toNatClampNeg).l M.n = fun _ => 0 := va_up_self _ _ _
    have hle : (M.nw 22 n.toNatClampNeg).len M.n = n.toNatClampNeg := va_up_self _ _ _
    rw [cellE_j hk, hg, hle]
    show H1[E.b + M.n]? = some (vp_cell _ _)
    rw [vp_cell_l, e1, hcy]
    rfl
  · cases hr
theorem x_newq (C : Cx E p s m args meth c cc own nL) (hW : Wx E s H locs M) {B kd : Nat} {Cn : String} {n : Int32} (hr : nwA M kd B n = some M1) (h1 : 23 ≤ kd) (h2 : kd ≤ 25) (hty : arTy kd = .object Cn) (hao : va_AO Cn s) (hcl : Cond.classLink own idx Cn ∈ gT) (hB : B * 4 ≤ 536870912) (hcs : cells + 1 ≤ R.cells ∧ slots + B ≤ R.slots) (hdg : decode cc pc = .ok (.anewarray idx, 3))
    (kk : ∀ H1 : Heap, Wx E s H1 locs M1 → W p l e R s m args below meth c H1 locs (cells + 1) (slots + B) Q (F0 m (pc + 3) ls (.ref (E.b + M.n) :: rest))) : W p l e R s m args below meth c H locs cells slots Q (F0 m pc ls (.int n :: rest)) := by
  unfold nwA at hr
  split at hr
  · rename_i h
    cases hr
    have hb : n.toNatClampNeg * 4 ≤ 536870912 := Nat.le_trans (Nat.mul_le_mul_right 4 h.2) hB
    refine W.anew C.x C.b C.ow (C.ts _ hcl) (va_AO.use hao) (g := F0 m pc ls (.int n :: rest)) rfl hdg rfl (nn0 h.1) hb hcs.1 (Nat.le_trans (Nat.add_le_add_left h.2 _) hcs.2) fun cA kA comp f1 f2 f3 f4 => ?_
    have hcy : cA = E.cy kd := by
      rcases (show kd = 23 ∨ kd = 24 ∨ kd = 25 by omega) with rfl | rfl | rfl
      · obtain ⟨_, _, _, _, _, h9⟩ := (C.K.2 2 _ rfl).2; cases hty; exact Option.some.inj (f1.symm.trans h9)
      · obtain ⟨_, _, _, _, _, h9⟩ := (C.K.2 3 _ rfl).2; cases hty; exact Option.some.inj (f1.symm.trans h9)
      · obtain ⟨_, _, _, _, _, h9⟩ := (C.K.2 4 _ rfl).2; cases hty; exact Option.some.inj (f1.symm.trans h9)
    generalize hH1 : H.push ({ cls := cA, slots := Array.replicate n.toNatClampNeg .null, vm := .none } : Cell) = H1
    have z1 : H1.size = H.size + 1 := by rw [← hH1, Array.size_push]
    have e1 : H1[H.size]? = some (arrV cA n.toNatClampNeg (fun _ => .null)) := by rw [← hH1, Array.getElem?_push_size, ← arrV_new]
    have o1 : ∀ q : Nat, q < H.size → H1[q]? = H[q]? := fun q hq => by rw [← hH1, Array.getElem?_push, if_neg (Nat.ne_of_lt hq)]
    rw [hW.1.1]
    refine W.widen (k := cells + 1) (n := slots + B) (Nat.le_refl _) (Nat.add_le_add_left h.2 _) (kk H1 (Wx.new C.le hW z1 o1 (fun _ => ?_)))
    have hk : (M.nw kd n.toNatClampNeg).k M.n = kd := va_up_self _ _ _
    have hg : (M.nw kd n.toNatClampNeg).r M.n = fun _ => none := va_up_self _ _ _
    have hle : (M.nw kd n.toNatClampNeg).len M.n = n.toNatClampNeg := va_up_self _ _ _
    rw [cellE_q hk h1 (by omega), hg, hle]
    show H1[E.b + M.n]? = some (vp_cell _ _)
    rw [vp_cell_q, ← hW.1.1, e1, hcy]
    rfl
  · cases hr
end EXTRA
