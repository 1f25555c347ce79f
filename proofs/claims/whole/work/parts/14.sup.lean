/-! super.m(..) where the superclass inherits m -/
def sup_ws (own owner : String) (idx : Nat) (x y : MethodName) (ws : List Cond) : List Cond := ([.methodLink own idx x, .sameMethod x.cls owner x.name x.desc, .superclass own x.cls, .superclass x.cls owner, .instanceMethod y, .initialized y.cls] : List Cond) ++ ws
theorem good_SX {own owner : String} {idx : Nat} {x y : MethodName} {w : Cond} (h1 : Cond.methodLink own idx x ∈ gT) (h2 : Cond.sameMethod x.cls owner x.name x.desc ∈ gT) (h3 : Cond.superclass own x.cls ∈ gT) (h7 : Cond.superclass x.cls owner ∈ gT) (h4 : Cond.instanceMethod y ∈ gT) (h6 : Cond.initialized y.cls ∈ gT) (h5 : w ∈ gT) : GoodIn gT (sup_ws own owner idx x y (w :: gT)) := by
  refine good_app (fun x hx => ?_) (good_code h5)
  simp only [List.mem_cons, List.not_mem_nil, or_false] at hx
  rcases hx with rfl | rfl | rfl | rfl | rfl | rfl <;> assumption
section SUP
variable {E : Ev} {p : Program} {l : Launch} {e : Env} {R : Room} {s : State} {m : MethodId} {args : Array Value} {below : List Frame} {meth : Method} {c : Code} {H : Heap} {locs : List Loc} {cells slots : Nat} {Q : State → Prop} {cc : ByteArray} {own : String} {nL : Nat} {M M1 : Mm} {pc : Nat} {ls : Array Slot} {rest st0 : List Value} {idx : Nat}
variable {y x : MethodName} {cb : ByteArray} {nL1 f w mc ms n : Nat} {ret : Option FieldType} {As : List Value} {v : Option Value}
theorem x_callSX (C : Cx E p s m args meth c cc own nL) (hW : Wx E s H locs M) {a kd : Nat} {q : vw_C} {owner : String} {lv : List (Nat × Value)} (hl : lv_has ls nL lv) (hc : Ct l E y cb nL1 ret f w mc ms (.ref (E.b + a) :: As) M v M1)
    (hk : M.k a = kd) (h0 : kd ≠ 0) (h20 : kd ≤ 20) (hcl : vwCl[kd - 1]? = some q) (hG : GoodIn gT (sup_ws own owner idx x y (Cond.code y cb nL1 ret :: gT)))
    (hyx : y = ⟨owner, x.name, x.desc⟩) (hd : y.name ≠ "<init>" ∧ (parseMethodDescriptor y.desc).map (fun d => d.parameters.length) = some n) (hn : As.length = n) (hst : st0 = As.reverse ++ .ref (E.b + a) :: rest) (hrest : (rest.map fun v => v.category).sum ≤ 8) (hdg : decode cc pc = .ok (.invokespecial idx, 3))
    (hf : f + 1 ≤ R.frames ∧ 8 + (nL1 + 11) + w ≤ R.locals) (hcs : cells + mc ≤ R.cells ∧ slots + ms ≤ R.slots)
    (kk : ∀ (H1 : Heap) (locs1 : List Loc), Wx E s H1 locs1 M1 → W p l e R s m args below meth c H1 locs1 (cells + mc) (slots + ms) Q (F0 m (pc + 3) ls (psh v rest))) : W p l e R s m args below meth c H locs cells slots Q (F0 m pc ls st0) := by
  refine x_goon (mc := mc) (ms := ms) (v := v) (M1 := M1) (a := (Value.ref (E.b + a) :: As).toArray) C hW ?_ kk
  have hp : PreV s H q.1 (E.b + a) _ As := ⟨St.blind, x_recv C hW hk h0 h20 hcl, fun U hU hw => ⟨rfl, C.St hW hU hw⟩⟩
  have ht := C.ts
  have ok : ∀ w ∈ sup_ws own owner idx x y (Cond.code y cb nL1 ret :: gT), w.before args s = true := fun w h => ht w (hG w h).1
  have hGw : GoodIn gT (Cond.code y cb nL1 ret :: gT) := fun w h => hG w (by unfold sup_ws; exact List.mem_append_right _ h)
  have hcw : Cond.code y cb nL1 ret ∈ (Cond.code y cb nL1 ret :: gT) := List.mem_cons_self
  have hini : (Cond.initialized y.cls).before args s = true := ok _ (by simp [sup_ws])
  have hcode : (Cond.code y cb nL1 ret).before args s = true := ht _ (hGw _ hcw).1
  have hK : Back l R p e below s args y 3 8 (PreOf R mc ms (va_Pc (.ref (E.b + a) :: As) (St E M))) (PostOf (Qp E v M1) mc ms E.A) := back_of (bytes := cb) (maxL := nL1) (ret := ret) hc hp.1 rfl rfl hf.1 hf.2 (pay_in ht hGw) hcw (fun a' U hW => word_at hW (Or.inl (by first | rfl | simp [Cond.onTables, Cond.keeps, Cond.steady])) hini)
  obtain ⟨-, ⟨cellB, hcB, hoB, hclB⟩, hPc⟩ := hp
  obtain ⟨kB, hkB, -⟩ := Vm.findClass_spec hclB
  obtain ⟨mk, methM, hnamed, hmethM, hstM, habM⟩ := Cond.instanceMethod_spec (ok (.instanceMethod y) (by simp [sup_ws]))
  obtain ⟨methM', cM, hmethM', -, -, -, -, -, -, hsigM⟩ := Cond.code_spec hnamed hcode
  cases hmethM.symm.trans hmethM'
  obtain ⟨ps, dk, kp, hps, hdk, hkp, hsuper, -, -, hnid⟩ := Cond.superclass_spec C.ow (ok (.superclass own x.cls) (by simp [sup_ws]))
  obtain ⟨ps2, dk2, kp2, hps2, hdk2, hkp2, hsuper2, -, -, -⟩ := Cond.superclass_spec hps (ok (.superclass x.cls owner) (by simp [sup_ws]))
  have hn' : s.methodNamed? ⟨owner, x.name, x.desc⟩ = some mk := by rw [← hyx]; exact hnamed
  have hpm : ps2 = mk.cls := Option.some.inj (hps2.symm.trans (findClass_of_methodNamed hn'))
  have hsub : s.vm.isSubclass ps mk.cls = true := by
    have hz : 0 < s.vm.classes.size := Nat.lt_of_le_of_lt (Nat.zero_le _) (Array.getElem?_eq_some_iff.mp hdk2).1
    rw [← hpm]
    obtain ⟨z, hz⟩ : ∃ z, s.vm.classes.size = z + 1 := ⟨s.vm.classes.size - 1, by omega⟩
    unfold Vm.isSubclass
    rw [hz]
    simp [Vm.isSubclassAux, hdk2, hsuper2]
  intro T hT X
  have hWc : 2 * (F0 m pc ls st0).monitorRoom + (rest.map fun v => v.category).sum ≤ 8 := lv_room hrest
  obtain ⟨vm₁, X₁, hstep₁⟩ := X.invokespecialUp C.x C.ow (ok (.methodLink own idx x) (by simp [sup_ws])) (ok (.sameMethod x.cls owner x.name x.desc) (by simp [sup_ws])) hn' hmethM hstM habM (by rw [show x.name = y.name by rw [hyx]]; exact hd.1) hdk hnid hps hsuper hsub (a := E.b + a) (cell := cellB) (by rw [hT]; exact hcB)
    (fun z h => by rw [h] at hoB; cases hoB) hkB (g := F0 m pc ls st0) rfl (argsL := As) (rest := rest) (by
      have h2 := hd.2
      rw [hsigM] at h2
      exact hn.trans (Option.some.inj h2).symm) hst (by rw [C.b]; exact hdg)
  obtain ⟨v', B, X', ⟨g', mk', t, L, e1, e2, hq, h1, hL, h2, h3⟩, hsteps⟩ := hK m meth c ⟨T.setVm vm₁, locs, cells, slots⟩ { F0 m pc ls st0 with stack := rest } (.invokespecial idx) mk (Value.ref (E.b + a) :: As).toArray X₁ rfl (by show ls.size = _; rw [C.ml]; exact hl.1) (by rw [C.b]; exact hdg) hWc (X₁.named hnamed) ⟨hcs.1, hcs.2, hPc (T.setVm vm₁) hT X₁.warmed⟩
  obtain ⟨U', l2, c2, s2⟩ := B
  dsimp only [Pt.U, Pt.locs, Pt.cells, Pt.slots] at X' e1 e2 h1 h2 h3 hsteps
  subst h1; subst h2; subst h3
  exact ⟨v', (T.setVm vm₁).calling g' mk' (Value.ref (E.b + a) :: As).toArray, t, U', L, hT, X', hL, e1, e2, hq, fun target h => hstep₁ _ (by rw [doInvoke_state]; exact hsteps.trans h)⟩
end SUP
