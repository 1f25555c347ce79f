section WORLD0
/-! THE WORLD AT THE LAW'S ENTRY -/
def mkX (tA : Nat) (tR : Nat → Nat) (tC mi : Nat) (aK aV aI : Nat → Nat) : Nat → Nat := fun n => if n = 0 then tA else if n ≤ 4 then tR n else if n = 5 then tC else if n = 6 then mi else if 1000 ≤ n then aI (n - 1000) else if 200 ≤ n then aV (n - 200) else aK (n - 100)
section MKX
variable {tA : Nat} {tR : Nat → Nat} {tC mi : Nat} {aK aV aI : Nat → Nat}
theorem mkX_R {i : Nat} (h1 : 1 ≤ i) (h4 : i ≤ 4) : mkX tA tR tC mi aK aV aI i = tR i := by
  unfold mkX
  rw [if_neg (by omega), if_pos h4]
theorem mkX_K {i : Nat} (h : i < 22) : mkX tA tR tC mi aK aV aI (100 + i) = aK i := by
  unfold mkX
  rw [if_neg (by omega), if_neg (by omega), if_neg (by omega), if_neg (by omega), if_neg (by omega), if_neg (by omega), show 100 + i - 100 = i by omega]
theorem mkX_V {i : Nat} (h : i < 22) : mkX tA tR tC mi aK aV aI (200 + i) = aV i := by
  unfold mkX
  rw [if_neg (by omega), if_neg (by omega), if_neg (by omega), if_neg (by omega), if_neg (by omega), if_pos (by omega), show 200 + i - 200 = i by omega]
theorem mkX_I (i : Nat) : mkX tA tR tC mi aK aV aI (1000 + i) = aI i := by
  unfold mkX
  rw [if_neg (by omega), if_neg (by omega), if_neg (by omega), if_neg (by omega), if_pos (by omega), show 1000 + i - 1000 = i by omega]
end MKX
def mkC (c1 c2 c3 c4 c5 c6 c7 : Nat) : Nat → Nat := fun n => if n = 21 then c1 else if n = 22 then c2 else if n = 23 then c3 else if n = 24 then c4 else if n = 25 then c5 else if n = 26 then c6 else c7
theorem nt_on : ∀ w : Cond, isNt w = true → w.onTables = true := by
  intro w h
  cases w <;> first | rfl | cases h
theorem vk_S.cg {N : Nat} {len : List Nat} {byt : List (List Int32)} {adK adV aK' aV' : Nat → Nat} {A : Nat → Prop} {U : State} {H : Heap} (e1 : ∀ i, i < N → aK' i = adK i) (e2 : ∀ i, i < N → aV' i = adV i) (h : vk_S N len byt adK adV A U H) : vk_S N len byt aK' aV' A U H :=
  ⟨fun i hi => by rw [e1 i hi, e2 i hi]; exact h.1 i hi, fun i j hi hj e => h.2 i j hi hj (by rw [← e1 i hi, ← e1 j hj]; exact e)⟩
theorem wld_cls {s : State} {b : Nat} (ts : ∀ w ∈ gT, w.before #[Value.ref b] s = true) : ∃ f : Nat → ClassId × (Nat → Nat), ∀ (k : Nat) (r : vw_C), vwCl[k]? = some r → u_Kn s r.1 r.2.1 r.2.2 (f k).1 (f k).2 := by
  have h0 : ∀ k : Nat, ∃ q : ClassId × (Nat → Nat), ∀ r : vw_C, vwCl[k]? = some r → u_Kn s r.1 r.2.1 r.2.2 q.1 q.2 := by
    intro k
    match k with
    | 0 =>
      obtain ⟨c, i, h⟩ := u_known (C := RJ6) (T := TJ6) (N := 1) (n := 1) ts (by decide +kernel) (ts _ T_5_73)
      exact ⟨(c, i), fun r hr => by cases hr; exact h⟩
    | 1 =>
      obtain ⟨c, i, h⟩ := u_known (C := RJx4a65c) (T := TJx4a65c) (N := 3) (n := 3) ts gxJx4a65c (ts _ T_1_205)
      exact ⟨(c, i), fun r hr => by cases hr; exact h⟩
    | 2 =>
      obtain ⟨c, i, h⟩ := u_known (C := RX0) (T := TX0) (N := 6) (n := 6) ts gxX0 (ts _ T_1_38)
      exact ⟨(c, i), fun r hr => by cases hr; exact h⟩
    | 3 =>
      obtain ⟨c, i, h⟩ := u_known (C := RX1) (T := TX1) (N := 4) (n := 4) ts gxX1 (ts _ T_5_29)
      exact ⟨(c, i), fun r hr => by cases hr; exact h⟩
    | 4 =>
      obtain ⟨c, i, h⟩ := u_known (C := RX2) (T := TX2) (N := 4) (n := 4) ts gxX2 (ts _ T_5_18)
      exact ⟨(c, i), fun r hr => by cases hr; exact h⟩
    | 5 =>
      obtain ⟨c, i, h⟩ := u_known (C := RX3) (T := TX3) (N := 4) (n := 4) ts gxX3 (ts _ T_5_40)
      exact ⟨(c, i), fun r hr => by cases hr; exact h⟩
    | 6 =>
      obtain ⟨c, i, h⟩ := u_known (C := RX4) (T := TX4) (N := 4) (n := 4) ts gxX4 (ts _ T_5_51)
      exact ⟨(c, i), fun r hr => by cases hr; exact h⟩
    | 7 =>
      obtain ⟨c, i, h⟩ := u_known (C := RX5) (T := TX5) (N := 4) (n := 4) ts gxX5 (ts _ T_4_202)
      exact ⟨(c, i), fun r hr => by cases hr; exact h⟩
    | 8 =>
      obtain ⟨c, i, h⟩ := u_known (C := RX6) (T := TX6) (N := 2) (n := 2) ts gxX6 (ts _ T_4_140)
      exact ⟨(c, i), fun r hr => by cases hr; exact h⟩
    | 9 =>
      obtain ⟨c, i, h⟩ := u_known (C := RX7) (T := TX7) (N := 11) (n := 11) ts gxX7 (ts _ T_1_70)
      exact ⟨(c, i), fun r hr => by cases hr; exact h⟩
    | 10 =>
      obtain ⟨c, i, h⟩ := u_known (C := RX8) (T := TX8) (N := 9) (n := 9) ts gxX8 (ts _ T_1_163)
      exact ⟨(c, i), fun r hr => by cases hr; exact h⟩
    | 11 =>
      obtain ⟨c, i, h⟩ := u_known (C := RX9) (T := TX9) (N := 4) (n := 4) ts gxX9 (ts _ T_5_7)
      exact ⟨(c, i), fun r hr => by cases hr; exact h⟩
    | 12 =>
      obtain ⟨c, i, h⟩ := u_known (C := RX10) (T := TX10) (N := 3) (n := 3) ts gxX10 (ts _ T_1_47)
      exact ⟨(c, i), fun r hr => by cases hr; exact h⟩
    | 13 =>
      obtain ⟨c, i, h⟩ := u_known (C := RX11) (T := TX11) (N := 12) (n := 12) ts gxX11 (ts _ T_1_30)
      exact ⟨(c, i), fun r hr => by cases hr; exact h⟩
    | 14 =>
      obtain ⟨c, i, h⟩ := u_known (C := RX12) (T := TX12) (N := 25) (n := 25) ts gxX12 (ts _ T_6_38)
      exact ⟨(c, i), fun r hr => by cases hr; exact h⟩
    | n + 15 => exact ⟨(0, fun _ => 0), fun r hr => by simp [vwCl] at hr⟩
  exact Classical.axiomOfChoice h0
theorem wld_start {p : Program} {s : State} {m : MethodId} {meth : Method} {c : Code} {b L : Nat} {xs : Nat → Int32} (C0 : lw_At p s m meth c b L xs) : ∃ E : Ev, LwS E p s m meth c b L xs ∧ Wx E s s.heap [] M00 := by
  obtain ⟨hx, hb, hr, hml, hown, hts, hX, hbl, hlocks, hgv⟩ := C0
  have ts : ∀ w ∈ gT, w.before #[Value.ref b] s = true := fun w hw => hts w (gT_sub w hw)
  have fl : ∀ w ∈ flg, w.before #[Value.ref b] s = true := flat_of_before _ hgv
  have hA : ∀ a : Nat, a < s.heap.size → ¬ (fun q : Nat => s.heap.size ≤ q) a := fun a h1 h2 => absurd (Nat.lt_of_lt_of_le h1 h2) (Nat.lt_irrefl _)
  obtain ⟨aK, aV, kS, kE⟩ := xt_txt (A := fun q : Nat => s.heap.size ≤ q) fl hA
  obtain ⟨tR, hR⟩ := xt_row (A := fun q : Nat => s.heap.size ≤ q) fl hts hA
  have hlen : (Term.length (Term.static "java/lang/Integer$IntegerCache" "cache" "[Ljava/lang/Integer;")).eval #[Value.ref b] s none [] s = some (.int (Int32.ofNat 256)) := va_eqt (fl _ (by decide +kernel))
  obtain ⟨aI, hC, hCe⟩ := vb_Cof (A := fun q : Nat => s.heap.size ≤ q) (st := Term.static "java/lang/Integer$IntegerCache" "cache" "[Ljava/lang/Integer;") rfl hlen (fl _ (by decide +kernel)) hA
  obtain ⟨tC, c1, c2⟩ := va_Tof (A := fun q : Nat => s.heap.size ≤ q) (ty := .object "java/lang/Integer") (f := fun j => .ref (aI j)) (by decide) (fl _ (by decide +kernel)) hlen hCe hA
  have hl0 : (Term.length (Term.static "java/util/ArrayList" "DEFAULTCAPACITY_EMPTY_ELEMENTDATA" "[Ljava/lang/Object;")).eval #[Value.ref b] s none [] s = some (.int (Int32.ofNat 0)) := va_eqt (fl _ (by decide +kernel))
  obtain ⟨tA, a1, a2⟩ := va_Tof (A := fun q : Nat => s.heap.size ≤ q) (ty := .object "java/lang/Object") (f := fun _ => .null) (by decide) (fl _ (by decide +kernel)) hl0 (fun j hj => absurd hj (Nat.not_lt_zero j)) hA
  obtain ⟨mi, hMi⟩ := va_Mi.of (args := #[Value.ref b]) (s := s) (C := "[Ljava/lang/Object;") (fl _ (by decide +kernel))
  obtain ⟨f, hf⟩ := wld_cls ts
  obtain ⟨y1, p1, p2⟩ := ar_prim (ty := .int) (ts _ T_1_69)
  obtain ⟨y2, q1, q2⟩ := ar_prim (ty := .long) (ts _ T_4_155)
  have o3 : va_AO "NylonLadder$Stocking" s := va_AO.of (hts _ T_1_44)
  have o4 : va_AO "NylonLadder$Way" s := va_AO.of (hts _ T_1_46)
  have o5 : va_AO "NylonLadder$Sheet" s := va_AO.of (hts _ T_1_203)
  have o6 : wAO s := hts _ T_1_201
  have o7 : va_AO "java/lang/Object" s := va_AO.of (hts _ T_5_135)
  obtain ⟨y3, r3⟩ := ar_obj o3
  obtain ⟨y4, r4⟩ := ar_obj o4
  obtain ⟨y5, r5⟩ := ar_obj o5
  obtain ⟨y6, r6⟩ := ar_arr o6
  obtain ⟨y7, r7⟩ := ar_obj o7
  refine ⟨(s.heap.size, (fun k => (f k).1, fun k => (f k).2), mkC y1 y2 y3 y4 y5 y6 y7, mkX tA tR tC mi aK aV aI), ⟨⟨hx, hb, hml, hown, ts, ⟨hf, fun k q hq => ?_⟩, ⟨⟨fun w hw hn => va_Nw.of (nt_on w hn) (hts w hw), fun r hr => ?_, o3, o4, o5, o7, o6, hMi⟩, ⟨fun i h1 h4 => ?_, ⟨?_, ?_, ?_⟩, ⟨?_, ?_⟩, ?_, ?_, ?_, ?_⟩⟩, Nat.le_refl _, hlocks⟩, hX, hbl, rfl⟩, ⟨rfl, fun a ha => absurd rfl ha⟩, va_S.rf⟩
  · match k with
    | 0 => cases hq; exact ⟨p1, p2⟩
    | 1 => cases hq; exact ⟨q1, q2⟩
    | 2 => cases hq; exact r3
    | 3 => cases hq; exact r4
    | 4 => cases hq; exact r5
    | 5 => cases hq; exact r6
    | 6 => cases hq; exact r7
    | n + 7 => simp [arTys] at hq
  · obtain ⟨g1, g2, g3⟩ := fl_tx r hr
    have e := kE _ g2
    show vk_R r.1 r.2.1 r.2.2.1 (mkX tA tR tC mi aK aV aI (100 + r.2.2.2)) s
    rw [mkX_K g2]
    rcases g3 with g3 | g3
    · exact vk_R.of (hts _ g1) (by rw [g3]; exact e)
    · exact vk_R.of (hts _ g1) (va_eqR (fl _ g3) e)
  · show va_Z "NylonLadder" (sNm i) "[I" (.ref (mkX tA tR tC mi aK aV aI i)) _ s s.heap ∧ va_T .int (mkX tA tR tC mi aK aV aI i) (sRow i).length _ _ s s.heap
    rw [mkX_R h1 h4]
    exact hR i h1 h4
  · exact va_Zof (hts _ T_5_69) (ts _ T_1_25) (va_eqi (fl _ (by decide +kernel))) hA
  · exact va_Zref (hts _ T_5_71) (ts _ T_1_25) c1 hA
  · have e : (fun j => Value.ref (mkX tA tR tC mi aK aV aI (1000 + j))) = fun j => Value.ref (aI j) := funext fun j => by rw [mkX_I]
    show va_T (.object "java/lang/Integer") tC 256 (fun j => Value.ref (mkX tA tR tC mi aK aV aI (1000 + j))) _ s s.heap
    rw [e]
    exact c2
  · exact va_Zref (hts _ T_1_217) (ts _ T_1_9) a1 hA
  · exact a2
  · exact va_Zof (hts _ T_2_84) (ts _ T_1_11) (va_eqi (fl _ (by decide +kernel))) hA
  · exact va_Zqof (hts _ T_2_100) (ts _ T_1_13) (fl _ (by decide +kernel)) hA
  · exact kS.cg (fun i hi => mkX_K hi) (fun i hi => mkX_V hi)
  · have e : (fun k => mkX tA tR tC mi aK aV aI (1000 + k)) = aI := funext fun k => mkX_I k
    show vb_C (fun k => mkX tA tR tC mi aK aV aI (1000 + k)) _ s s.heap
    rw [e]
    exact hC
end WORLD0
