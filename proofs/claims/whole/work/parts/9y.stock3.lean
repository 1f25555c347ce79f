section STOCKV
variable {X0 Y0 X Y : Mm} {T : Int → Int} {L z : Int} {c i : Nat} {f : Int} {A : Int → Int}
def stA5 (M : Mm) (kd a sh : Int32) : Option Mm := B1 (gk M 109 11) fun _ => B2 (fX8_takeNumber M 109 (i2 1) (i2 30)) fun la M => stT3 M kd a sh la
def stA4 (M : Mm) (kd a sh : Int32) : Option Mm := B1 (gk M 109 11) fun _ => B1 (fX8_isName M 109 17) fun w => B1 (gk M 109 11) fun _ => B1 (fX8_take M 109 w) fun M => stA5 M kd a sh
def stA3 (M : Mm) (kd a : Int32) : Option Mm := B1 (gk M 109 11) fun _ => B2 (fX8_takeNumber M 109 (i2 0) (i2 3)) fun sh M => stA4 M kd a sh
def stA2 (M : Mm) (kd a : Int32) : Option Mm := B1 (gk M 109 11) fun _ => B1 (fX8_isName M 109 16) fun w => B1 (gk M 109 11) fun _ => B1 (fX8_take M 109 w) fun M => stA3 M kd a
def stT1 (M : Mm) (kd : Int32) : Option Mm := B1 (gk M 109 11) fun _ => B2 (fX8_takeNumber M 109 (i2 0) (i2 9)) fun a M => stA2 M kd a
def smA5 (M : Mm) (kd a sh : Int32) : Option Mm := B1 (gk M 164 15) fun _ => B2 (fX12_number M 164 (i2 1) (i2 30)) fun la M => smT3 M kd a sh la
def smA4 (M : Mm) (kd a sh : Int32) : Option Mm := B1 (gk M 164 15) fun _ => B1 (fX12_wants M 164 17) fun M => smA5 M kd a sh
def smA3 (M : Mm) (kd a : Int32) : Option Mm := B1 (gk M 164 15) fun _ => B2 (fX12_number M 164 (i2 0) (i2 3)) fun sh M => smA4 M kd a sh
def smA2 (M : Mm) (kd a : Int32) : Option Mm := B1 (gk M 164 15) fun _ => B1 (fX12_wants M 164 16) fun M => smA3 M kd a
def smT1 (M : Mm) (kd : Int32) : Option Mm := B1 (gk M 164 15) fun _ => B2 (fX12_number M 164 (i2 0) (i2 9)) fun a M => smA2 M kd a
theorem c_A5F (s : CS X0 X T L c i 1 A) (kd a sh : Int32) : stA5 X kd a sh = some X := by
  unfold stA5
  rw [s.gkk, B1_some, c_tnF s, B2_some, c_T3F s]
theorem c_A4F (s : CS X0 X T L c i 1 A) (kd a sh : Int32) : stA4 X kd a sh = some X := by
  unfold stA4
  rw [s.gkk, B1_some, s.name (by decide), B1_some, B1_some, c_takeF s, B1_some, c_A5F s]
theorem c_A3F (s : CS X0 X T L c i 1 A) (kd a : Int32) : stA3 X kd a = some X := by
  unfold stA3
  rw [s.gkk, B1_some, c_tnF s, B2_some, c_A4F s]
theorem c_A2F (s : CS X0 X T L c i 1 A) (kd a : Int32) : stA2 X kd a = some X := by
  unfold stA2
  rw [s.gkk, B1_some, s.name (by decide), B1_some, B1_some, c_takeF s, B1_some, c_A3F s]
theorem c_T1F (s : CS X0 X T L c i 1 A) (kd : Int32) : stT1 X kd = some X := by
  unfold stT1
  rw [s.gkk, B1_some, c_tnF s, B2_some, c_A2F s]
theorem m_A5F (k : TkF T L X0 c) (hi : i ≤ c) (m : MS X0 Y0 Y T L z i 1 A) (kd a sh : Int32) : smA5 Y kd a sh = some Y := by
  unfold smA5
  rw [m.gkk, B1_some, m_numF k hi m, B2_some, m_T3F m]
theorem m_A4F (k : TkF T L X0 c) (hi : i ≤ c) (m : MS X0 Y0 Y T L z i 1 A) (kd a sh : Int32) : smA4 Y kd a sh = some Y := by
  unfold smA4
  rw [m.gkk, B1_some, m_wantsF m, B1_some, m_A5F k hi m]
theorem m_A3F (k : TkF T L X0 c) (hi : i ≤ c) (m : MS X0 Y0 Y T L z i 1 A) (kd a : Int32) : smA3 Y kd a = some Y := by
  unfold smA3
  rw [m.gkk, B1_some, m_numF k hi m, B2_some, m_A4F k hi m]
theorem m_A2F (k : TkF T L X0 c) (hi : i ≤ c) (m : MS X0 Y0 Y T L z i 1 A) (kd a : Int32) : smA2 Y kd a = some Y := by
  unfold smA2
  rw [m.gkk, B1_some, m_wantsF m, B1_some, m_A3F k hi m]
/-- a number, and then what follows -/
theorem cl_num {lo hi : Int} {fc fm : Int32 → Mm → Option Mm} (k : TkF T L X0 c) (s : CS X0 X T L c i 0 A) (m : MS X0 Y0 Y T L z i 0 A) (lo0 : 0 ≤ lo) (hi0 : 0 ≤ hi) (hi9 : hi ≤ 99) (lo9 : lo ≤ 99) (FC : ∀ v X, CS X0 X T L c i 1 A → fc v X = some X) (FM : ∀ v Y, MS X0 Y0 Y T L z i 1 A → semi (fm v Y) = some Y) (go : ∀ (v : Int) (X Y : Mm), lo ≤ v → v ≤ hi → CS X0 X T L c (i + 1) 0 A → MS X0 Y0 Y T L z (i + 1) 0 A → Cl X0 Y0 T L z c (i + 1) (fc (i2 v) X) (semi (fm (i2 v) Y))) : Cl X0 Y0 T L z c i (B1 (gk X 109 11) fun _ => B2 (fX8_takeNumber X 109 (i2 lo) (i2 hi)) fc) (semi (B1 (gk Y 164 15) fun _ => B2 (fX12_number Y 164 (i2 lo) (i2 hi)) fm)) := by
  have ic := s.2.2.2.2.1.1
  rw [s.gkk, m.gkk, B1_some, B1_some]
  by_cases q : lo ≤ nmt X0 T i ∧ nmt X0 T i ≤ hi
  · obtain ⟨X1, a1, a2⟩ := c_tn1 s (a := lo) (b := hi) lo0 q.1 q.2 hi9 (nmt_lt k ic (by omega))
    obtain ⟨Y1, b1, b2⟩ := m_num1 k ic m (a := lo) (b := hi) lo0 q.1 q.2 hi9
    rw [a1, b1, B2_some, B2_some]
    exact (go _ X1 Y1 q.1 q.2 a2 b2).up (by omega)
  · obtain ⟨X1, a1, a2⟩ := c_tn0 s (a := lo) (b := hi) (by omega) lo9 hi0 hi9 (Or.inr q)
    obtain ⟨Y1, b1, b2⟩ := m_num0 k ic m (a := lo) (b := hi) (by omega) lo9 hi0 hi9 q
    rw [a1, b1, B2_some, B2_some]
    exact Cl.no (FC _ X1 a2) a2 (FM _ Y1 b2) b2
/-- a word, and then what follows -/
theorem cl_word {q : Nat} (hq : q < 20) {fc fm : Mm → Option Mm} (k : TkF T L X0 c) (s : CS X0 X T L c i 0 A) (m : MS X0 Y0 Y T L z i 0 A) (FC : ∀ X, CS X0 X T L c i 1 A → fc X = some X) (FM : ∀ Y, MS X0 Y0 Y T L z i 1 A → semi (fm Y) = some Y) (go : ∀ (X Y : Mm), CS X0 X T L c (i + 1) 0 A → MS X0 Y0 Y T L z (i + 1) 0 A → Cl X0 Y0 T L z c (i + 1) (fc X) (semi (fm Y))) : Cl X0 Y0 T L z c i (B1 (gk X 109 11) fun _ => B1 (fX8_isName X 109 q) fun w => B1 (gk X 109 11) fun _ => B1 (fX8_take X 109 w) fc) (semi (B1 (gk Y 164 15) fun _ => B1 (fX12_wants Y 164 q) fm)) := by
  have ic := s.2.2.2.2.1.1
  rw [s.gkk, m.gkk, B1_some, B1_some, s.name hq, B1_some, B1_some]
  rcases wdt_01 X0 T i q with e | e
  · obtain ⟨X1, a1, a2⟩ := c_take0 s
    obtain ⟨Y1, b1, b2⟩ := m_wants0 k ic m (q := q) (by omega) e
    rw [e, a1, b1, B1_some, B1_some]
    exact Cl.no (FC X1 a2) a2 (FM Y1 b2) b2
  · obtain ⟨X1, a1, a2⟩ := c_take1 s (wdt_lt k ic (by omega) e)
    obtain ⟨Y1, b1, b2⟩ := m_wants1 k ic m (q := q) (by omega) e
    rw [e, a1, b1, B1_some, B1_some]
    exact (go X1 Y1 a2 b2).up (by omega)
theorem cl_T1 (k : TkF T L X0 c) (s : CS X0 X T L c i 0 A) (n : A 0 < 8) {kd : Int} (h0 : 0 ≤ kd ∧ kd ≤ 5) (m : MS X0 Y0 Y T L z i 0 A) : Cl X0 Y0 T L z c i (stT1 X (i2 kd)) (semi (smT1 Y (i2 kd))) := by
  have ic := s.2.2.2.2.1.1
  refine cl_num k s m (by decide) (by decide) (by decide) (by decide) (fun v X s => c_A2F s _ _) (fun v Y m => by rw [m_A2F k ic m, semi_F m]) fun a X Y a0 a9 s m => ?_
  have ic := s.2.2.2.2.1.1
  refine cl_word (by decide) k s m (fun X s => c_A3F s _ _) (fun Y m => by rw [m_A3F k ic m, semi_F m]) fun X Y s m => ?_
  have ic := s.2.2.2.2.1.1
  refine cl_num k s m (by decide) (by decide) (by decide) (by decide) (fun v X s => c_A4F s _ _ _) (fun v Y m => by rw [m_A4F k ic m, semi_F m]) fun sh X Y sh0 sh9 s m => ?_
  have ic := s.2.2.2.2.1.1
  refine cl_word (by decide) k s m (fun X s => c_A5F s _ _ _) (fun Y m => by rw [m_A5F k ic m, semi_F m]) fun X Y s m => ?_
  have ic := s.2.2.2.2.1.1
  exact cl_num k s m (by decide) (by decide) (by decide) (by decide) (fun v X s => c_T3F s _ _ _ _) (fun v Y m => by rw [m_T3F m, semi_F m]) fun la X Y la0 la9 s m => cl_T3 k s n h0 ⟨a0, a9⟩ ⟨sh0, sh9⟩ ⟨la0, la9⟩ m
theorem kdt_lt (k : TkF T L X0 c) (hi : i ≤ c) (h : 0 ≤ kdt X0 T i) : i < c := by
  unfold kdt at h
  split at h
  · next w => exact wdt_lt k hi (by decide) w
  · split at h
    · next w => exact wdt_lt k hi (by decide) w
    · split at h
      · next w => exact wdt_lt k hi (by decide) w
      · split at h
        · next w => exact wdt_lt k hi (by decide) w
        · split at h
          · next w => exact wdt_lt k hi (by decide) w
          · split at h
            · next w => exact wdt_lt k hi (by decide) w
            · omega
theorem c_stU (M : Mm) : fX8_takeStocking M 109 = B1 (gk M 109 11) fun _ => B1 (fX8_kindHere M 109) fun x1 => if x1 < i2 0 then (B1 (gk M 109 11) fun _ => B1 (fX8_take M 109 (i2 0)) fun M27 => stT1 M27 x1) else B1 (rdN M 109 11 2) fun a11 => B1 (rdI M a11 3 2) fun x14 => if i2 8 ≤ x14 then (B1 (gk M 109 11) fun _ => B1 (fX8_take M 109 (i2 0)) fun M27 => stT1 M27 x1) else B1 (gk M 109 11) fun _ => B1 (fX8_take M 109 (i2 1)) fun M27 => stT1 M27 x1 := rfl
theorem m_stU (M : Mm) (p : Int32) : fX12_stockingTold M 164 p = B1 (rdN M 164 15 3) fun a2 => B1 (alI M a2 (i2 0)) fun x6 => if x6 = i2 8 then (B1 (wrZ M 164 15 9 (i2 1)) fun M17 => B1 (rdI M17 164 15 9) fun x21 => if x21 = i2 0 then (B1 (gk M17 164 15) fun _ => B1 (fX12_next M17 164) fun M29 => smT1 M29 p) else some M17) else B1 (wrZ M 164 15 9 (i2 0)) fun M17 => B1 (rdI M17 164 15 9) fun x21 => if x21 = i2 0 then (B1 (gk M17 164 15) fun _ => B1 (fX12_next M17 164) fun M29 => smT1 M29 p) else some M17 := rfl
theorem c_stNo (s : CS X0 X T L c i 0 A) (h : kdt X0 T i < 0) : ∃ Z, fX8_takeStocking X 109 = some Z ∧ CS X0 Z T L c i 1 A := by
  obtain ⟨X1, a1, a2⟩ := c_take0 s
  have kb := kdt_b X0 T i
  refine ⟨X1, ?_, a2⟩
  rw [c_stU, s.gkk, B1_some, s.kind, B1_some, if_pos (by rw [i2_lt (by omega) (by omega) (by decide) (by decide)]; exact h), B1_some, a1, B1_some, c_T1F a2]
theorem cl_stock (k : TkF T L X0 c) (s : CS X0 X T L c i 0 A) (h : 0 ≤ kdt X0 T i) (m : MS X0 Y0 Y T L z i 0 A) : Cl X0 Y0 T L z c i (fX8_takeStocking X 109) (semi (fX12_stockingTold Y 164 (i2 (kdt X0 T i)))) := by
  have ic := s.2.2.2.2.1.1
  obtain ⟨ok, g, cr⟩ := s.ok
  have g0 := g.1
  have kb := kdt_b X0 T i
  have cnt := d_cnt (t_d111 s.1) cr
  have r0 := m.at (x := 0) (by decide) (by decide) (by decide)
  have e8 : (i2 (A 0) = i2 8) = (A 0 = 8) := i2_eq (by omega) (by omega) (by decide) (by decide)
  rw [c_stU, m_stU, s.gkk, B1_some, s.kind, B1_some, if_neg (by rw [i2_lt (by omega) (by omega) (by decide) (by decide)]; omega), tp_r2 s.1, B1_some, cnt, B1_some, B1_some, B1_some, m_r3 m.1, B1_some, r0, B1_some]
  by_cases n : A 0 < 8
  · have i0 := kdt_lt k ic h
    obtain ⟨X1, a1, a2⟩ := c_take1 s i0
    obtain ⟨Y1, b1, b2⟩ := m.set (v := 0) (Or.inl rfl)
    obtain ⟨Y2, b3, b4⟩ := b2.nx k i0
    rw [if_neg (by rw [i2_le (by decide) (by decide) (by omega) (by omega)]; omega), a1, B1_some, if_neg (fun z => by have := e8.mp z; omega), b1, B1_some, b2.r9, B1_some, if_pos rfl, b2.gkk, B1_some, b3, B1_some]
    exact (cl_T1 k a2 n ⟨h, kb.2⟩ b4).up (by omega)
  · obtain ⟨X1, a1, a2⟩ := c_take0 s
    obtain ⟨Y1, b1, b2⟩ := m.set (v := 1) (Or.inr rfl)
    rw [if_pos (by rw [i2_le (by decide) (by decide) (by omega) (by omega)]; omega), a1, B1_some, if_pos (e8.mpr (by omega)), b1, B1_some, b2.r9, B1_some, if_neg (by decide)]
    exact Cl.no (c_T1F a2 _) a2 (semi_F b2) b2
end STOCKV
