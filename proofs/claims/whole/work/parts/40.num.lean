/-! PURE SIDE. Int32 by Int. -/
def i2 (x : Int) : Int32 := Int32.ofInt x
theorem i2_toInt {a : Int} (h1 : -2147483648 ≤ a) (h2 : a < 2147483648) : (i2 a).toInt = a := Int32.toInt_ofInt_of_le h1 h2
theorem i2_self (x : Int32) : i2 x.toInt = x := Int32.ofInt_toInt x
theorem i2_of {x : Int32} {a : Int} (h : x.toInt = a) : x = i2 a := by rw [← h, i2_self]
theorem i2_add (a b : Int) : i2 a + i2 b = i2 (a + b) := (Int32.ofInt_add ..).symm
theorem i2_sub (a b : Int) : i2 a - i2 b = i2 (a - b) := (Int32.ofInt_sub ..).symm
theorem i2_mul (a b : Int) : i2 a * i2 b = i2 (a * b) := (Int32.ofInt_mul ..).symm
theorem i2_neg (a : Int) : - i2 a = i2 (-a) := (Int32.ofInt_neg ..).symm
theorem i2_lt {a b : Int} (h1 : -2147483648 ≤ a) (h2 : a < 2147483648) (h3 : -2147483648 ≤ b) (h4 : b < 2147483648) : (i2 a < i2 b) = (a < b) := by
  rw [Int32.lt_iff_toInt_lt, i2_toInt h1 h2, i2_toInt h3 h4]
theorem i2_le {a b : Int} (h1 : -2147483648 ≤ a) (h2 : a < 2147483648) (h3 : -2147483648 ≤ b) (h4 : b < 2147483648) : (i2 a ≤ i2 b) = (a ≤ b) := by
  rw [Int32.le_iff_toInt_le, i2_toInt h1 h2, i2_toInt h3 h4]
theorem i2_eq {a b : Int} (h1 : -2147483648 ≤ a) (h2 : a < 2147483648) (h3 : -2147483648 ≤ b) (h4 : b < 2147483648) : (i2 a = i2 b) = (a = b) := by
  rw [← Int32.toInt_inj, i2_toInt h1 h2, i2_toInt h3 h4]
theorem i2_div {a b : Int} (h1 : -2147483647 ≤ a) (h2 : a < 2147483648) (h3 : -2147483648 ≤ b) (h4 : b < 2147483648) : i2 a / i2 b = i2 (a.tdiv b) := by
  apply Int32.toInt_inj.mp
  rw [Int32.toInt_div, i2_toInt (by omega) h2, i2_toInt h3 h4]
  show Int.bmod _ _ = (Int32.ofInt _).toInt
  rw [Int32.toInt_ofInt]
theorem i2_max {a b : Int} (h1 : -2147483648 ≤ a) (h2 : a < 2147483648) (h3 : -2147483648 ≤ b) (h4 : b < 2147483648) : mxI (i2 a) (i2 b) = i2 (max a b) := by
  unfold mxI
  simp only [i2_lt h1 h2 h3 h4]
  split
  · congr 1; omega
  · congr 1; omega
theorem i2_min {a b : Int} (h1 : -2147483648 ≤ a) (h2 : a < 2147483648) (h3 : -2147483648 ≤ b) (h4 : b < 2147483648) : mnI (i2 a) (i2 b) = i2 (min a b) := by
  unfold mnI
  simp only [i2_lt h3 h4 h1 h2]
  split
  · congr 1; omega
  · congr 1; omega
theorem i2_nat {a : Int} (h1 : -2147483648 ≤ a) (h2 : a < 2147483648) : (i2 a).toNatClampNeg = a.toNat := by
  show (i2 a).toInt.toNat = _
  rw [i2_toInt h1 h2]
theorem i2_inB {a : Int} {n : Nat} (h1 : -2147483648 ≤ a) (h2 : a < 2147483648) : inB (i2 a) n = (decide (0 ≤ a) && decide (a < n)) := by
  unfold inB
  rw [i2_toInt h1 h2]
theorem i2_range (x : Int32) : -2147483648 ≤ x.toInt ∧ x.toInt < 2147483648 := ⟨Int32.le_toInt x, Int32.toInt_lt x⟩
/-- 1 or 0 -/
def tf (p : Prop) [Decidable p] : Int := if p then 1 else 0
theorem L_0 : (0 : Int32) = i2 0 := by decide +kernel
theorem L_1 : (1 : Int32) = i2 1 := by decide +kernel
theorem L_2 : (2 : Int32) = i2 2 := by decide +kernel
theorem L_3 : (3 : Int32) = i2 3 := by decide +kernel
theorem L_4 : (4 : Int32) = i2 4 := by decide +kernel
theorem L_5 : (5 : Int32) = i2 5 := by decide +kernel
theorem L_6 : (6 : Int32) = i2 6 := by decide +kernel
theorem L_7 : (7 : Int32) = i2 7 := by decide +kernel
theorem L_8 : (8 : Int32) = i2 8 := by decide +kernel
theorem L_9 : (9 : Int32) = i2 9 := by decide +kernel
theorem L_10 : (10 : Int32) = i2 10 := by decide +kernel
theorem L_11 : (11 : Int32) = i2 11 := by decide +kernel
theorem L_12 : (12 : Int32) = i2 12 := by decide +kernel
theorem L_13 : (13 : Int32) = i2 13 := by decide +kernel
theorem L_14 : (14 : Int32) = i2 14 := by decide +kernel
theorem L_15 : (15 : Int32) = i2 15 := by decide +kernel
theorem L_16 : (16 : Int32) = i2 16 := by decide +kernel
theorem L_17 : (17 : Int32) = i2 17 := by decide +kernel
theorem L_18 : (18 : Int32) = i2 18 := by decide +kernel
theorem L_19 : (19 : Int32) = i2 19 := by decide +kernel
theorem L_20 : (20 : Int32) = i2 20 := by decide +kernel
theorem L_21 : (21 : Int32) = i2 21 := by decide +kernel
theorem L_22 : (22 : Int32) = i2 22 := by decide +kernel
theorem L_23 : (23 : Int32) = i2 23 := by decide +kernel
theorem L_24 : (24 : Int32) = i2 24 := by decide +kernel
theorem L_25 : (25 : Int32) = i2 25 := by decide +kernel
theorem L_26 : (26 : Int32) = i2 26 := by decide +kernel
theorem L_27 : (27 : Int32) = i2 27 := by decide +kernel
theorem L_28 : (28 : Int32) = i2 28 := by decide +kernel
theorem L_29 : (29 : Int32) = i2 29 := by decide +kernel
theorem L_30 : (30 : Int32) = i2 30 := by decide +kernel
theorem L_31 : (31 : Int32) = i2 31 := by decide +kernel
theorem L_32 : (32 : Int32) = i2 32 := by decide +kernel
theorem L_33 : (33 : Int32) = i2 33 := by decide +kernel
theorem L_34 : (34 : Int32) = i2 34 := by decide +kernel
theorem L_35 : (35 : Int32) = i2 35 := by decide +kernel
theorem L_36 : (36 : Int32) = i2 36 := by decide +kernel
theorem L_37 : (37 : Int32) = i2 37 := by decide +kernel
theorem L_38 : (38 : Int32) = i2 38 := by decide +kernel
theorem L_39 : (39 : Int32) = i2 39 := by decide +kernel
theorem L_40 : (40 : Int32) = i2 40 := by decide +kernel
theorem L_41 : (41 : Int32) = i2 41 := by decide +kernel
theorem L_42 : (42 : Int32) = i2 42 := by decide +kernel
theorem L_43 : (43 : Int32) = i2 43 := by decide +kernel
theorem L_44 : (44 : Int32) = i2 44 := by decide +kernel
theorem L_45 : (45 : Int32) = i2 45 := by decide +kernel
theorem L_46 : (46 : Int32) = i2 46 := by decide +kernel
theorem L_47 : (47 : Int32) = i2 47 := by decide +kernel
theorem L_48 : (48 : Int32) = i2 48 := by decide +kernel
theorem L_49 : (49 : Int32) = i2 49 := by decide +kernel
theorem L_50 : (50 : Int32) = i2 50 := by decide +kernel
theorem L_51 : (51 : Int32) = i2 51 := by decide +kernel
theorem L_52 : (52 : Int32) = i2 52 := by decide +kernel
theorem L_53 : (53 : Int32) = i2 53 := by decide +kernel
theorem L_54 : (54 : Int32) = i2 54 := by decide +kernel
theorem L_55 : (55 : Int32) = i2 55 := by decide +kernel
theorem L_56 : (56 : Int32) = i2 56 := by decide +kernel
theorem L_57 : (57 : Int32) = i2 57 := by decide +kernel
theorem L_58 : (58 : Int32) = i2 58 := by decide +kernel
theorem L_59 : (59 : Int32) = i2 59 := by decide +kernel
theorem L_60 : (60 : Int32) = i2 60 := by decide +kernel
theorem L_61 : (61 : Int32) = i2 61 := by decide +kernel
theorem L_62 : (62 : Int32) = i2 62 := by decide +kernel
theorem L_63 : (63 : Int32) = i2 63 := by decide +kernel
theorem L_99 : (99 : Int32) = i2 99 := by decide +kernel
theorem L_100 : (100 : Int32) = i2 100 := by decide +kernel
theorem L_101 : (101 : Int32) = i2 101 := by decide +kernel
theorem L_200 : (200 : Int32) = i2 200 := by decide +kernel
theorem L_190 : (190 : Int32) = i2 190 := by decide +kernel
theorem L_255 : (255 : Int32) = i2 255 := by decide +kernel
theorem L_256 : (256 : Int32) = i2 256 := by decide +kernel
theorem L_300 : (300 : Int32) = i2 300 := by decide +kernel
theorem L_999 : (999 : Int32) = i2 999 := by decide +kernel
theorem L_65535 : (65535 : Int32) = i2 65535 := by decide +kernel
theorem L_97 : (97 : Int32) = i2 97 := by decide +kernel
theorem L_98 : (98 : Int32) = i2 98 := by decide +kernel
theorem L_122 : (122 : Int32) = i2 122 := by decide +kernel
theorem L_113 : (113 : Int32) = i2 113 := by decide +kernel
