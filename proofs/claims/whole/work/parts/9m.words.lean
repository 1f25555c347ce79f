section WORDS
/-- the words -/
def wds : List (List Int) := [[108, 101, 102, 116], [114, 105, 103, 104, 116], [115, 116, 101, 112], [98, 101, 110, 100], [103, 111], [115, 116, 97, 105, 114, 115], [115, 105, 116, 115], [115, 116, 97, 110, 100, 115], [115, 116, 101, 112, 115], [99, 97, 98], [115, 104, 101, 101, 114], [116, 104, 105, 99, 107], [109, 101, 115, 104], [108, 105, 110, 101, 100], [111, 108, 100], [112, 108, 97, 105, 110], [115, 104, 97, 100, 101], [108, 97, 115, 116, 115], [108, 97, 100, 100, 101, 114], [116, 111], [44], [59]]
def wL (q : Nat) : Int := ((wds.getD q []).length : Nat)
def wC (q : Nat) (i : Nat) : Int := (wds.getD q []).getD i 0
theorem t_q {q : Nat} (h : q < 22) : tq q = some () := by
  have c : q = 0 ∨ q = 1 ∨ q = 2 ∨ q = 3 ∨ q = 4 ∨ q = 5 ∨ q = 6 ∨ q = 7 ∨ q = 8 ∨ q = 9 ∨ q = 10 ∨ q = 11 ∨ q = 12 ∨ q = 13 ∨ q = 14 ∨ q = 15 ∨ q = 16 ∨ q = 17 ∨ q = 18 ∨ q = 19 ∨ q = 20 ∨ q = 21 := by omega
  rcases c with rfl | rfl | rfl | rfl | rfl | rfl | rfl | rfl | rfl | rfl | rfl | rfl | rfl | rfl | rfl | rfl | rfl | rfl | rfl | rfl | rfl | rfl <;> rfl
theorem t_len (M : Mm) {q : Nat} (h : q < 22) : fJ0_length_8abf5 M q = some (i2 (wL q)) := by
  have c : q = 0 ∨ q = 1 ∨ q = 2 ∨ q = 3 ∨ q = 4 ∨ q = 5 ∨ q = 6 ∨ q = 7 ∨ q = 8 ∨ q = 9 ∨ q = 10 ∨ q = 11 ∨ q = 12 ∨ q = 13 ∨ q = 14 ∨ q = 15 ∨ q = 16 ∨ q = 17 ∨ q = 18 ∨ q = 19 ∨ q = 20 ∨ q = 21 := by omega
  rcases c with rfl | rfl | rfl | rfl | rfl | rfl | rfl | rfl | rfl | rfl | rfl | rfl | rfl | rfl | rfl | rfl | rfl | rfl | rfl | rfl | rfl | rfl <;> rfl
theorem wL_b {q : Nat} (h : q < 22) : 1 ≤ wL q ∧ wL q ≤ 6 := by
  have c : q = 0 ∨ q = 1 ∨ q = 2 ∨ q = 3 ∨ q = 4 ∨ q = 5 ∨ q = 6 ∨ q = 7 ∨ q = 8 ∨ q = 9 ∨ q = 10 ∨ q = 11 ∨ q = 12 ∨ q = 13 ∨ q = 14 ∨ q = 15 ∨ q = 16 ∨ q = 17 ∨ q = 18 ∨ q = 19 ∨ q = 20 ∨ q = 21 := by omega
  rcases c with rfl | rfl | rfl | rfl | rfl | rfl | rfl | rfl | rfl | rfl | rfl | rfl | rfl | rfl | rfl | rfl | rfl | rfl | rfl | rfl | rfl | rfl <;> decide
theorem t_chr0 (M : Mm) {i : Nat} (hi : (i : Int) < 4) : fJ0_charAt_5068e M 0 (i2 i) = some (i2 (wC 0 i)) := by
  have c : i = 0 ∨ i = 1 ∨ i = 2 ∨ i = 3 := by omega
  rcases c with rfl | rfl | rfl | rfl <;> rfl
theorem t_chr1 (M : Mm) {i : Nat} (hi : (i : Int) < 5) : fJ0_charAt_5068e M 1 (i2 i) = some (i2 (wC 1 i)) := by
  have c : i = 0 ∨ i = 1 ∨ i = 2 ∨ i = 3 ∨ i = 4 := by omega
  rcases c with rfl | rfl | rfl | rfl | rfl <;> rfl
theorem t_chr2 (M : Mm) {i : Nat} (hi : (i : Int) < 4) : fJ0_charAt_5068e M 2 (i2 i) = some (i2 (wC 2 i)) := by
  have c : i = 0 ∨ i = 1 ∨ i = 2 ∨ i = 3 := by omega
  rcases c with rfl | rfl | rfl | rfl <;> rfl
theorem t_chr3 (M : Mm) {i : Nat} (hi : (i : Int) < 4) : fJ0_charAt_5068e M 3 (i2 i) = some (i2 (wC 3 i)) := by
  have c : i = 0 ∨ i = 1 ∨ i = 2 ∨ i = 3 := by omega
  rcases c with rfl | rfl | rfl | rfl <;> rfl
theorem t_chr4 (M : Mm) {i : Nat} (hi : (i : Int) < 2) : fJ0_charAt_5068e M 4 (i2 i) = some (i2 (wC 4 i)) := by
  have c : i = 0 ∨ i = 1 := by omega
  rcases c with rfl | rfl <;> rfl
theorem t_chr5 (M : Mm) {i : Nat} (hi : (i : Int) < 6) : fJ0_charAt_5068e M 5 (i2 i) = some (i2 (wC 5 i)) := by
  have c : i = 0 ∨ i = 1 ∨ i = 2 ∨ i = 3 ∨ i = 4 ∨ i = 5 := by omega
  rcases c with rfl | rfl | rfl | rfl | rfl | rfl <;> rfl
theorem t_chr6 (M : Mm) {i : Nat} (hi : (i : Int) < 4) : fJ0_charAt_5068e M 6 (i2 i) = some (i2 (wC 6 i)) := by
  have c : i = 0 ∨ i = 1 ∨ i = 2 ∨ i = 3 := by omega
  rcases c with rfl | rfl | rfl | rfl <;> rfl
theorem t_chr7 (M : Mm) {i : Nat} (hi : (i : Int) < 6) : fJ0_charAt_5068e M 7 (i2 i) = some (i2 (wC 7 i)) := by
  have c : i = 0 ∨ i = 1 ∨ i = 2 ∨ i = 3 ∨ i = 4 ∨ i = 5 := by omega
  rcases c with rfl | rfl | rfl | rfl | rfl | rfl <;> rfl
theorem t_chr8 (M : Mm) {i : Nat} (hi : (i : Int) < 5) : fJ0_charAt_5068e M 8 (i2 i) = some (i2 (wC 8 i)) := by
  have c : i = 0 ∨ i = 1 ∨ i = 2 ∨ i = 3 ∨ i = 4 := by omega
  rcases c with rfl | rfl | rfl | rfl | rfl <;> rfl
theorem t_chr9 (M : Mm) {i : Nat} (hi : (i : Int) < 3) : fJ0_charAt_5068e M 9 (i2 i) = some (i2 (wC 9 i)) := by
  have c : i = 0 ∨ i = 1 ∨ i = 2 := by omega
  rcases c with rfl | rfl | rfl <;> rfl
theorem t_chr10 (M : Mm) {i : Nat} (hi : (i : Int) < 5) : fJ0_charAt_5068e M 10 (i2 i) = some (i2 (wC 10 i)) := by
  have c : i = 0 ∨ i = 1 ∨ i = 2 ∨ i = 3 ∨ i = 4 := by omega
  rcases c with rfl | rfl | rfl | rfl | rfl <;> rfl
theorem t_chr11 (M : Mm) {i : Nat} (hi : (i : Int) < 5) : fJ0_charAt_5068e M 11 (i2 i) = some (i2 (wC 11 i)) := by
  have c : i = 0 ∨ i = 1 ∨ i = 2 ∨ i = 3 ∨ i = 4 := by omega
  rcases c with rfl | rfl | rfl | rfl | rfl <;> rfl
theorem t_chr12 (M : Mm) {i : Nat} (hi : (i : Int) < 4) : fJ0_charAt_5068e M 12 (i2 i) = some (i2 (wC 12 i)) := by
  have c : i = 0 ∨ i = 1 ∨ i = 2 ∨ i = 3 := by omega
  rcases c with rfl | rfl | rfl | rfl <;> rfl
theorem t_chr13 (M : Mm) {i : Nat} (hi : (i : Int) < 5) : fJ0_charAt_5068e M 13 (i2 i) = some (i2 (wC 13 i)) := by
  have c : i = 0 ∨ i = 1 ∨ i = 2 ∨ i = 3 ∨ i = 4 := by omega
  rcases c with rfl | rfl | rfl | rfl | rfl <;> rfl
theorem t_chr14 (M : Mm) {i : Nat} (hi : (i : Int) < 3) : fJ0_charAt_5068e M 14 (i2 i) = some (i2 (wC 14 i)) := by
  have c : i = 0 ∨ i = 1 ∨ i = 2 := by omega
  rcases c with rfl | rfl | rfl <;> rfl
theorem t_chr15 (M : Mm) {i : Nat} (hi : (i : Int) < 5) : fJ0_charAt_5068e M 15 (i2 i) = some (i2 (wC 15 i)) := by
  have c : i = 0 ∨ i = 1 ∨ i = 2 ∨ i = 3 ∨ i = 4 := by omega
  rcases c with rfl | rfl | rfl | rfl | rfl <;> rfl
theorem t_chr16 (M : Mm) {i : Nat} (hi : (i : Int) < 5) : fJ0_charAt_5068e M 16 (i2 i) = some (i2 (wC 16 i)) := by
  have c : i = 0 ∨ i = 1 ∨ i = 2 ∨ i = 3 ∨ i = 4 := by omega
  rcases c with rfl | rfl | rfl | rfl | rfl <;> rfl
theorem t_chr17 (M : Mm) {i : Nat} (hi : (i : Int) < 5) : fJ0_charAt_5068e M 17 (i2 i) = some (i2 (wC 17 i)) := by
  have c : i = 0 ∨ i = 1 ∨ i = 2 ∨ i = 3 ∨ i = 4 := by omega
  rcases c with rfl | rfl | rfl | rfl | rfl <;> rfl
theorem t_chr18 (M : Mm) {i : Nat} (hi : (i : Int) < 6) : fJ0_charAt_5068e M 18 (i2 i) = some (i2 (wC 18 i)) := by
  have c : i = 0 ∨ i = 1 ∨ i = 2 ∨ i = 3 ∨ i = 4 ∨ i = 5 := by omega
  rcases c with rfl | rfl | rfl | rfl | rfl | rfl <;> rfl
theorem t_chr19 (M : Mm) {i : Nat} (hi : (i : Int) < 2) : fJ0_charAt_5068e M 19 (i2 i) = some (i2 (wC 19 i)) := by
  have c : i = 0 ∨ i = 1 := by omega
  rcases c with rfl | rfl <;> rfl
theorem t_chr20 (M : Mm) {i : Nat} (hi : (i : Int) < 1) : fJ0_charAt_5068e M 20 (i2 i) = some (i2 (wC 20 i)) := by
  have c : i = 0 := by omega
  subst c
  rfl
theorem t_chr21 (M : Mm) {i : Nat} (hi : (i : Int) < 1) : fJ0_charAt_5068e M 21 (i2 i) = some (i2 (wC 21 i)) := by
  have c : i = 0 := by omega
  subst c
  rfl
theorem t_chr (M : Mm) {q i : Nat} (h : q < 22) (hi : (i : Int) < wL q) : fJ0_charAt_5068e M q (i2 i) = some (i2 (wC q i)) := by
  have c : q = 0 ∨ q = 1 ∨ q = 2 ∨ q = 3 ∨ q = 4 ∨ q = 5 ∨ q = 6 ∨ q = 7 ∨ q = 8 ∨ q = 9 ∨ q = 10 ∨ q = 11 ∨ q = 12 ∨ q = 13 ∨ q = 14 ∨ q = 15 ∨ q = 16 ∨ q = 17 ∨ q = 18 ∨ q = 19 ∨ q = 20 ∨ q = 21 := by omega
  rcases c with rfl | rfl | rfl | rfl | rfl | rfl | rfl | rfl | rfl | rfl | rfl | rfl | rfl | rfl | rfl | rfl | rfl | rfl | rfl | rfl | rfl | rfl
  · exact t_chr0 M hi
  · exact t_chr1 M hi
  · exact t_chr2 M hi
  · exact t_chr3 M hi
  · exact t_chr4 M hi
  · exact t_chr5 M hi
  · exact t_chr6 M hi
  · exact t_chr7 M hi
  · exact t_chr8 M hi
  · exact t_chr9 M hi
  · exact t_chr10 M hi
  · exact t_chr11 M hi
  · exact t_chr12 M hi
  · exact t_chr13 M hi
  · exact t_chr14 M hi
  · exact t_chr15 M hi
  · exact t_chr16 M hi
  · exact t_chr17 M hi
  · exact t_chr18 M hi
  · exact t_chr19 M hi
  · exact t_chr20 M hi
  · exact t_chr21 M hi
theorem wC_b {q i : Nat} (h : q < 22) (hi : (i : Int) < wL q) : 0 ≤ wC q i ∧ wC q i ≤ 255 := by
  have c : q = 0 ∨ q = 1 ∨ q = 2 ∨ q = 3 ∨ q = 4 ∨ q = 5 ∨ q = 6 ∨ q = 7 ∨ q = 8 ∨ q = 9 ∨ q = 10 ∨ q = 11 ∨ q = 12 ∨ q = 13 ∨ q = 14 ∨ q = 15 ∨ q = 16 ∨ q = 17 ∨ q = 18 ∨ q = 19 ∨ q = 20 ∨ q = 21 := by omega
  have b := (wL_b h).2
  have d : i = 0 ∨ i = 1 ∨ i = 2 ∨ i = 3 ∨ i = 4 ∨ i = 5 := by omega
  rcases c with rfl | rfl | rfl | rfl | rfl | rfl | rfl | rfl | rfl | rfl | rfl | rfl | rfl | rfl | rfl | rfl | rfl | rfl | rfl | rfl | rfl | rfl <;> rcases d with rfl | rfl | rfl | rfl | rfl | rfl <;> decide
/-- the first of a word of letters -/
theorem wC_l {q : Nat} (h : q < 20) : 97 ≤ wC q 0 ∧ wC q 0 ≤ 122 := by
  have c : q = 0 ∨ q = 1 ∨ q = 2 ∨ q = 3 ∨ q = 4 ∨ q = 5 ∨ q = 6 ∨ q = 7 ∨ q = 8 ∨ q = 9 ∨ q = 10 ∨ q = 11 ∨ q = 12 ∨ q = 13 ∨ q = 14 ∨ q = 15 ∨ q = 16 ∨ q = 17 ∨ q = 18 ∨ q = 19 := by omega
  rcases c with rfl | rfl | rfl | rfl | rfl | rfl | rfl | rfl | rfl | rfl | rfl | rfl | rfl | rfl | rfl | rfl | rfl | rfl | rfl | rfl <;> decide
end WORDS
