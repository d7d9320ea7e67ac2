/-! WHAT THE CLASS COMPUTES, in numbers: rows are told by a mask; rC, rK, rL: the masks that the table keeps; so: the sorts; le: LEAST -/
def nd (a b : Nat) : Nat := a ^^^ (a &&& b)
def kLeft (rK : Nat → Nat) (rL : Nat → Nat → Nat) (rows c num side : Nat) : Nat := if side = 0 then (rows &&& rL c num) ||| nd rows (rK c) else rows &&& rL c num
def kCnt (rC : Nat → Nat) (rows k : Nat) : Nat := pop 24 (rows &&& rC k)
def kSq (rC : Nat → Nat) (rows : Nat) : Nat := kCnt rC rows 0 * kCnt rC rows 0 + kCnt rC rows 1 * kCnt rC rows 1 + kCnt rC rows 2 * kCnt rC rows 2
def kLab (rC : Nat → Nat) (rows : Nat) : Nat := if kCnt rC rows (if kCnt rC rows 0 < kCnt rC rows 1 then 1 else 0) < kCnt rC rows 2 then 2 else if kCnt rC rows 0 < kCnt rC rows 1 then 1 else 0
def kHad (rL : Nat → Nat → Nat) (rows c : Nat) : Nat → Nat
  | 0 => 0
  | k + 1 => if rows &&& rL c (2 ^ k) = 0 then kHad rL rows c k else kHad rL rows c k ||| 2 ^ k
/-- the lowest set bit -/
def low (m : Nat) : Nat := m &&& (4294967296 - m)
def kStep (rK : Nat → Nat) (rL : Nat → Nat → Nat) (rows c num : Nat) : Bool := decide (rows &&& rL c num ≠ (if num = 0 then 0 else rows &&& rL c (num - 1))) && decide (rows &&& rL c num ≠ rows &&& rK c)
def kGrp (rL : Nat → Nat → Nat) (rows c num : Nat) : Bool := decide (nd num (kHad rL rows c 6) = 0) && decide (num &&& low (kHad rL rows c 6) ≠ 0) && decide (num ≠ kHad rL rows c 6)
def kCan (so rK : Nat → Nat) (rL : Nat → Nat → Nat) (rows c num : Nat) : Bool := if so c = 1 then decide (num ≤ 63) && kGrp rL rows c num else decide (num ≤ 100) && kStep rK rL rows c num
def kMay (rK : Nat → Nat) (rL : Nat → Nat → Nat) (le rows c num side : Nat) : Bool := !(decide (side = 1) && decide (nd rows (rK c) = 0)) && decide (le ≤ pop 24 (kLeft rK rL rows c num side)) && decide (le ≤ pop 24 (nd rows (kLeft rK rL rows c num side)))
/-- a CUT's GAIN: what it has above and below -/
def kAbove (rC rK : Nat → Nat) (rL : Nat → Nat → Nat) (rows c num side : Nat) : Int :=
  let l := kLeft rK rL rows c num side
  let r := nd rows l
  let a : Int := pop 24 l
  let b : Int := pop 24 r
  ((kSq rC l : Int) * b + (kSq rC r : Int) * a) * (a + b) - (kSq rC rows : Int) * a * b
def kBelow (rK : Nat → Nat) (rL : Nat → Nat → Nat) (rows c num side : Nat) : Int :=
  let l := kLeft rK rL rows c num side
  let r := nd rows l
  let a : Int := pop 24 l
  let b : Int := pop 24 r
  a * b * (a + b)
theorem nd_bit (a b i : Nat) : (nd a b).testBit i = (a.testBit i && !b.testBit i) := by
  unfold nd
  rw [Nat.testBit_xor, Nat.testBit_and]
  cases a.testBit i <;> cases b.testBit i <;> rfl
theorem nd_and (a b : Nat) : nd a b &&& a = nd a b := by
  apply Nat.eq_of_testBit_eq
  intro i
  rw [Nat.testBit_and, nd_bit]
  cases a.testBit i <;> cases b.testBit i <;> rfl
theorem nd_le (a b : Nat) : nd a b ≤ a := by
  have h := @Nat.and_le_right (nd a b) a
  rw [nd_and] at h
  exact h
theorem or_lt {a b : Nat} (k : Nat) (ha : a < 2 ^ k) (hb : b < 2 ^ k) : a ||| b < 2 ^ k := Nat.or_lt_two_pow ha hb
