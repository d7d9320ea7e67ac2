/-! WHAT THE CLASS COMPUTES, in numbers: rows are told by a mask; rC, rK, rL: the masks that the table keeps; so: the sorts; le: LEAST -/
def nd (a b : Nat) : Nat := a ^^^ (a &&& b)
def kLeft (rK : Nat → Nat) (rL : Nat → Nat → Nat) (rows c num side : Nat) : Nat := if side = 0 then (rows &&& rL c num) ||| nd rows (rK c) else rows &&& rL c num
noncomputable def kCnt (rC : Nat → Nat) (rows k : Nat) : Nat := cnt (rows &&& rC k)
noncomputable def kSq (rC : Nat → Nat) (rows : Nat) : Nat := kCnt rC rows 0 * kCnt rC rows 0 + kCnt rC rows 1 * kCnt rC rows 1 + kCnt rC rows 2 * kCnt rC rows 2
noncomputable def kLab (rC : Nat → Nat) (rows : Nat) : Nat := if kCnt rC rows (if kCnt rC rows 0 < kCnt rC rows 1 then 1 else 0) < kCnt rC rows 2 then 2 else if kCnt rC rows 0 < kCnt rC rows 1 then 1 else 0
def kHad (rL : Nat → Nat → Nat) (rows c : Nat) : Nat → Nat
  | 0 => 0
  | k + 1 => if rows &&& rL c (2 ^ k) = 0 then kHad rL rows c k else kHad rL rows c k ||| 2 ^ k
/-- the lowest set bit -/
def low (m : Nat) : Nat := m &&& (4294967296 - m)
def kStep (rK : Nat → Nat) (rL : Nat → Nat → Nat) (rows c num : Nat) : Bool := decide (rows &&& rL c num ≠ (if num = 0 then 0 else rows &&& rL c (num - 1))) && decide (rows &&& rL c num ≠ rows &&& rK c)
def kGrp (rL : Nat → Nat → Nat) (rows c num : Nat) : Bool := decide (nd num (kHad rL rows c 6) = 0) && decide (num &&& low (kHad rL rows c 6) ≠ 0) && decide (num ≠ kHad rL rows c 6)
def kCan (so rK : Nat → Nat) (rL : Nat → Nat → Nat) (rows c num : Nat) : Bool := if so c = 1 then decide (num ≤ 63) && kGrp rL rows c num else decide (num ≤ 100) && kStep rK rL rows c num
noncomputable def kMay (rK : Nat → Nat) (rL : Nat → Nat → Nat) (le rows c num side : Nat) : Bool := !(decide (side = 1) && decide (nd rows (rK c) = 0)) && decide (le ≤ cnt (kLeft rK rL rows c num side)) && decide (le ≤ cnt (nd rows (kLeft rK rL rows c num side)))
/-- a CUT's GAIN: what it has above and below -/
noncomputable def kAb (rC rK : Nat → Nat) (rL : Nat → Nat → Nat) (rows c num side : Nat) : Int := (((kSq rC (kLeft rK rL rows c num side) * cnt (nd rows (kLeft rK rL rows c num side)) + kSq rC (nd rows (kLeft rK rL rows c num side)) * cnt (kLeft rK rL rows c num side)) * (cnt (kLeft rK rL rows c num side) + cnt (nd rows (kLeft rK rL rows c num side))) : Nat) : Int) - ((kSq rC rows * cnt (kLeft rK rL rows c num side) * cnt (nd rows (kLeft rK rL rows c num side)) : Nat) : Int)
noncomputable def kBe (rK : Nat → Nat) (rL : Nat → Nat → Nat) (rows c num side : Nat) : Nat := cnt (kLeft rK rL rows c num side) * cnt (nd rows (kLeft rK rL rows c num side)) * (cnt (kLeft rK rL rows c num side) + cnt (nd rows (kLeft rK rL rows c num side)))
theorem nd_bit (a b i : Nat) : (nd a b).testBit i = (a.testBit i && !b.testBit i) := by
  unfold nd
  rw [Nat.testBit_xor, Nat.testBit_and]
  cases a.testBit i <;> cases b.testBit i <;> rfl
theorem nd_and (a b : Nat) : nd a b &&& a = nd a b := by
  apply Nat.eq_of_testBit_eq
  intro i
  rw [Nat.testBit_and, nd_bit]
  cases a.testBit i <;> cases b.testBit i <;> rfl
theorem nd_le (a b : Nat) : nd a b ≤ a := by
  have h := @Nat.and_le_right (nd a b) a
  rw [nd_and] at h
  exact h
theorem or_lt {a b : Nat} (k : Nat) (ha : a < 2 ^ k) (hb : b < 2 ^ k) : a ||| b < 2 ^ k := Nat.or_lt_two_pow ha hb
theorem kLeft_lt {rK : Nat → Nat} {rL : Nat → Nat → Nat} {rows c num side : Nat} (h : rows < 16777216) : kLeft rK rL rows c num side < 16777216 := by
  unfold kLeft
  have h1 : rows &&& rL c num < 2 ^ 24 := Nat.lt_of_le_of_lt Nat.and_le_left h
  split
  · exact or_lt 24 h1 (Nat.lt_of_le_of_lt (nd_le _ _) h)
  · exact h1
theorem kHad_lt (rL : Nat → Nat → Nat) (rows c : Nat) : ∀ k, kHad rL rows c k < 2 ^ k
  | 0 => by show 0 < 1; decide
  | k + 1 => by
    have h := kHad_lt rL rows c k
    have h2 : 2 ^ k < 2 ^ (k + 1) := Nat.pow_lt_pow_right (by decide) (by omega)
    unfold kHad
    split
    · omega
    · exact or_lt (k + 1) (by omega) h2
/-- a known value v goes left at the number num, in a column of sort s -/
def lfP (s num v : Nat) : Bool := if s = 1 then decide ((num / 2 ^ v) &&& 1 = 1) else decide (v ≤ num)
/-- a value goes left by a CUT -/
def kGo (s : Nat) (v : Int) (num side : Nat) : Bool := if v < 0 then decide (side = 0) else lfP s num v.toNat
/-- a value that a column has -/
def tk (s : Nat) (v : Int) : Bool := decide (-1 ≤ v) && decide (v ≤ (if s = 1 then 5 else 100))
theorem kCnt_le (rC : Nat → Nat) (rows k : Nat) : kCnt rC rows k ≤ 24 := cnt_le _
theorem kSq_le (rC : Nat → Nat) (rows : Nat) : kSq rC rows ≤ 1728 := by
  have h0 := Nat.mul_le_mul (kCnt_le rC rows 0) (kCnt_le rC rows 0)
  have h1 := Nat.mul_le_mul (kCnt_le rC rows 1) (kCnt_le rC rows 1)
  have h2 := Nat.mul_le_mul (kCnt_le rC rows 2) (kCnt_le rC rows 2)
  unfold kSq
  omega
theorem kLab_lt (rC : Nat → Nat) (rows : Nat) : kLab rC rows < 3 := by
  unfold kLab
  repeat' split
  all_goals omega
theorem kLab_00 {rC : Nat → Nat} {rows : Nat} (h1 : kCnt rC rows 1 ≤ kCnt rC rows 0) (h2 : kCnt rC rows 2 ≤ kCnt rC rows 0) : kLab rC rows = 0 := by
  unfold kLab
  rw [if_neg (Nat.not_lt.mpr h1), if_neg (Nat.not_lt.mpr h2)]
theorem kLab_02 {rC : Nat → Nat} {rows : Nat} (h1 : kCnt rC rows 1 ≤ kCnt rC rows 0) (h2 : kCnt rC rows 0 < kCnt rC rows 2) : kLab rC rows = 2 := by
  unfold kLab
  rw [if_neg (Nat.not_lt.mpr h1), if_pos h2]
theorem kLab_11 {rC : Nat → Nat} {rows : Nat} (h1 : kCnt rC rows 0 < kCnt rC rows 1) (h2 : kCnt rC rows 2 ≤ kCnt rC rows 1) : kLab rC rows = 1 := by
  unfold kLab
  rw [if_pos h1, if_neg (Nat.not_lt.mpr h2)]
theorem kLab_12 {rC : Nat → Nat} {rows : Nat} (h1 : kCnt rC rows 0 < kCnt rC rows 1) (h2 : kCnt rC rows 1 < kCnt rC rows 2) : kLab rC rows = 2 := by
  unfold kLab
  rw [if_pos h1, if_pos h2]
theorem kCan_g {so rK : Nat → Nat} {rL : Nat → Nat → Nat} {rows c num : Nat} (h : so c = 1) (h1 : num ≤ 63) (h2 : kGrp rL rows c num = true) : kCan so rK rL rows c num = true := by
  unfold kCan
  rw [if_pos h, h2, decide_eq_true h1]
  rfl
theorem kCan_s {so rK : Nat → Nat} {rL : Nat → Nat → Nat} {rows c num : Nat} (h : ¬ so c = 1) (h1 : num ≤ 100) (h2 : kStep rK rL rows c num = true) : kCan so rK rL rows c num = true := by
  unfold kCan
  rw [if_neg h, h2, decide_eq_true h1]
  rfl
theorem kCan_or {so rK : Nat → Nat} {rL : Nat → Nat → Nat} {rows c num : Nat} (q : kCan so rK rL rows c num = true) : (so c = 1 ∧ num ≤ 63 ∧ kGrp rL rows c num = true) ∨ (¬ so c = 1 ∧ num ≤ 100 ∧ kStep rK rL rows c num = true) := by
  unfold kCan at q
  by_cases h : so c = 1
  · rw [if_pos h, Bool.and_eq_true, decide_eq_true_eq] at q
    exact Or.inl ⟨h, q⟩
  · rw [if_neg h, Bool.and_eq_true, decide_eq_true_eq] at q
    exact Or.inr ⟨h, q⟩
theorem tk_s {s : Nat} {v : Int} (h1 : -1 ≤ v) (h2 : s = 1 → v ≤ 5) (h3 : ¬ s = 1 → v ≤ 100) : tk s v = true := by
  unfold tk
  by_cases h : s = 1
  · rw [if_pos h, decide_eq_true h1, decide_eq_true (h2 h)]; rfl
  · rw [if_neg h, decide_eq_true h1, decide_eq_true (h3 h)]; rfl
theorem tk_of {s : Nat} {v : Int} (h : tk s v = true) : -1 ≤ v ∧ v ≤ 100 ∧ (s = 1 → v ≤ 5) := by
  unfold tk at h
  rw [Bool.and_eq_true, decide_eq_true_eq, decide_eq_true_eq] at h
  obtain ⟨h1, h2⟩ := h
  by_cases q : s = 1
  · rw [if_pos q] at h2
    exact ⟨h1, by omega, fun _ => h2⟩
  · rw [if_neg q] at h2
    exact ⟨h1, h2, fun e => absurd e q⟩
def tks (so : Nat → Nat) (a : Nat → Int) : Bool := tk (so 0) (a 0) && tk (so 1) (a 1) && tk (so 2) (a 2) && tk (so 3) (a 3)
theorem tks_iff {so : Nat → Nat} {a : Nat → Int} : tks so a = true ↔ ∀ q, q < 4 → tk (so q) (a q) = true := by
  unfold tks
  rw [Bool.and_eq_true, Bool.and_eq_true, Bool.and_eq_true]
  constructor
  · intro h q hq
    obtain ⟨⟨⟨h0, h1⟩, h2⟩, h3⟩ := h
    match q, hq with
    | 0, _ => exact h0
    | 1, _ => exact h1
    | 2, _ => exact h2
    | 3, _ => exact h3
  · intro h
    exact ⟨⟨⟨h 0 (by decide), h 1 (by decide)⟩, h 2 (by decide)⟩, h 3 (by decide)⟩
