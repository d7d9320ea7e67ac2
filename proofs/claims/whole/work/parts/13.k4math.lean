/-! THE SURVEY in numbers -/
theorem kMay_t {rK : Nat → Nat} {rL : Nat → Nat → Nat} {le rows c num side : Nat} (h1 : side = 1 → ¬ nd rows (rK c) = 0) (h2 : le ≤ cnt (kLeft rK rL rows c num side)) (h3 : le ≤ cnt (nd rows (kLeft rK rL rows c num side))) : kMay rK rL le rows c num side = true := by
  unfold kMay
  rw [decide_eq_true h2, decide_eq_true h3, Bool.and_true, Bool.and_true]
  by_cases h : side = 1
  · rw [decide_eq_true h, decide_eq_false (h1 h)]; rfl
  · rw [decide_eq_false h]; rfl
theorem kMay_of {rK : Nat → Nat} {rL : Nat → Nat → Nat} {le rows c num side : Nat} (q : kMay rK rL le rows c num side = true) : (side = 1 → ¬ nd rows (rK c) = 0) ∧ le ≤ cnt (kLeft rK rL rows c num side) ∧ le ≤ cnt (nd rows (kLeft rK rL rows c num side)) := by
  unfold kMay at q
  rw [Bool.and_eq_true, Bool.and_eq_true, decide_eq_true_eq, decide_eq_true_eq] at q
  obtain ⟨⟨q1, q2⟩, q3⟩ := q
  refine ⟨fun h1 h2 => ?_, q2, q3⟩
  rw [decide_eq_true h1, decide_eq_true h2] at q1
  cases q1
/-- what the survey has found so far: how many, and the best of them -/
abbrev lkB : Type := Nat × Int × Int × Int × Int × Int
noncomputable def lkS (rC rK : Nat → Nat) (rL : Nat → Nat → Nat) (le rows c num side : Nat) (B : lkB) : lkB :=
  if kMay rK rL le rows c num side = true then
    (if B.1 = 0 ∨ B.2.2.2.2.1 * (kBe rK rL rows c num side : Int) < kAb rC rK rL rows c num side * B.2.2.2.2.2 then (B.1 + 1, (c : Int), (num : Int), (side : Int), kAb rC rK rL rows c num side, (kBe rK rL rows c num side : Int)) else (B.1 + 1, B.2))
  else B
noncomputable def lk2 (so rC rK : Nat → Nat) (rL : Nat → Nat → Nat) (le rows c num : Nat) (B : lkB) : lkB := if kCan so rK rL rows c num = true then lkS rC rK rL le rows c num 1 (lkS rC rK rL le rows c num 0 B) else B
noncomputable def lk1 (so rC rK : Nat → Nat) (rL : Nat → Nat → Nat) (le rows c : Nat) : Nat → lkB → lkB
  | 0, B => B
  | k + 1, B => lk2 so rC rK rL le rows c k (lk1 so rC rK rL le rows c k B)
noncomputable def lk0 (so rC rK : Nat → Nat) (rL : Nat → Nat → Nat) (le rows : Nat) : Nat → lkB → lkB
  | 0, B => B
  | c + 1, B => lk1 so rC rK rL le rows c 101 (lk0 so rC rK rL le rows c B)
/-- the cells of the survey: since σ only 4 to 7 have changed; the best is B -/
def lkI (ad : Nat → Nat) (σ σv : xF) (B : lkB) : Prop := (∀ q, q ≠ 4 → q ≠ 5 → q ≠ 6 → q ≠ 7 → σv q = σ q) ∧ (∃ c n s : Int, pCut ad σv 4 5 c n s) ∧ (∃ a b : Int, pFra σv 5 a b) ∧ pCut ad σv 6 7 B.2.1 B.2.2.1 B.2.2.2.1 ∧ pFra σv 7 B.2.2.2.2.1 B.2.2.2.2.2 ∧ ir B.2.2.2.2.1 ∧ ir B.2.2.2.2.2
