/-! the best of a survey that has found one -/
def lkR (rC rK : Nat → Nat) (rL : Nat → Nat → Nat) (rows : Nat) (B : lkB) : Prop := 0 < B.1 → ∃ c num side : Nat, c < 4 ∧ num ≤ 100 ∧ side ≤ 1 ∧ B.2.1 = c ∧ B.2.2.1 = num ∧ B.2.2.2.1 = side ∧ B.2.2.2.2.1 = kAb rC rK rL rows c num side ∧ B.2.2.2.2.2 = (kBe rK rL rows c num side : Int)
theorem lkR_S {rC rK : Nat → Nat} {rL : Nat → Nat → Nat} {le rows c num side : Nat} {B : lkB} (hc : c < 4) (hn : num ≤ 100) (hs : side ≤ 1) (h : lkR rC rK rL rows B) : lkR rC rK rL rows (lkS rC rK rL le rows c num side B) := by
  unfold lkS
  by_cases h1 : kMay rK rL le rows c num side = true
  · rw [if_pos h1]
    by_cases h2 : B.1 = 0 ∨ B.2.2.2.2.1 * (kBe rK rL rows c num side : Int) < kAb rC rK rL rows c num side * B.2.2.2.2.2
    · rw [if_pos h2]
      exact fun _ => ⟨c, num, side, hc, hn, hs, rfl, rfl, rfl, rfl, rfl⟩
    · rw [if_neg h2]
      exact fun _ => h (by omega)
  · rw [if_neg h1]
    exact h
theorem lkR_1 {so rC rK : Nat → Nat} {rL : Nat → Nat → Nat} {le rows c : Nat} {B : lkB} (hc : c < 4) (h : lkR rC rK rL rows B) : ∀ k, k ≤ 101 → lkR rC rK rL rows (lk1 so rC rK rL le rows c k B)
  | 0, _ => h
  | k + 1, hk => by
    have h1 := lkR_1 (so := so) (le := le) hc h k (by omega)
    show lkR rC rK rL rows (lk2 so rC rK rL le rows c k (lk1 so rC rK rL le rows c k B))
    unfold lk2
    split
    · exact lkR_S hc (by omega) (by decide) (lkR_S hc (by omega) (by decide) h1)
    · exact h1
theorem lkR_0 {so rC rK : Nat → Nat} {rL : Nat → Nat → Nat} {le rows : Nat} {B : lkB} (h : lkR rC rK rL rows B) : ∀ c, c ≤ 4 → lkR rC rK rL rows (lk0 so rC rK rL le rows c B)
  | 0, _ => h
  | c + 1, hc => lkR_1 (so := so) (le := le) (by omega) (lkR_0 (so := so) (le := le) h c (by omega)) 101 (by decide)
theorem lkR_all {so rC rK : Nat → Nat} {rL : Nat → Nat → Nat} {le rows : Nat} {B : lkB} {B0 : Int × Int × Int × Int × Int} (hB : B = lk0 so rC rK rL le rows 4 (0, B0)) : lkR rC rK rL rows B := by
  rw [hB]
  exact lkR_0 (fun h => absurd h (Nat.lt_irrefl 0)) 4 (by decide)
theorem lkS_1 {rC rK : Nat → Nat} {rL : Nat → Nat → Nat} {le rows c num side : Nat} (B : lkB) : (lkS rC rK rL le rows c num side B).1 ≤ B.1 + 1 := by
  unfold lkS
  split
  · split
    · exact Nat.le_refl _
    · exact Nat.le_refl _
  · exact Nat.le_succ _
theorem lk1_1 {so rC rK : Nat → Nat} {rL : Nat → Nat → Nat} {le rows c : Nat} (B : lkB) : ∀ k, (lk1 so rC rK rL le rows c k B).1 ≤ B.1 + 2 * k
  | 0 => Nat.le_refl _
  | k + 1 => by
    have h1 := lk1_1 (so := so) (rC := rC) (rK := rK) (rL := rL) (le := le) (rows := rows) (c := c) B k
    show (lk2 so rC rK rL le rows c k (lk1 so rC rK rL le rows c k B)).1 ≤ _
    unfold lk2
    split
    · have h2 := lkS_1 (rC := rC) (rK := rK) (rL := rL) (le := le) (rows := rows) (c := c) (num := k) (side := 0) (lk1 so rC rK rL le rows c k B)
      have h3 := lkS_1 (rC := rC) (rK := rK) (rL := rL) (le := le) (rows := rows) (c := c) (num := k) (side := 1) (lkS rC rK rL le rows c k 0 (lk1 so rC rK rL le rows c k B))
      omega
    · omega
theorem lk0_1 {so rC rK : Nat → Nat} {rL : Nat → Nat → Nat} {le rows : Nat} (B : lkB) : ∀ c, (lk0 so rC rK rL le rows c B).1 ≤ B.1 + 202 * c
  | 0 => Nat.le_refl _
  | c + 1 => by
    have h1 := lk0_1 (so := so) (rC := rC) (rK := rK) (rL := rL) (le := le) (rows := rows) B c
    have h2 := lk1_1 (so := so) (rC := rC) (rK := rK) (rL := rL) (le := le) (rows := rows) (c := c) (lk0 so rC rK rL le rows c B) 101
    show (lk1 so rC rK rL le rows c 101 (lk0 so rC rK rL le rows c B)).1 ≤ _
    omega
theorem lkB_le {so rC rK : Nat → Nat} {rL : Nat → Nat → Nat} {le rows : Nat} {B : lkB} {B0 : Int × Int × Int × Int × Int} (hB : B = lk0 so rC rK rL le rows 4 (0, B0)) : B.1 ≤ 808 := by
  rw [hB]
  exact lk0_1 (so := so) (rC := rC) (rK := rK) (rL := rL) (le := le) (rows := rows) (0, B0) 4
