/-! numbers for the fractions -/
theorem cmp_ex (a b : Int) : ∃ z : Int, z = (if b < a then 1 else if a = b then 0 else -1) ∧ (-1 ≤ z ∧ z ≤ 1) ∧ (z < 0 ↔ a < b) ∧ (z = 0 ↔ a = b) ∧ (0 < z ↔ b < a) := by
  refine ⟨_, rfl, ?_⟩
  by_cases h1 : b < a
  · rw [if_pos h1]; omega
  · by_cases h2 : a = b
    · rw [if_neg h1, if_pos h2]; omega
    · rw [if_neg h1, if_neg h2]; omega
theorem jr_mul {a b : Int} (ha : ir a) (hb : ir b) : jr (a * b) := by
  have h1 : a.natAbs ≤ 2147483648 := by unfold ir at ha; omega
  have h2 : b.natAbs ≤ 2147483648 := by unfold ir at hb; omega
  have h3 : (a * b).natAbs ≤ 2147483648 * 2147483648 := by rw [Int.natAbs_mul]; exact Nat.mul_le_mul h1 h2
  unfold jr
  omega
theorem gcd_half {g l : Nat} (h0 : 0 < l) (h : l ≤ g) : 2 * (l * (g % l)) ≤ g * l := by
  have h1 : g % l < l := Nat.mod_lt _ h0
  have h2 := Nat.div_add_mod g l
  have h3 : 1 ≤ g / l := (Nat.one_le_div_iff h0).mpr h
  have h4 : l ≤ l * (g / l) := Nat.le_mul_of_pos_right l h3
  have h5 : 2 * (g % l) ≤ g := by omega
  calc 2 * (l * (g % l)) = l * (2 * (g % l)) := by rw [Nat.mul_left_comm]
    _ ≤ l * g := Nat.mul_le_mul_left l h5
    _ = g * l := Nat.mul_comm l g
/-- Euclid's way, i steps on from a, b -/
def gcI (a b i g l : Nat) : Prop := Nat.gcd g l = Nat.gcd a b ∧ 0 < g + l ∧ g < 2147483648 ∧ l < 2147483648 ∧ ((i = 0 ∧ g = a ∧ l = b) ∨ (1 ≤ i ∧ l < g ∧ 2 ^ (i - 1) * (g * l) ≤ a * b))
theorem gcI_0 {a b : Nat} (ha : a < 2147483648) (hb : b < 2147483648) (h0 : 0 < b) : gcI a b 0 a b := ⟨rfl, by omega, ha, hb, Or.inl ⟨rfl, rfl, rfl⟩⟩
theorem gcI_s {a b i g l : Nat} (h : gcI a b i g l) (h0 : l ≠ 0) : gcI a b (i + 1) l (g % l) := by
  obtain ⟨h1, h2, h3, h4, h5⟩ := h
  have hm : g % l < l := Nat.mod_lt _ (by omega)
  refine ⟨?_, by omega, h4, by omega, Or.inr ⟨by omega, hm, ?_⟩⟩
  · rw [← h1, Nat.gcd_comm g l, Nat.gcd_rec l g, Nat.gcd_comm]
  · rcases h5 with ⟨rfl, rfl, rfl⟩ | ⟨q1, q2, q3⟩
    · show 2 ^ 0 * (l * (g % l)) ≤ g * l
      rw [Nat.pow_zero, Nat.one_mul]
      have : g % l ≤ g := Nat.mod_le _ _
      calc l * (g % l) ≤ l * g := Nat.mul_le_mul_left l this
        _ = g * l := Nat.mul_comm l g
    · have h6 := gcd_half (by omega : 0 < l) (by omega : l ≤ g)
      have h7 : 2 ^ (i + 1 - 1) * (l * (g % l)) = 2 ^ (i - 1) * (2 * (l * (g % l))) := by
        have e : 2 ^ (i + 1 - 1) = 2 ^ (i - 1) * 2 := by rw [show i + 1 - 1 = (i - 1) + 1 by omega, Nat.pow_succ]
        rw [e, Nat.mul_assoc]
      rw [h7]
      exact Nat.le_trans (Nat.mul_le_mul_left _ h6) q3
theorem gcI_e {a b i g l : Nat} (ha : a < 2147483648) (hb : b < 2147483648) (h : gcI a b i g l) (hi : 64 ≤ i) : l = 0 := by
  obtain ⟨h1, h2, h3, h4, h5⟩ := h
  rcases h5 with ⟨q, -, -⟩ | ⟨q1, q2, q3⟩
  · omega
  · have h6 : a * b < 2147483648 * 2147483648 := Nat.mul_lt_mul'' ha hb
    have h7 : 2 ^ 63 ≤ 2 ^ (i - 1) := Nat.pow_le_pow_right (by decide) (by omega)
    rcases Nat.eq_zero_or_pos (g * l) with h8 | h8
    · rcases Nat.mul_eq_zero.mp h8 with h9 | h9
      · omega
      · exact h9
    · have h9 : 2 ^ (i - 1) * 1 ≤ 2 ^ (i - 1) * (g * l) := Nat.mul_le_mul_left _ h8
      omega
theorem gcI_g {a b i g : Nat} (h : gcI a b i g 0) : g = Nat.gcd a b := by
  have := h.1
  rw [Nat.gcd_zero_right] at this
  exact this
theorem kAb_ir (rC rK : Nat → Nat) (rL : Nat → Nat → Nat) (rows c num side : Nat) : ir (kAb rC rK rL rows c num side) := by
  have h1 := kSq_le rC (kLeft rK rL rows c num side)
  have h2 := kSq_le rC (nd rows (kLeft rK rL rows c num side))
  have h3 := kSq_le rC rows
  have h4 := cnt_le (kLeft rK rL rows c num side)
  have h5 := cnt_le (nd rows (kLeft rK rL rows c num side))
  unfold kAb
  generalize kSq rC (kLeft rK rL rows c num side) = x at *
  generalize kSq rC (nd rows (kLeft rK rL rows c num side)) = y at *
  generalize kSq rC rows = w at *
  generalize cnt (kLeft rK rL rows c num side) = p at *
  generalize cnt (nd rows (kLeft rK rL rows c num side)) = q at *
  have g1 : x * q ≤ 1728 * 24 := Nat.mul_le_mul h1 h5
  have g2 : y * p ≤ 1728 * 24 := Nat.mul_le_mul h2 h4
  have g3 : (x * q + y * p) * (p + q) ≤ (1728 * 24 + 1728 * 24) * (24 + 24) := Nat.mul_le_mul (by omega) (by omega)
  have g4 : w * p * q ≤ 1728 * 24 * 24 := Nat.mul_le_mul (Nat.mul_le_mul h3 h4) h5
  unfold ir
  generalize (x * q + y * p) * (p + q) = u at *
  generalize w * p * q = v at *
  omega
theorem kBe_le (rK : Nat → Nat) (rL : Nat → Nat → Nat) (rows c num side : Nat) : kBe rK rL rows c num side ≤ 27648 := by
  have h4 := cnt_le (kLeft rK rL rows c num side)
  have h5 := cnt_le (nd rows (kLeft rK rL rows c num side))
  unfold kBe
  have h6 : cnt (kLeft rK rL rows c num side) + cnt (nd rows (kLeft rK rL rows c num side)) ≤ 48 := by omega
  exact Nat.mul_le_mul (Nat.mul_le_mul h4 h5) h6
