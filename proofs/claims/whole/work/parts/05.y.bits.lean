/-! BITS OF NUMBERS: pop k m, how many of the k lowest bits of m are set; the JDK's bitCount counts them -/
def pop : Nat → Nat → Nat
  | 0, _ => 0
  | k + 1, m => m % 2 + pop k (m / 2)
theorem pop_add (j : Nat) : ∀ k m, pop (k + j) m = pop k m + pop j (m / 2 ^ k)
  | 0, m => by simp [pop]
  | k + 1, m => by
    have h := pop_add j k (m / 2)
    rw [show k + 1 + j = (k + j) + 1 by omega]
    show m % 2 + pop (k + j) (m / 2) = m % 2 + pop k (m / 2) + pop j (m / 2 ^ (k + 1))
    rw [h, Nat.div_div_eq_div_mul, show 2 * 2 ^ k = 2 ^ (k + 1) by rw [Nat.pow_succ, Nat.mul_comm]]
    omega
theorem pop_le : ∀ k m, pop k m ≤ k
  | 0, _ => Nat.le_refl 0
  | k + 1, m => by
    have h := pop_le k (m / 2)
    have h2 : m % 2 < 2 := Nat.mod_lt _ (by decide)
    show m % 2 + pop k (m / 2) ≤ k + 1
    omega
theorem pop_bit (k m : Nat) : pop (k + 1) m = pop k m + (if m.testBit k = true then 1 else 0) := by
  rw [pop_add 1 k m, Nat.testBit_eq_decide_div_mod_eq]
  have h : pop 1 (m / 2 ^ k) = m / 2 ^ k % 2 := by simp [pop]
  rw [h]
  have h2 : m / 2 ^ k % 2 < 2 := Nat.mod_lt _ (by decide)
  by_cases h3 : m / 2 ^ k % 2 = 1
  · simp [h3]
  · have : m / 2 ^ k % 2 = 0 := by omega
    simp [this]
theorem pop_mod : ∀ k m, pop k (m % 2 ^ k) = pop k m
  | 0, _ => rfl
  | k + 1, m => by
    have h := pop_mod k (m / 2)
    show m % 2 ^ (k + 1) % 2 + pop k (m % 2 ^ (k + 1) / 2) = m % 2 + pop k (m / 2)
    have e1 : m % 2 ^ (k + 1) % 2 = m % 2 := Nat.mod_mod_of_dvd m ⟨2 ^ k, by rw [Nat.pow_succ, Nat.mul_comm]⟩
    have e2 : m % 2 ^ (k + 1) / 2 = m / 2 % 2 ^ k := by rw [Nat.pow_succ, Nat.mod_mul_left_div_self]
    rw [e1, e2, h]
theorem and_split (x c : Nat) : x &&& c = ((x % 256) &&& (c % 256)) + 256 * ((x / 256) &&& (c / 256)) := by
  have h1 : (x &&& c) % 256 = (x % 256) &&& (c % 256) := Nat.and_mod_two_pow (a := x) (b := c) (n := 8)
  have h2 : (x &&& c) / 256 = (x / 256) &&& (c / 256) := Nat.and_div_two_pow (a := x) (b := c) (n := 8)
  have h3 := Nat.div_add_mod (x &&& c) 256
  omega
theorem by_1 : ∀ b, b < 256 → ∀ t, t < 2 → ((b / 2 + 128 * t) &&& 85) = ((b / 2) &&& 85) := by decide +kernel
theorem by_2 : ∀ b, b < 256 → ∀ t, t < 4 → ((b / 4 + 64 * t) &&& 51) = ((b / 4) &&& 51) := by decide +kernel
theorem by_3 : ∀ b, b < 69 → ∀ t, t < 16 → ((b + b / 16 + 16 * t) % 256 &&& 15) = (b + b / 16) % 16 := by decide +kernel
def by_s1 (b : Nat) : Nat := b - ((b / 2) &&& 85)
def by_s2 (b : Nat) : Nat := (by_s1 b &&& 51) + ((by_s1 b / 4) &&& 51)
theorem by_s : ∀ b, b < 256 → ((b / 2) &&& 85) ≤ b ∧ by_s1 b < 256 ∧ by_s2 b < 69 ∧ by_s2 b % 16 < 5 ∧ (by_s2 b + by_s2 b / 16) % 16 = pop 8 b := by decide +kernel
theorem and_w (b r c C : Nat) (hb : b < 256) (hc : c < 256) : (b + 256 * r) &&& (c + 256 * C) = (b &&& c) + 256 * (r &&& C) := by
  rw [and_split]
  have e1 : (b + 256 * r) % 256 = b := by omega
  have e2 : (b + 256 * r) / 256 = r := by omega
  have e3 : (c + 256 * C) % 256 = c := by omega
  have e4 : (c + 256 * C) / 256 = C := by omega
  rw [e1, e2, e3, e4]
theorem sh1_w (b r C : Nat) (hb : b < 256) : ((b + 256 * r) / 2) &&& (85 + 256 * C) = ((b / 2) &&& 85) + 256 * ((r / 2) &&& C) := by
  have e : (b + 256 * r) / 2 = (b / 2 + 128 * (r % 2)) + 256 * (r / 2) := by omega
  rw [e, and_w _ _ _ _ (by omega) (by decide), by_1 b hb _ (Nat.mod_lt _ (by decide))]
theorem sh2_w (b r C : Nat) (hb : b < 256) : ((b + 256 * r) / 4) &&& (51 + 256 * C) = ((b / 4) &&& 51) + 256 * ((r / 4) &&& C) := by
  have e : (b + 256 * r) / 4 = (b / 4 + 64 * (r % 4)) + 256 * (r / 4) := by omega
  rw [e, and_w _ _ _ _ (by omega) (by decide), by_2 b hb _ (Nat.mod_lt _ (by decide))]
theorem bc_1 (b0 b1 b2 : Nat) (h0 : b0 < 256) (h1 : b1 < 256) (h2 : b2 < 256) : (b0 + 256 * (b1 + 256 * b2)) - (((b0 + 256 * (b1 + 256 * b2)) / 2) &&& 1431655765) = by_s1 b0 + 256 * (by_s1 b1 + 256 * by_s1 b2) := by
  have e : (1431655765 : Nat) = 85 + 256 * (85 + 256 * (85 + 256 * 85)) := by decide
  have e2 : b2 = b2 + 256 * 0 := by omega
  have q : ((b0 + 256 * (b1 + 256 * b2)) / 2) &&& 1431655765 = ((b0 / 2) &&& 85) + 256 * (((b1 / 2) &&& 85) + 256 * ((b2 / 2) &&& 85)) := by
    rw [e, sh1_w _ _ _ h0, sh1_w _ _ _ h1]
    rw [show (b2 / 2) &&& (85 + 256 * 85) = ((b2 / 2) &&& 85) by
      have := sh1_w b2 0 85 h2
      simpa using this]
  rw [q]
  have a0 := (by_s b0 h0).1
  have a1 := (by_s b1 h1).1
  have a2 := (by_s b2 h2).1
  unfold by_s1
  omega
theorem bc_2 (a0 a1 a2 : Nat) (h0 : a0 < 256) (h1 : a1 < 256) (h2 : a2 < 256) : ((a0 + 256 * (a1 + 256 * a2)) &&& 858993459) + (((a0 + 256 * (a1 + 256 * a2)) / 4) &&& 858993459) = ((a0 &&& 51) + ((a0 / 4) &&& 51)) + 256 * (((a1 &&& 51) + ((a1 / 4) &&& 51)) + 256 * ((a2 &&& 51) + ((a2 / 4) &&& 51))) := by
  have e : (858993459 : Nat) = 51 + 256 * (51 + 256 * (51 + 256 * 51)) := by decide
  have q : ((a0 + 256 * (a1 + 256 * a2)) / 4) &&& 858993459 = ((a0 / 4) &&& 51) + 256 * (((a1 / 4) &&& 51) + 256 * ((a2 / 4) &&& 51)) := by
    rw [e, sh2_w _ _ _ h0, sh2_w _ _ _ h1]
    rw [show (a2 / 4) &&& (51 + 256 * 51) = ((a2 / 4) &&& 51) by
      have := sh2_w a2 0 51 h2
      simpa using this]
  have p : (a0 + 256 * (a1 + 256 * a2)) &&& 858993459 = (a0 &&& 51) + 256 * ((a1 &&& 51) + 256 * (a2 &&& 51)) := by
    rw [e, and_w _ _ _ _ h0 (by decide), and_w _ _ _ _ h1 (by decide)]
    rw [show a2 &&& (51 + 256 * 51) = (a2 &&& 51) by
      have := and_w a2 0 51 51 h2 (by decide)
      simpa using this]
  rw [q, p]
  omega
theorem bc_3w (b r C : Nat) (hb : b < 69) (hr : r % 16 < 5) : ((b + 256 * r) + (b + 256 * r) / 16) &&& (15 + 256 * C) = (b + b / 16) % 16 + 256 * ((r + r / 16) &&& C) := by
  have e : (b + 256 * r) + (b + 256 * r) / 16 = (b + b / 16 + 16 * (r % 16)) + 256 * (r + r / 16) := by omega
  have hlt : b + b / 16 + 16 * (r % 16) < 256 := by omega
  rw [e, and_w _ _ _ _ hlt (by decide)]
  have := by_3 b hb (r % 16) (by omega)
  rw [Nat.mod_eq_of_lt hlt] at this
  rw [this]
theorem bc_3 (b0 b1 b2 : Nat) (h0 : b0 < 69) (h1 : b1 < 69) (h2 : b2 < 69) (g1 : b1 % 16 < 5) (g2 : b2 % 16 < 5) : ((b0 + 256 * (b1 + 256 * b2)) + (b0 + 256 * (b1 + 256 * b2)) / 16) &&& 252645135 = (b0 + b0 / 16) % 16 + 256 * ((b1 + b1 / 16) % 16 + 256 * ((b2 + b2 / 16) % 16)) := by
  have e : (252645135 : Nat) = 15 + 256 * (15 + 256 * (15 + 256 * 15)) := by decide
  rw [e, bc_3w _ _ _ h0 (by omega), bc_3w _ _ _ h1 g2]
  rw [show (b2 + b2 / 16) &&& (15 + 256 * 15) = (b2 + b2 / 16) % 16 by
    have := bc_3w b2 0 15 h2 (by decide)
    simpa using this]
/-- the JDK's way to count, for numbers of 24 bits -/
theorem bc_all (m : Nat) (hm : m < 16777216) : ∃ a b c : Nat, m - ((m / 2) &&& 1431655765) = a ∧ ((m / 2) &&& 1431655765) ≤ m ∧ (a &&& 858993459) + ((a / 4) &&& 858993459) = b ∧ (b + b / 16) &&& 252645135 = c ∧ a < 16777216 ∧ b < 16777216 ∧ c < 16777216 ∧ ((c + c / 256) + (c + c / 256) / 65536) % 64 = pop 24 m := by
  obtain ⟨b0, b1, b2, h0, h1, h2, rfl⟩ : ∃ b0 b1 b2, b0 < 256 ∧ b1 < 256 ∧ b2 < 256 ∧ m = b0 + 256 * (b1 + 256 * b2) := ⟨m % 256, m / 256 % 256, m / 65536, by omega, by omega, by omega, by omega⟩
  have s0 := by_s b0 h0
  have s1 := by_s b1 h1
  have s2 := by_s b2 h2
  have q1 := bc_1 b0 b1 b2 h0 h1 h2
  have q2 := bc_2 (by_s1 b0) (by_s1 b1) (by_s1 b2) s0.2.1 s1.2.1 s2.2.1
  have q3 := bc_3 (by_s2 b0) (by_s2 b1) (by_s2 b2) s0.2.2.1 s1.2.2.1 s2.2.2.1 s1.2.2.2.1 s2.2.2.2.1
  have p0 := pop_le 8 b0
  have p1 := pop_le 8 b1
  have p2 := pop_le 8 b2
  have hpop : pop 24 (b0 + 256 * (b1 + 256 * b2)) = pop 8 b0 + pop 8 b1 + pop 8 b2 := by
    rw [show (24 : Nat) = 8 + 16 by decide, pop_add, show (16 : Nat) = 8 + 8 by decide, pop_add]
    have e1 : pop 8 (b0 + 256 * (b1 + 256 * b2)) = pop 8 b0 := by
      rw [← pop_mod 8 (b0 + 256 * (b1 + 256 * b2))]
      have : (b0 + 256 * (b1 + 256 * b2)) % 2 ^ 8 = b0 := by omega
      rw [this]
    have e2 : (b0 + 256 * (b1 + 256 * b2)) / 2 ^ 8 = b1 + 256 * b2 := by omega
    have e3 : pop 8 (b1 + 256 * b2) = pop 8 b1 := by
      rw [← pop_mod 8 (b1 + 256 * b2)]
      have : (b1 + 256 * b2) % 2 ^ 8 = b1 := by omega
      rw [this]
    have e4 : (b1 + 256 * b2) / 2 ^ 8 = b2 := by omega
    rw [e1, e2, e3, e4]
    omega
  refine ⟨_, _, _, q1, ?_, rfl, rfl, ?_, ?_, ?_, ?_⟩
  · have a0 := s0.1
    have e : ((b0 + 256 * (b1 + 256 * b2)) / 2) &&& 1431655765 ≤ (b0 + 256 * (b1 + 256 * b2)) / 2 := Nat.and_le_left
    omega
  · have := s0.2.1; have := s1.2.1; have := s2.2.1; omega
  · rw [q2]
    have a0 : by_s2 b0 < 69 := s0.2.2.1
    have a1 : by_s2 b1 < 69 := s1.2.2.1
    have a2 : by_s2 b2 < 69 := s2.2.2.1
    unfold by_s2 at a0 a1 a2
    omega
  · rw [q2]
    have := q3
    unfold by_s2 at this
    rw [this]
    omega
  · rw [q2]
    have h := q3
    unfold by_s2 at h
    rw [h]
    have e0 := s0.2.2.2.2
    have e1 := s1.2.2.2.2
    have e2 := s2.2.2.2.2
    unfold by_s2 at e0 e1 e2
    rw [e0, e1, e2, hpop]
    clear h e0 e1 e2 hpop q1 q2 q3 s0 s1 s2 h0 h1 h2 hm
    generalize pop 8 b0 = x at *
    generalize pop 8 b1 = y at *
    generalize pop 8 b2 = z at *
    have g1 : (x + 256 * (y + 256 * z)) / 256 = y + 256 * z := by omega
    rw [g1]
    have g2 : (x + 256 * (y + 256 * z) + (y + 256 * z)) / 65536 = z := by omega
    rw [g2]
    omega
theorem iv_bv (n : Nat) : (iv (n : Int)).toBitVec = BitVec.ofNat 32 n := by rw [iv_nat]; rfl
theorem iv_and (a b : Nat) : iv (a : Int) &&& iv (b : Int) = iv ((a &&& b : Nat) : Int) := by
  apply Int32.toBitVec_inj.1
  rw [Int32.toBitVec_and, iv_bv, iv_bv, iv_bv]
  apply BitVec.eq_of_getLsbD_eq
  intro i hi
  simp [hi]
theorem iv_or (a b : Nat) : iv (a : Int) ||| iv (b : Int) = iv ((a ||| b : Nat) : Int) := by
  apply Int32.toBitVec_inj.1
  rw [Int32.toBitVec_or, iv_bv, iv_bv, iv_bv]
  apply BitVec.eq_of_getLsbD_eq
  intro i hi
  simp [hi]
theorem iv_xor (a b : Nat) : iv (a : Int) ^^^ iv (b : Int) = iv ((a ^^^ b : Nat) : Int) := by
  apply Int32.toBitVec_inj.1
  rw [Int32.toBitVec_xor, iv_bv, iv_bv, iv_bv]
  apply BitVec.eq_of_getLsbD_eq
  intro i hi
  simp [hi]
theorem iv_m1 : (iv (-1)).toBitVec = BitVec.allOnes 32 := by decide +kernel
theorem iv_notbv (b : Nat) : (iv (-1 - (b : Int))).toBitVec = ~~~ (BitVec.ofNat 32 b) := by
  rw [← iv_sub, Int32.toBitVec_sub, iv_m1, iv_bv, BitVec.allOnes_sub_eq_not]
theorem iv_not (b : Nat) : iv (b : Int) ^^^ iv (-1) = iv (-1 - (b : Int)) := by
  apply Int32.toBitVec_inj.1
  rw [Int32.toBitVec_xor, iv_notbv, iv_m1, iv_bv, BitVec.xor_allOnes]
theorem iv_andnot (a b : Nat) : iv (a : Int) &&& iv (-1 - (b : Int)) = iv ((a ^^^ (a &&& b) : Nat) : Int) := by
  apply Int32.toBitVec_inj.1
  rw [Int32.toBitVec_and, iv_notbv, iv_bv, iv_bv]
  apply BitVec.eq_of_getLsbD_eq
  intro i hi
  simp only [BitVec.getLsbD_and, BitVec.getLsbD_not, BitVec.getLsbD_ofNat, Nat.testBit_xor, Nat.testBit_and, hi, decide_true, Bool.true_and]
  cases a.testBit i <;> cases b.testBit i <;> rfl
theorem iv_shl1 : ∀ n : Nat, n < 31 → iv 1 <<< (iv (n : Int) &&& 31) = iv ((2 ^ n : Nat) : Int) := by decide +kernel
theorem iv_low : ∀ m : Nat, m < 64 → iv (m : Int) &&& iv (-(m : Int)) = iv ((m &&& (4294967296 - m) : Nat) : Int) := by decide +kernel
theorem iv_shl_a : ∀ n : Nat, n < 32 → ((iv (n : Int) &&& 31).toBitVec.smod 32).toNat = n := by decide +kernel
theorem iv_shr (m : Nat) (hm : m < 2147483648) (n : Nat) (hn : n < 32) : iv (m : Int) >>> (iv (n : Int) &&& 31) = iv ((m / 2 ^ n : Nat) : Int) := by
  rw [iv_nat m, iv_nat (m / 2 ^ n)]
  exact pk_shrN (by omega) _ n (iv_shl_a n hn)
theorem iv_ushr_a : ∀ n : Nat, n < 32 → (((iv (n : Int)).toUInt32 &&& Int32.toUInt32 31).toBitVec % 32).toNat = n := by decide +kernel
theorem iv_ushr (m : Nat) (hm : m < 2147483648) (n : Nat) (hn : n < 32) : ((iv (m : Int)).toUInt32 >>> ((iv (n : Int)).toUInt32 &&& Int32.toUInt32 31)).toInt32 = iv ((m / 2 ^ n : Nat) : Int) := by
  rw [iv_nat m, iv_nat (m / 2 ^ n)]
  exact pk_ushrN (by omega) _ n (iv_ushr_a n hn)
theorem iv_ne0 {b : Int} (h : ir b) (h0 : b ≠ 0) : ¬ iv b = 0 := fun q => h0 ((iv_eq h ir_0).mp q)
theorem iv_div (a b : Nat) (ha : a < 2147483648) (h0 : 0 < b) (hb : b < 2147483648) : iv (a : Int) / iv (b : Int) = iv ((a / b : Nat) : Int) := by
  rw [iv_nat, iv_nat, iv_nat]
  exact pk_div (by omega) h0 (by omega)
theorem iv_rem (a b : Nat) (ha : a < 2147483648) (h0 : 0 < b) (hb : b < 2147483648) : iv (a : Int) - iv (a : Int) / iv (b : Int) * iv (b : Int) = iv ((a % b : Nat) : Int) := by
  rw [iv_nat, iv_nat, iv_nat]
  exact pk_rem (by omega) h0 (by omega)
/-- how many of the 24 lowest bits are set, as a name that nothing unfolds -/
theorem cnt_ex : ∃ g : Nat → Nat, ∀ m, g m = pop 24 m := ⟨pop 24, fun _ => rfl⟩
noncomputable def cnt : Nat → Nat := Classical.choose cnt_ex
theorem cnt_eq (m : Nat) : cnt m = pop 24 m := Classical.choose_spec cnt_ex m
theorem cnt_le (m : Nat) : cnt m ≤ 24 := by rw [cnt_eq]; exact pop_le 24 m
