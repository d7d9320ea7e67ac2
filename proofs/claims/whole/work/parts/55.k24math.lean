/-! MASKS OF ROWS -/
def mk : Nat → (Nat → Bool) → Nat
  | 0, _ => 0
  | n + 1, p => if p n = true then mk n p ||| 2 ^ n else mk n p
theorem mk_bit (p : Nat → Bool) (i : Nat) : ∀ n, (mk n p).testBit i = (decide (i < n) && p i)
  | 0 => by show (0 : Nat).testBit i = _; rw [Nat.zero_testBit]; simp
  | n + 1 => by
    have h := mk_bit p i n
    unfold mk
    by_cases e : p n = true
    · rw [if_pos e, Nat.testBit_or, h, Nat.testBit_two_pow]
      by_cases q : n = i
      · subst q; simp [e]
      · by_cases q2 : i < n
        · simp [q, q2, Nat.lt_succ_of_lt q2]
        · simp [q, q2, show ¬ i < n + 1 by omega]
    · rw [if_neg e, h]
      by_cases q : n = i
      · subst q; simp [e]
      · by_cases q2 : i < n
        · simp [q2, Nat.lt_succ_of_lt q2]
        · simp [q2, show ¬ i < n + 1 by omega]
theorem mk_lt (p : Nat → Bool) : ∀ n, mk n p < 2 ^ n
  | 0 => by show 0 < 1; decide
  | n + 1 => by
    have h := mk_lt p n
    have h2 : 2 ^ n < 2 ^ (n + 1) := Nat.pow_lt_pow_right (by decide) (by omega)
    unfold mk
    split
    · exact or_lt (n + 1) (by omega) h2
    · omega
theorem mk_lt24 (p : Nat → Bool) {n : Nat} (h : n ≤ 24) : mk n p < 16777216 := Nat.lt_of_lt_of_le (mk_lt p n) (Nat.pow_le_pow_right (by decide) h : 2 ^ n ≤ 2 ^ 24)
theorem mk_congr {p q : Nat → Bool} : ∀ n, (∀ i, i < n → p i = q i) → mk n p = mk n q
  | 0, _ => rfl
  | n + 1, h => by
    unfold mk
    rw [h n (by omega), mk_congr n (fun i hi => h i (by omega))]
theorem mk_none {p : Nat → Bool} : ∀ n, (∀ i, i < n → p i = false) → mk n p = 0
  | 0, _ => rfl
  | n + 1, h => by
    unfold mk
    rw [if_neg (by rw [h n (by omega)]; decide)]
    exact mk_none n (fun i hi => h i (by omega))
def mC (n : Nat) (cl : Nat → Nat) (k : Nat) : Nat := mk n (fun r => decide (cl r = k))
def mK (n : Nat) (val : Nat → Nat → Int) (c : Nat) : Nat := mk n (fun r => decide (c < 4) && decide (0 ≤ val r c))
def mLf (n : Nat) (val : Nat → Nat → Int) (so : Nat → Nat) (c num : Nat) : Nat := mk n (fun r => decide (c < 4) && decide (num < lstN (so c)) && decide (0 ≤ val r c) && lfP (so c) num (val r c).toNat)
theorem bit1 (m r : Nat) : (m / 2 ^ r) &&& 1 = (if m.testBit r = true then 1 else 0) := by
  rw [Nat.and_one_is_mod, Nat.testBit_eq_decide_div_mod_eq]
  have := Nat.mod_two_eq_zero_or_one (m / 2 ^ r)
  rcases this with h | h <;> simp [h]
theorem bit1_t {m r : Nat} (h : m.testBit r = true) : (m / 2 ^ r) &&& 1 = 1 := by rw [bit1, if_pos h]
theorem bit1_f {m r : Nat} (h : ¬ m.testBit r = true) : (m / 2 ^ r) &&& 1 = 0 := by rw [bit1, if_neg h]
theorem pop_top {m n : Nat} (h : ∀ i, n ≤ i → m.testBit i = false) : ∀ j, pop (n + j) m = pop n m
  | 0 => rfl
  | j + 1 => by
    show pop (n + j + 1) m = _
    rw [pop_bit, h (n + j) (by omega), pop_top h j]
    rfl
theorem cnt_top {m n : Nat} (hn : n ≤ 24) (h : ∀ i, n ≤ i → m.testBit i = false) : cnt m = pop n m := by
  rw [cnt_eq]
  have := pop_top h (24 - n)
  rw [show n + (24 - n) = 24 by omega] at this
  exact this
theorem cnt_of {n : Nat} {cl : Nat → Nat} (hn : n ≤ 24) (set k : Nat) : kCnt (mC n cl) set k = pop n (set &&& mC n cl k) := by
  unfold kCnt
  refine cnt_top hn (fun i hi => ?_)
  rw [Nat.testBit_and]
  unfold mC
  rw [mk_bit, show decide (i < n) = false from decide_eq_false (by omega)]
  simp
theorem ofC_bit {n : Nat} {cl : Nat → Nat} {r : Nat} (hr : r < n) (set k : Nat) : pop (r + 1) (set &&& mC n cl k) = pop r (set &&& mC n cl k) + (if set.testBit r = true ∧ cl r = k then 1 else 0) := by
  rw [pop_bit, Nat.testBit_and]
  unfold mC
  rw [mk_bit, decide_eq_true hr]
  by_cases h1 : set.testBit r = true
  · by_cases h2 : cl r = k
    · simp [h1, h2]
    · simp [h1, h2]
  · simp [h1]
/-! the loops of the reference, as folds over the rows -/
def goP (val : Nat → Nat → Int) (so : Nat → Nat) (c num side : Nat) (r : Nat) : Bool := kGo (so c) (val r c) num side
def lfF (val : Nat → Nat → Int) (so : Nat → Nat) (set c num side : Nat) : Nat → Nat
  | 0 => 0
  | r + 1 => if set.testBit r = true ∧ goP val so c num side r = true then lfF val so set c num side r ||| 2 ^ r else lfF val so set c num side r
def kdF (val : Nat → Nat → Int) (set c : Nat) : Nat → Nat
  | 0 => 0
  | r + 1 => if set.testBit r = true ∧ 0 ≤ val r c then kdF val set c r ||| 2 ^ (val r c).toNat else kdF val set c r
def grF (val : Nat → Nat → Int) (set c : Nat) : Nat → Int
  | 0 => -1
  | r + 1 => if set.testBit r = true ∧ grF val set c r < val r c then val r c else grF val set c r
def hvF (val : Nat → Nat → Int) (set c : Nat) (v : Int) : Nat → Bool
  | 0 => false
  | r + 1 => hvF val set c v r || (set.testBit r && decide (val r c = v))
theorem lfF_lt (val : Nat → Nat → Int) (so : Nat → Nat) (set c num side : Nat) : ∀ r, lfF val so set c num side r < 2 ^ r
  | 0 => by show 0 < 1; decide
  | r + 1 => by
    have h := lfF_lt val so set c num side r
    have h2 : 2 ^ r < 2 ^ (r + 1) := Nat.pow_lt_pow_right (by decide) (by omega)
    unfold lfF
    split
    · exact or_lt (r + 1) (by omega) h2
    · omega
theorem lfF_bit (val : Nat → Nat → Int) (so : Nat → Nat) (set c num side i : Nat) : ∀ r, (lfF val so set c num side r).testBit i = (decide (i < r) && set.testBit i && goP val so c num side i)
  | 0 => by show (0 : Nat).testBit i = _; rw [Nat.zero_testBit]; simp
  | r + 1 => by
    have h := lfF_bit val so set c num side i r
    unfold lfF
    by_cases e : set.testBit r = true ∧ goP val so c num side r = true
    · rw [if_pos e, Nat.testBit_or, h, Nat.testBit_two_pow]
      by_cases q : r = i
      · subst q; simp [e.1, e.2]
      · by_cases q2 : i < r
        · simp [q, q2, Nat.lt_succ_of_lt q2]
        · simp [q, q2, show ¬ i < r + 1 by omega]
    · rw [if_neg e, h]
      by_cases q : r = i
      · subst q
        by_cases e1 : set.testBit r = true
        · have e2 : goP val so c num side r = false := by cases hq : goP val so c num side r; rfl; exact absurd ⟨e1, hq⟩ e
          simp [e1, e2]
        · simp [e1]
      · by_cases q2 : i < r
        · simp [q2, Nat.lt_succ_of_lt q2]
        · simp [q2, show ¬ i < r + 1 by omega]
/-- the reference's left side is the class's -/
theorem lfF_k {n : Nat} {val : Nat → Nat → Int} {so : Nat → Nat} {set c num side : Nat} (hs : set < 2 ^ n) (hc : c < 4) (hn : num < lstN (so c)) (hd : side ≤ 1) : lfF val so set c num side n = kLeft (mK n val) (mLf n val so) set c num side := by
  apply Nat.eq_of_testBit_eq
  intro i
  have hK : (mK n val c).testBit i = (decide (i < n) && decide (0 ≤ val i c)) := by unfold mK; rw [mk_bit, decide_eq_true hc]; simp
  have hL : (mLf n val so c num).testBit i = (decide (i < n) && (decide (0 ≤ val i c) && lfP (so c) num (val i c).toNat)) := by unfold mLf; rw [mk_bit, decide_eq_true hc, decide_eq_true hn]; simp
  rw [lfF_bit]
  unfold kLeft goP kGo
  by_cases hi : i < n
  · by_cases h0 : 0 ≤ val i c
    · have h1 : ¬ val i c < 0 := by omega
      by_cases hside : side = 0
      · rw [if_pos hside, Nat.testBit_or, Nat.testBit_and, nd_bit, hK, hL]
        simp [hi, h0, h1]
      · rw [if_neg hside, Nat.testBit_and, hL]
        simp [hi, h0, h1]
    · have h1 : val i c < 0 := by omega
      by_cases hside : side = 0
      · rw [if_pos hside, Nat.testBit_or, Nat.testBit_and, nd_bit, hK, hL]
        simp [hi, h0, h1, hside]
      · rw [if_neg hside, Nat.testBit_and, hL]
        simp [hi, h0, h1, hside]
  · have hset : set.testBit i = false := Nat.testBit_lt_two_pow (Nat.lt_of_lt_of_le hs (Nat.pow_le_pow_right (by decide) (by omega)))
    by_cases hside : side = 0
    · rw [if_pos hside, Nat.testBit_or, Nat.testBit_and, nd_bit]
      simp [hset, hi]
    · rw [if_neg hside, Nat.testBit_and]
      simp [hset, hi]
theorem kdF_lt {val : Nat → Nat → Int} {set c : Nat} : ∀ r, (∀ i, i < r → val i c ≤ 5) → kdF val set c r < 64
  | 0, _ => by show 0 < 64; decide
  | r + 1, h => by
    have h1 := kdF_lt (val := val) (set := set) (c := c) r (fun i hi => h i (by omega))
    unfold kdF
    split
    · rename_i e
      have h5 := h r (by omega)
      have h2 : 2 ^ (val r c).toNat < 2 ^ 6 := Nat.pow_lt_pow_right (by decide) (by omega)
      exact or_lt 6 h1 h2
    · exact h1
theorem kdF_bit {val : Nat → Nat → Int} {set c : Nat} (v : Nat) : ∀ r, (kdF val set c r).testBit v = true ↔ ∃ i, i < r ∧ set.testBit i = true ∧ val i c = (v : Int)
  | 0 => by
    show (0 : Nat).testBit v = true ↔ _
    rw [Nat.zero_testBit]
    exact ⟨fun h => (by cases h), fun ⟨i, h, _⟩ => absurd h (Nat.not_lt_zero i)⟩
  | r + 1 => by
    have h := kdF_bit (val := val) (set := set) (c := c) v r
    unfold kdF
    by_cases e : set.testBit r = true ∧ 0 ≤ val r c
    · rw [if_pos e, Nat.testBit_or, Bool.or_eq_true, h, Nat.testBit_two_pow, decide_eq_true_eq]
      constructor
      · rintro (⟨i, a, b, d⟩ | q)
        · exact ⟨i, by omega, b, d⟩
        · exact ⟨r, by omega, e.1, by omega⟩
      · rintro ⟨i, a, b, d⟩
        by_cases q : i = r
        · subst q; exact Or.inr (by omega)
        · exact Or.inl ⟨i, by omega, b, d⟩
    · rw [if_neg e, h]
      constructor
      · rintro ⟨i, a, b, d⟩
        exact ⟨i, by omega, b, d⟩
      · rintro ⟨i, a, b, d⟩
        by_cases q : i = r
        · subst q; exact absurd ⟨b, by omega⟩ e
        · exact ⟨i, by omega, b, d⟩
theorem hvF_iff {val : Nat → Nat → Int} {set c : Nat} {v : Int} : ∀ r, hvF val set c v r = true ↔ ∃ i, i < r ∧ set.testBit i = true ∧ val i c = v
  | 0 => ⟨fun h => (by cases h), fun ⟨i, h, _⟩ => absurd h (Nat.not_lt_zero i)⟩
  | r + 1 => by
    have h := hvF_iff (val := val) (set := set) (c := c) (v := v) r
    unfold hvF
    rw [Bool.or_eq_true, h, Bool.and_eq_true, decide_eq_true_eq]
    constructor
    · rintro (⟨i, a, b, d⟩ | ⟨b, d⟩)
      · exact ⟨i, by omega, b, d⟩
      · exact ⟨r, by omega, b, d⟩
    · rintro ⟨i, a, b, d⟩
      by_cases q : i = r
      · subst q; exact Or.inr ⟨b, d⟩
      · exact Or.inl ⟨i, by omega, b, d⟩
theorem grF_ge {val : Nat → Nat → Int} {set c : Nat} : ∀ r, -1 ≤ grF val set c r ∧ (∀ i, i < r → set.testBit i = true → val i c ≤ grF val set c r) ∧ (grF val set c r = -1 ∨ ∃ i, i < r ∧ set.testBit i = true ∧ val i c = grF val set c r)
  | 0 => ⟨by show (-1 : Int) ≤ -1; decide, fun i h => absurd h (Nat.not_lt_zero i), Or.inl rfl⟩
  | r + 1 => by
    obtain ⟨h1, h2, h3⟩ := grF_ge (val := val) (set := set) (c := c) r
    unfold grF
    by_cases e : set.testBit r = true ∧ grF val set c r < val r c
    · rw [if_pos e]
      refine ⟨by omega, fun i hi hb => ?_, Or.inr ⟨r, by omega, e.1, rfl⟩⟩
      by_cases q : i = r
      · subst q; exact Int.le_refl _
      · have := h2 i (by omega) hb; omega
    · rw [if_neg e]
      refine ⟨h1, fun i hi hb => ?_, ?_⟩
      · by_cases q : i = r
        · subst q
          rcases Int.lt_or_le (grF val set c i) (val i c) with g | g
          · exact absurd ⟨hb, g⟩ e
          · exact g
        · exact h2 i (by omega) hb
      · rcases h3 with q | ⟨i, a, b, d⟩
        · exact Or.inl q
        · exact Or.inr ⟨i, by omega, b, d⟩
