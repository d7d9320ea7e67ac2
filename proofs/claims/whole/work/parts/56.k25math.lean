/-! THE REFERENCE'S CELLS: 358 the model, 359 sorts, 360 values, 361 classes, 362 rowsOf, 363 depthOf, 364 columnOf, 365 numberOf, 366 sideOf, 367 leftNode, 368 rightNode, 369 gainAbove, 370 gainBelow, 371 asked, 372 state, 373 alphaAbove, 374 alphaBelow, 375 pile -/
def moE (ad : Nat → Nat) (n de le wo : Nat) (S : Nat → Int) : va_E := eO 9 [.ref (ad 359), .int (iv (n : Int)), .ref (ad 360), .ref (ad 361), .int (iv (de : Int)), .int (iv (le : Int)), .int (iv (wo : Int)), .int (iv (S 7)), .long (jv (S 8)), .long (jv (S 9)), .int (iv (S 10)), .int (iv (S 11)), .int (iv (S 12)), .long (jv (S 13)), .long (jv (S 14)), .int (iv (S 15)), .ref (ad 362), .ref (ad 363), .ref (ad 364), .ref (ad 365), .ref (ad 366), .ref (ad 367), .ref (ad 368), .ref (ad 369), .ref (ad 370), .ref (ad 371), .int (iv (S 26)), .ref (ad 372), .ref (ad 373), .ref (ad 374), .ref (ad 375), .int (iv (S 31)), .int (iv (S 32))]
def pMo (G : xG) (ad : Nat → Nat) (σ : xF) (n : Nat) (val : Nat → Nat → Int) (cl so : Nat → Nat) (de le wo : Nat) (S : Nat → Int) : Prop :=
  σ 358 = moE ad n de le wo S ∧ (∃ sf, σ 359 = eJ G 4 sf ∧ ∀ c, c < 4 → sf c = (so c : Int)) ∧ (∃ vf, σ 360 = eJ G 96 vf ∧ ∀ r c, r < n → c < 4 → vf (4 * r + c) = val r c) ∧ (∃ cf, σ 361 = eJ G 24 cf ∧ ∀ r, r < n → cf r = (cl r : Int))
def dTab (n : Nat) (val : Nat → Nat → Int) (cl so : Nat → Nat) : Prop := n ≤ 24 ∧ (∀ r, r < n → tks so (val r) = true) ∧ (∀ r, cl r < 3) ∧ ∀ c, so c < 2
theorem pMo.up {G : xG} {ad : Nat → Nat} {σ σ' : xF} {n : Nat} {val : Nat → Nat → Int} {cl so : Nat → Nat} {de le wo : Nat} {S S' : Nat → Int} (h : pMo G ad σ n val cl so de le wo S) (e : σ' 358 = moE ad n de le wo S') (h1 : σ' 359 = σ 359) (h2 : σ' 360 = σ 360) (h3 : σ' 361 = σ 361) : pMo G ad σ' n val cl so de le wo S' := by
  obtain ⟨a, ⟨sf, b, b2⟩, ⟨vf, c, c2⟩, cf, d, d2⟩ := h
  exact ⟨e, ⟨sf, h1.trans b, b2⟩, ⟨vf, h2.trans c, c2⟩, cf, h3.trans d, d2⟩
theorem iv_low2 (num kd : Nat) (h : kd < 64) : iv ((num &&& kd : Nat) : Int) &&& iv (-(kd : Int)) = iv ((num &&& low kd : Nat) : Int) := by
  unfold low
  rw [← iv_and, ← iv_and num, Int32.and_assoc, iv_low kd h]
/-! what can cut, in rows -/
theorem ne_bit {a b : Nat} : a ≠ b ↔ ∃ i, ¬ a.testBit i = b.testBit i := by
  constructor
  · intro h
    refine Classical.byContradiction fun q => h (Nat.eq_of_testBit_eq fun i => ?_)
    exact Classical.byContradiction fun q2 => q ⟨i, q2⟩
  · rintro ⟨i, h⟩ e
    exact h (by rw [e])
theorem mK_b {n : Nat} {val : Nat → Nat → Int} {c : Nat} (hc : c < 4) (i : Nat) : (mK n val c).testBit i = (decide (i < n) && decide (0 ≤ val i c)) := by unfold mK; rw [mk_bit, decide_eq_true hc]; simp
theorem mLf_b {n : Nat} {val : Nat → Nat → Int} {so : Nat → Nat} {c num : Nat} (hc : c < 4) (hn : num < lstN (so c)) (i : Nat) : (mLf n val so c num).testBit i = (decide (i < n) && (decide (0 ≤ val i c) && lfP (so c) num (val i c).toNat)) := by unfold mLf; rw [mk_bit, decide_eq_true hc, decide_eq_true hn]; simp
theorem unk_iff {n : Nat} {val : Nat → Nat → Int} {so : Nat → Nat} {set c : Nat} (hs : set < 2 ^ n) (hc : c < 4) (hv : ∀ r, r < n → tks so (val r) = true) : nd set (mK n val c) ≠ 0 ↔ hvF val set c (-1) n = true := by
  rw [hvF_iff, ne_bit]
  constructor
  · rintro ⟨i, h⟩
    rw [nd_bit, mK_b hc, Nat.zero_testBit] at h
    by_cases hb : set.testBit i = true
    · have hi : i < n := Classical.byContradiction fun q => by
        have := Nat.testBit_lt_two_pow (Nat.lt_of_lt_of_le hs (Nat.pow_le_pow_right (by decide) (show n ≤ i by omega)))
        rw [this] at hb; cases hb
      have h0 : ¬ 0 ≤ val i c := fun q => h (by simp [hb, hi, q])
      have h1 := (tk_of (tks_iff.mp (hv i hi) c hc)).1
      exact ⟨i, hi, hb, by omega⟩
    · exact absurd (by simp [hb]) h
  · rintro ⟨i, hi, hb, h0⟩
    refine ⟨i, ?_⟩
    rw [nd_bit, mK_b hc, Nat.zero_testBit]
    have : ¬ 0 ≤ val i c := by omega
    simp [hb, hi, this]
theorem lfP_n {s num v : Nat} (h : ¬ s = 1) : lfP s num v = decide (v ≤ num) := by unfold lfP; rw [if_neg h]
theorem lst_n {s : Nat} (h : ¬ s = 1) : lstN s = 101 := by unfold lstN; rw [if_neg h]
theorem lst_k {s : Nat} (h : s = 1) : lstN s = 64 := by unfold lstN; rw [if_pos h]
theorem step_1 {n : Nat} {val : Nat → Nat → Int} {so : Nat → Nat} {set c num : Nat} (hc : c < 4) (h0 : ¬ so c = 1) (hn : num ≤ 100) : set &&& mLf n val so c num ≠ (if num = 0 then 0 else set &&& mLf n val so c (num - 1)) ↔ hvF val set c (num : Int) n = true := by
  rw [hvF_iff, ne_bit]
  have e1 : ∀ i, (set &&& mLf n val so c num).testBit i = (set.testBit i && (decide (i < n) && (decide (0 ≤ val i c) && decide ((val i c).toNat ≤ num)))) := fun i => by rw [Nat.testBit_and, mLf_b hc (by rw [lst_n h0]; omega), lfP_n h0]
  have e2 : ∀ i, (if num = 0 then 0 else set &&& mLf n val so c (num - 1)).testBit i = (set.testBit i && (decide (i < n) && (decide (0 ≤ val i c) && decide ((val i c).toNat < num)))) := fun i => by
    by_cases q : num = 0
    · rw [if_pos q, Nat.zero_testBit, q]
      simp
    · rw [if_neg q, Nat.testBit_and, mLf_b hc (by rw [lst_n h0]; omega), lfP_n h0]
      have : decide ((val i c).toNat ≤ num - 1) = decide ((val i c).toNat < num) := decide_eq_decide.mpr (by omega)
      rw [this]
  constructor
  · rintro ⟨i, h⟩
    rw [e1, e2] at h
    by_cases hb : set.testBit i = true
    · by_cases hi : i < n
      · by_cases g0 : 0 ≤ val i c
        · refine ⟨i, hi, hb, Classical.byContradiction fun q => h ?_⟩
          have : decide ((val i c).toNat ≤ num) = decide ((val i c).toNat < num) := decide_eq_decide.mpr (by omega)
          rw [this]
        · exact absurd (by simp [g0]) h
      · exact absurd (by simp [hi]) h
    · exact absurd (by simp [hb]) h
  · rintro ⟨i, hi, hb, hv⟩
    refine ⟨i, ?_⟩
    rw [e1, e2]
    have g0 : 0 ≤ val i c := by omega
    have g1 : (val i c).toNat ≤ num := by omega
    have g2 : ¬ (val i c).toNat < num := by omega
    simp [hb, hi, g0, g1, g2]
theorem step_2 {n : Nat} {val : Nat → Nat → Int} {so : Nat → Nat} {set c num : Nat} (hc : c < 4) (h0 : ¬ so c = 1) (hn : num ≤ 100) : set &&& mLf n val so c num ≠ set &&& mK n val c ↔ (num : Int) < grF val set c n := by
  obtain ⟨g1, g2, g3⟩ := grF_ge (val := val) (set := set) (c := c) n
  rw [ne_bit]
  have e1 : ∀ i, (set &&& mLf n val so c num).testBit i = (set.testBit i && (decide (i < n) && (decide (0 ≤ val i c) && decide ((val i c).toNat ≤ num)))) := fun i => by rw [Nat.testBit_and, mLf_b hc (by rw [lst_n h0]; omega), lfP_n h0]
  have e2 : ∀ i, (set &&& mK n val c).testBit i = (set.testBit i && (decide (i < n) && decide (0 ≤ val i c))) := fun i => by rw [Nat.testBit_and, mK_b hc]
  constructor
  · rintro ⟨i, h⟩
    rw [e1, e2] at h
    by_cases hb : set.testBit i = true
    · by_cases hi : i < n
      · by_cases q0 : 0 ≤ val i c
        · by_cases q1 : (val i c).toNat ≤ num
          · exact absurd (by simp [q0, q1]) h
          · have := g2 i hi hb
            omega
        · exact absurd (by simp [q0]) h
      · exact absurd (by simp [hi]) h
    · exact absurd (by simp [hb]) h
  · intro h
    rcases g3 with q | ⟨i, hi, hb, hv⟩
    · omega
    · refine ⟨i, ?_⟩
      rw [e1, e2]
      have q0 : 0 ≤ val i c := by omega
      have q1 : ¬ (val i c).toNat ≤ num := by omega
      simp [hb, hi, q0, q1]
theorem grF_le {n : Nat} {val : Nat → Nat → Int} {so : Nat → Nat} {set c : Nat} (hc : c < 4) (hv : ∀ r, r < n → tks so (val r) = true) : grF val set c n ≤ 100 := by
  obtain ⟨g1, g2, g3⟩ := grF_ge (val := val) (set := set) (c := c) n
  rcases g3 with q | ⟨i, hi, hb, h⟩
  · omega
  · have := (tk_of (tks_iff.mp (hv i hi) c hc)).2.1
    omega
theorem kHad_b (rL : Nat → Nat → Nat) (rows c v : Nat) : ∀ k, (kHad rL rows c k).testBit v = (decide (v < k) && decide (¬ rows &&& rL c (2 ^ v) = 0))
  | 0 => by show (0 : Nat).testBit v = _; rw [Nat.zero_testBit]; simp
  | k + 1 => by
    have h := kHad_b rL rows c v k
    unfold kHad
    by_cases e : rows &&& rL c (2 ^ k) = 0
    · rw [if_pos e, h]
      by_cases q : v = k
      · subst q; simp [e]
      · have : decide (v < k) = decide (v < k + 1) := decide_eq_decide.mpr (by omega)
        rw [this]
    · rw [if_neg e, Nat.testBit_or, h, Nat.testBit_two_pow]
      by_cases q : v = k
      · subst q; simp [e]
      · have : decide (v < k) = decide (v < k + 1) := decide_eq_decide.mpr (by omega)
        rw [this]
        have : decide (k = v) = false := decide_eq_false (by omega)
        rw [this, Bool.or_false]
theorem lfP_2 (v w : Nat) : lfP 1 (2 ^ v) w = decide (v = w) := by
  unfold lfP
  rw [if_pos rfl, bit1, Nat.testBit_two_pow]
  by_cases q : v = w
  · simp [q]
  · simp [q]
theorem kHad_k {n : Nat} {val : Nat → Nat → Int} {so : Nat → Nat} {set c : Nat} (hc : c < 4) (h1 : so c = 1) (hv : ∀ r, r < n → tks so (val r) = true) : kHad (mLf n val so) set c 6 = kdF val set c n := by
  apply Nat.eq_of_testBit_eq
  intro v
  have h5 : ∀ i, i < n → val i c ≤ 5 := fun i hi => (tk_of (tks_iff.mp (hv i hi) c hc)).2.2 h1
  rw [kHad_b, Bool.eq_iff_iff, kdF_bit, Bool.and_eq_true, decide_eq_true_eq, decide_eq_true_eq]
  constructor
  · rintro ⟨a, b⟩
    obtain ⟨i, hi⟩ := ne_bit.mp b
    have hp : 2 ^ v < 64 := Nat.pow_lt_pow_right (by decide) a
    rw [Nat.testBit_and, mLf_b hc (by rw [lst_k h1]; exact hp), Nat.zero_testBit, h1, lfP_2] at hi
    by_cases hb : set.testBit i = true
    · by_cases hin : i < n
      · by_cases q0 : 0 ≤ val i c
        · by_cases q1 : v = (val i c).toNat
          · exact ⟨i, hin, hb, by omega⟩
          · exact absurd (by simp [q1]) hi
        · exact absurd (by simp [q0]) hi
      · exact absurd (by simp [hin]) hi
    · exact absurd (by simp [hb]) hi
  · rintro ⟨i, hin, hb, e⟩
    have := h5 i hin
    have hp : 2 ^ v < 64 := Nat.pow_lt_pow_right (by decide) (show v < 6 by omega)
    refine ⟨by omega, ne_bit.mpr ⟨i, ?_⟩⟩
    rw [Nat.testBit_and, mLf_b hc (by rw [lst_k h1]; exact hp), Nat.zero_testBit, h1, lfP_2]
    have q0 : 0 ≤ val i c := by omega
    have q1 : v = (val i c).toNat := by omega
    simp [hb, hin, ← q1, q0]
section CUTS
variable {n : Nat} {val : Nat → Nat → Int} {cl so : Nat → Nat} {set c : Nat} {num side : Int}
/-- a CUT, as the reference tests it -/
theorem cut_n (hD : dTab n val cl so) (hs : set < 2 ^ n) (hc : c < 4) (h0 : ¬ so c = 1) : (0 ≤ num ∧ num < grF val set c n ∧ hvF val set c num n = true) ↔ (0 ≤ num ∧ kCan so (mK n val) (mLf n val so) set c num.toNat = true) := by
  have hg := grF_le (set := set) hc hD.2.1
  constructor
  · rintro ⟨a, b, d⟩
    refine ⟨a, kCan_s h0 (by omega) ?_⟩
    unfold kStep
    rw [Bool.and_eq_true, decide_eq_true_eq, decide_eq_true_eq, step_1 hc h0 (by omega), step_2 hc h0 (by omega), show ((num.toNat : Nat) : Int) = num by omega]
    exact ⟨d, b⟩
  · rintro ⟨a, b⟩
    rcases kCan_or b with ⟨q, -⟩ | ⟨-, q1, q2⟩
    · exact absurd q h0
    · unfold kStep at q2
      rw [Bool.and_eq_true, decide_eq_true_eq, decide_eq_true_eq, step_1 hc h0 (by omega), step_2 hc h0 (by omega), show ((num.toNat : Nat) : Int) = num by omega] at q2
      exact ⟨a, q2.2, q2.1⟩
theorem cut_k (hD : dTab n val cl so) (hc : c < 4) (h1 : so c = 1) : (0 < num ∧ num < 64 ∧ nd num.toNat (kdF val set c n) = 0 ∧ ¬ num.toNat = kdF val set c n ∧ ¬ num.toNat &&& low (kdF val set c n) = 0) ↔ (0 ≤ num ∧ kCan so (mK n val) (mLf n val so) set c num.toNat = true) := by
  have hk := kHad_k (set := set) hc h1 hD.2.1
  constructor
  · rintro ⟨a, b, d, e, g⟩
    refine ⟨by omega, kCan_g h1 (by omega) ?_⟩
    unfold kGrp
    rw [hk, decide_eq_true d, decide_eq_true (show num.toNat &&& low (kdF val set c n) ≠ 0 from g), decide_eq_true (show num.toNat ≠ kdF val set c n from e)]
    rfl
  · rintro ⟨a, b⟩
    rcases kCan_or b with ⟨-, q1, q2⟩ | ⟨q, -⟩
    · unfold kGrp at q2
      rw [hk, Bool.and_eq_true, Bool.and_eq_true, decide_eq_true_eq, decide_eq_true_eq, decide_eq_true_eq] at q2
      obtain ⟨⟨d, e⟩, g⟩ := q2
      have hne : ¬ num = 0 := fun q => e (by rw [q]; exact Nat.zero_and _)
      exact ⟨by omega, by omega, d, g, e⟩
    · exact absurd h1 q
end CUTS
theorem tk_le {s : Nat} {v : Int} (h : tk s v = true) : v ≤ (if s = 1 then 5 else 100) := by
  unfold tk at h
  rw [Bool.and_eq_true, decide_eq_true_eq, decide_eq_true_eq] at h
  exact h.2
theorem lfF_t {val : Nat → Nat → Int} {so : Nat → Nat} {set c num side r : Nat} (h : set.testBit r = true ∧ goP val so c num side r = true) : lfF val so set c num side r ||| 2 ^ r = lfF val so set c num side (r + 1) := by
  show _ = (if set.testBit r = true ∧ goP val so c num side r = true then _ else _)
  rw [if_pos h]
theorem lfF_f {val : Nat → Nat → Int} {so : Nat → Nat} {set c num side r : Nat} (h : ¬ (set.testBit r = true ∧ goP val so c num side r = true)) : lfF val so set c num side r ||| 0 = lfF val so set c num side (r + 1) := by
  show _ = (if set.testBit r = true ∧ goP val so c num side r = true then _ else _)
  rw [if_neg h, Nat.or_zero]
theorem kdF_t {val : Nat → Nat → Int} {set c r : Nat} (h : set.testBit r = true ∧ 0 ≤ val r c) : kdF val set c r ||| 2 ^ (val r c).toNat = kdF val set c (r + 1) := by
  show _ = (if set.testBit r = true ∧ 0 ≤ val r c then _ else _)
  rw [if_pos h]
theorem kdF_f {val : Nat → Nat → Int} {set c r : Nat} (h : ¬ (set.testBit r = true ∧ 0 ≤ val r c)) : kdF val set c r ||| 0 = kdF val set c (r + 1) := by
  show _ = (if set.testBit r = true ∧ 0 ≤ val r c then _ else _)
  rw [if_neg h, Nat.or_zero]
theorem grF_t {val : Nat → Nat → Int} {set c r : Nat} (h : set.testBit r = true ∧ grF val set c r < val r c) : val r c = grF val set c (r + 1) := by
  show _ = (if set.testBit r = true ∧ grF val set c r < val r c then _ else _)
  rw [if_pos h]
theorem grF_f {val : Nat → Nat → Int} {set c r : Nat} (h : ¬ (set.testBit r = true ∧ grF val set c r < val r c)) : grF val set c r = grF val set c (r + 1) := by
  show _ = (if set.testBit r = true ∧ grF val set c r < val r c then _ else _)
  rw [if_neg h]
