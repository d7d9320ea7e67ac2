/-! THE SURVEY'S LOOPS in numbers -/
noncomputable def lkD (rC rK : Nat → Nat) (rL : Nat → Nat → Nat) (le rows c num : Nat) : Nat → lkB → lkB
  | 0, B => B
  | d + 1, B => lkS rC rK rL le rows c num d (lkD rC rK rL le rows c num d B)
theorem lk_no {rC rK : Nat → Nat} {rL : Nat → Nat → Nat} {le rows c num side : Nat} {B : lkB} (h : ¬ kMay rK rL le rows c num side = true) : lkS rC rK rL le rows c num side B = B := by
  unfold lkS
  rw [if_neg h]
theorem lk_a {rC rK : Nat → Nat} {rL : Nat → Nat → Nat} {le rows c num side : Nat} {B : lkB} (h : kMay rK rL le rows c num side = true) (h2 : B.1 = 0 ∨ B.2.2.2.2.1 * (kBe rK rL rows c num side : Int) < kAb rC rK rL rows c num side * B.2.2.2.2.2) : lkS rC rK rL le rows c num side B = (B.1 + 1, (c : Int), (num : Int), (side : Int), kAb rC rK rL rows c num side, (kBe rK rL rows c num side : Int)) := by
  unfold lkS
  rw [if_pos h, if_pos h2]
theorem lk_b {rC rK : Nat → Nat} {rL : Nat → Nat → Nat} {le rows c num side : Nat} {B : lkB} (h : kMay rK rL le rows c num side = true) (h2 : ¬ (B.1 = 0 ∨ B.2.2.2.2.1 * (kBe rK rL rows c num side : Int) < kAb rC rK rL rows c num side * B.2.2.2.2.2)) : lkS rC rK rL le rows c num side B = (B.1 + 1, B.2) := by
  unfold lkS
  rw [if_pos h, if_neg h2]
theorem lkI_tr {ad : Nat → Nat} {σ σv : xF} {B : lkB} (h : lkI ad σ σv B) {c n s a b : Int} {σw : xF} (hw : σw = va_up (va_up σv 4 (eO 0 [.ref (ad 5), .int (iv c), .int (iv n), .int (iv s)])) 5 (eO 1 [.int (iv a), .int (iv b)])) : lkI ad σ σw B ∧ pCut ad σw 4 5 c n s ∧ pFra σw 5 a b := by
  obtain ⟨h1, h2, h3, h4, h5, h6, h7⟩ := h
  have e4 : pCut ad σw 4 5 c n s := by unfold pCut; rw [hw, va_up_ne _ _ (by decide), va_up_self]
  have e5 : pFra σw 5 a b := by unfold pFra; rw [hw, va_up_self]
  refine ⟨⟨fun q q4 q5 q6 q7 => ?_, ⟨c, n, s, e4⟩, ⟨a, b, e5⟩, ?_, ?_, h6, h7⟩, e4, e5⟩
  · rw [hw, va_up_ne _ _ q5, va_up_ne _ _ q4]; exact h1 q q4 q5 q6 q7
  · unfold pCut; rw [hw, va_up_ne _ _ (by decide), va_up_ne _ _ (by decide)]; exact h4
  · unfold pFra; rw [hw, va_up_ne _ _ (by decide), va_up_ne _ _ (by decide)]; exact h5
theorem lkI_be {ad : Nat → Nat} {σ σv : xF} {B : lkB} (h : lkI ad σ σv B) {f : Nat} {c n s a b : Int} (ra : ir a) (rb : ir b) {σw : xF} (hw : σw = va_up (va_up σv 6 (eO 0 [.ref (ad 7), .int (iv c), .int (iv n), .int (iv s)])) 7 (eO 1 [.int (iv a), .int (iv b)])) : lkI ad σ σw (f, c, n, s, a, b) := by
  obtain ⟨h1, ⟨c4, n4, s4, h2⟩, ⟨a5, b5, h3⟩, h4, h5, h6, h7⟩ := h
  refine ⟨fun q q4 q5 q6 q7 => ?_, ⟨c4, n4, s4, ?_⟩, ⟨a5, b5, ?_⟩, ?_, ?_, ra, rb⟩
  · rw [hw, va_up_ne _ _ q7, va_up_ne _ _ q6]; exact h1 q q4 q5 q6 q7
  · unfold pCut; rw [hw, va_up_ne _ _ (by decide), va_up_ne _ _ (by decide)]; exact h2
  · unfold pFra; rw [hw, va_up_ne _ _ (by decide), va_up_ne _ _ (by decide)]; exact h3
  · unfold pCut; rw [hw, va_up_ne _ _ (by decide), va_up_self]
  · unfold pFra; rw [hw, va_up_self]
theorem lkI_n {ad : Nat → Nat} {σ σv : xF} {B : lkB} (h : lkI ad σ σv B) (f : Nat) : lkI ad σ σv (f, B.2) := h
theorem lkI_tab {G : xG} {ad : Nat → Nat} {σ σv : xF} {B : lkB} (h : lkI ad σ σv B) {n : Nat} {val : Nat → Nat → Int} {cl so rC rK : Nat → Nat} {rL : Nat → Nat → Nat} (hT : pTab G ad σ n val cl so rC rK rL) : pTab G ad σv n val cl so rC rK rL := hT.up (fun i hi => h.1 i (by omega) (by omega) (by omega) (by omega))
