/-! GROWING in numbers: a state is how many nodes, their numbers, their left children's cells -/
abbrev gS : Type := Nat × (Nat → Nat → Int) × (Nat → Option Nat)
/-- the best CUT of some rows, with how many there are -/
noncomputable def kBest (so rC rK : Nat → Nat) (rL : Nat → Nat → Nat) (le rows : Nat) : lkB := lk0 so rC rK rL le rows 4 (0, (0, 0, 0, 0, 1))
def lkE (B B' : lkB) : Prop := B.1 = B'.1 ∧ (0 < B.1 → B = B')
theorem lkE_S {rC rK : Nat → Nat} {rL : Nat → Nat → Nat} {le rows c num side : Nat} {B B' : lkB} (h : lkE B B') : lkE (lkS rC rK rL le rows c num side B) (lkS rC rK rL le rows c num side B') := by
  rcases Nat.eq_zero_or_pos B.1 with h0 | h0
  · have h0' : B'.1 = 0 := h.1 ▸ h0
    unfold lkS
    by_cases h1 : kMay rK rL le rows c num side = true
    · rw [if_pos h1, if_pos h1, if_pos (Or.inl h0), if_pos (Or.inl h0'), h.1]
      exact ⟨rfl, fun _ => rfl⟩
    · rw [if_neg h1, if_neg h1]
      exact h
  · have e := h.2 h0
    subst e
    exact ⟨rfl, fun _ => rfl⟩
theorem lkE_1 {so rC rK : Nat → Nat} {rL : Nat → Nat → Nat} {le rows c : Nat} {B B' : lkB} (h : lkE B B') : ∀ k, lkE (lk1 so rC rK rL le rows c k B) (lk1 so rC rK rL le rows c k B')
  | 0 => h
  | k + 1 => by
    have h1 := lkE_1 (so := so) (rC := rC) (rK := rK) (rL := rL) (le := le) (rows := rows) (c := c) h k
    show lkE (lk2 so rC rK rL le rows c k _) (lk2 so rC rK rL le rows c k _)
    unfold lk2
    split
    · exact lkE_S (lkE_S h1)
    · exact h1
theorem lkE_0 {so rC rK : Nat → Nat} {rL : Nat → Nat → Nat} {le rows : Nat} {B B' : lkB} (h : lkE B B') : ∀ c, lkE (lk0 so rC rK rL le rows c B) (lk0 so rC rK rL le rows c B')
  | 0 => h
  | c + 1 => lkE_1 (lkE_0 (so := so) (rC := rC) (rK := rK) (rL := rL) (le := le) (rows := rows) h c) 101
theorem kBest_e {so rC rK : Nat → Nat} {rL : Nat → Nat → Nat} {le rows : Nat} {B : lkB} {B0 : Int × Int × Int × Int × Int} (hB : B = lk0 so rC rK rL le rows 4 (0, B0)) : lkE B (kBest so rC rK rL le rows) := by
  rw [hB]
  have h0 : lkE (0, B0) (0, ((0 : Int), (0 : Int), (0 : Int), (0 : Int), (1 : Int))) := ⟨rfl, fun h => absurd h (Nat.lt_irrefl 0)⟩
  exact lkE_0 h0 4
/-- node k is due to be parted -/
noncomputable def kDue (so rC rK : Nat → Nat) (rL : Nat → Nat → Nat) (le de wo : Nat) (s : gS) (k : Nat) : Bool :=
  !(decide (s.2.1 k 5 = 0) || decide (de ≤ (s.2.1 k 3).toNat) || decide (47 < s.1 + 2)) && decide (0 < (kBest so rC rK rL le (s.2.1 k 2).toNat).1) && decide ((wo : Int) * (kBest so rC rK rL le (s.2.1 k 2).toNat).2.2.2.2.2 < 100 * (kBest so rC rK rL le (s.2.1 k 2).toNat).2.2.2.2.1)
def fCut (F : Nat → Int) (B : lkB) : Nat → Int := va_up (va_up (va_up (va_up (va_up F 12 B.2.1) 13 B.2.2.1) 14 B.2.2.2.1) 15 B.2.2.2.2.1) 16 B.2.2.2.2.2
/-- the state with node k parted by B -/
noncomputable def kPut (rC rK : Nat → Nat) (rL : Nat → Nat → Nat) (t : Nat) (s : gS) (k : Nat) (B : lkB) : gS :=
  (s.1 + 2,
   va_up (va_up (va_up s.2.1 k (fCut (s.2.1 k) B)) s.1 (fBeg rC (s.2.1 s.1) (kLeft rK rL (s.2.1 k 2).toNat B.2.1.toNat B.2.2.1.toNat B.2.2.2.1.toNat) (s.2.1 k 3 + 1))) (s.1 + 1) (fBeg rC (s.2.1 (s.1 + 1)) (nd (s.2.1 k 2).toNat (kLeft rK rL (s.2.1 k 2).toNat B.2.1.toNat B.2.2.1.toNat B.2.2.2.1.toNat)) (s.2.1 k 3 + 1)),
   va_up (va_up (va_up s.2.2 k (some (76 + 141 * t + 3 * s.1))) s.1 none) (s.1 + 1) none)
noncomputable def kStp (so rC rK : Nat → Nat) (rL : Nat → Nat → Nat) (le de wo t : Nat) (s : gS) (k : Nat) : gS := if kDue so rC rK rL le de wo s k = true then kPut rC rK rL t s k (kBest so rC rK rL le (s.2.1 k 2).toNat) else s
noncomputable def kItr (so rC rK : Nat → Nat) (rL : Nat → Nat → Nat) (le de wo t : Nat) (s0 : gS) : Nat → gS
  | 0 => s0
  | k + 1 => if k < (kItr so rC rK rL le de wo t s0 k).1 then kStp so rC rK rL le de wo t (kItr so rC rK rL le de wo t s0 k) k else kItr so rC rK rL le de wo t s0 k
/-- what growing keeps -/
def gON (F : Nat → Int) : Prop := (0 ≤ F 2 ∧ F 2 < 16777216) ∧ (0 ≤ F 3 ∧ F 3 ≤ 5) ∧ (-24 ≤ F 5 ∧ F 5 ≤ 24)
def gOk (s : gS) : Prop := 1 ≤ s.1 ∧ s.1 ≤ 47 ∧ ∀ n, n < s.1 → gON (s.2.1 n)
/-- since σ only the survey's cells and tree t's have changed -/
def gFr (t : Nat) (σ σ' : xF) : Prop := ∀ q, q ≠ 4 → q ≠ 5 → q ≠ 6 → q ≠ 7 → q ≠ 8 + t → (q < 76 + 141 * t ∨ 76 + 141 * t + 141 ≤ q) → σ' q = σ q
/-- the survey's cells are such -/
def lkO (ad : Nat → Nat) (σ : xF) : Prop := ∃ B : Int × Int × Int × Int × Int, lkI ad σ σ (0, B)
theorem lkI_O {ad : Nat → Nat} {σ σv : xF} {B : lkB} (h : lkI ad σ σv B) : lkO ad σv := ⟨B.2, fun _ _ _ _ _ => rfl, h.2.1, h.2.2.1, h.2.2.2.1, h.2.2.2.2.1, h.2.2.2.2.2.1, h.2.2.2.2.2.2⟩
theorem lkO_up {ad : Nat → Nat} {σ σ' : xF} (h : lkO ad σ) (e4 : σ' 4 = σ 4) (e5 : σ' 5 = σ 5) (e6 : σ' 6 = σ 6) (e7 : σ' 7 = σ 7) : lkO ad σ' := by
  obtain ⟨B, h1, ⟨c, n, s, h2⟩, ⟨a, b, h3⟩, h4, h5, h6, h7⟩ := h
  exact ⟨B, fun _ _ _ _ _ => rfl, ⟨c, n, s, e4.trans h2⟩, ⟨a, b, e5.trans h3⟩, e6.trans h4, e7.trans h5, h6, h7⟩
theorem fBeg_5 (rC : Nat → Nat) (F : Nat → Int) (rows : Nat) (dep : Int) : fBeg rC F rows dep 2 = rows ∧ fBeg rC F rows dep 3 = dep ∧ (-24 ≤ fBeg rC F rows dep 5 ∧ fBeg rC F rows dep 5 ≤ 24) := by
  refine ⟨rfl, rfl, ?_⟩
  show -24 ≤ ((cnt rows : Nat) : Int) - ((kCnt rC rows (kLab rC rows) : Nat) : Int) ∧ ((cnt rows : Nat) : Int) - ((kCnt rC rows (kLab rC rows) : Nat) : Int) ≤ 24
  have h1 := cnt_le rows
  have h2 := kCnt_le rC rows (kLab rC rows)
  omega
theorem kDue_t {so rC rK : Nat → Nat} {rL : Nat → Nat → Nat} {le de wo : Nat} {s : gS} {k : Nat} (h1 : ¬ (s.2.1 k 5 = 0 ∨ de ≤ (s.2.1 k 3).toNat ∨ 47 < s.1 + 2)) (h2 : 0 < (kBest so rC rK rL le (s.2.1 k 2).toNat).1) (h3 : (wo : Int) * (kBest so rC rK rL le (s.2.1 k 2).toNat).2.2.2.2.2 < 100 * (kBest so rC rK rL le (s.2.1 k 2).toNat).2.2.2.2.1) : kDue so rC rK rL le de wo s k = true := by
  unfold kDue
  rw [decide_eq_true h2, decide_eq_true h3, decide_eq_false (fun q => h1 (Or.inl q)), decide_eq_false (fun q => h1 (Or.inr (Or.inl q))), decide_eq_false (fun q => h1 (Or.inr (Or.inr q)))]
  rfl
theorem kDue_of {so rC rK : Nat → Nat} {rL : Nat → Nat → Nat} {le de wo : Nat} {s : gS} {k : Nat} (q : kDue so rC rK rL le de wo s k = true) : ¬ (s.2.1 k 5 = 0 ∨ de ≤ (s.2.1 k 3).toNat ∨ 47 < s.1 + 2) ∧ 0 < (kBest so rC rK rL le (s.2.1 k 2).toNat).1 ∧ (wo : Int) * (kBest so rC rK rL le (s.2.1 k 2).toNat).2.2.2.2.2 < 100 * (kBest so rC rK rL le (s.2.1 k 2).toNat).2.2.2.2.1 := by
  unfold kDue at q
  rw [Bool.and_eq_true, Bool.and_eq_true, decide_eq_true_eq, decide_eq_true_eq] at q
  obtain ⟨⟨q1, q2⟩, q3⟩ := q
  refine ⟨fun h => ?_, q2, q3⟩
  rcases h with h | h | h
  · rw [decide_eq_true h] at q1; cases q1
  · rw [decide_eq_true h] at q1; simp at q1
  · rw [decide_eq_true h] at q1; simp at q1
