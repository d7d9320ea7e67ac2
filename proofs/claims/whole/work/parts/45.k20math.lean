/-! WHAT GROWING KEEPS, and the bounds of the sums -/
def dOk (t : Nat) (s : gS) : Prop := ∀ n q, n < s.1 → s.2.2 n = some q → ∃ m, q = 76 + 141 * t + 3 * m ∧ n < m ∧ m + 1 < s.1 ∧ s.2.1 m 3 = s.2.1 n 3 + 1 ∧ s.2.1 (m + 1) 3 = s.2.1 n 3 + 1
def gInv (t : Nat) (s : gS) : Prop := gOk s ∧ tOk s.2.1 ∧ chOk t s.2.2 ∧ dOk t s
theorem fCut_lo (F : Nat → Int) (B : lkB) (j : Nat) (h : j < 12) : fCut F B j = F j := by
  unfold fCut
  rw [va_up_ne _ _ (by omega), va_up_ne _ _ (by omega), va_up_ne _ _ (by omega), va_up_ne _ _ (by omega), va_up_ne _ _ (by omega)]
theorem fBeg_hi (rC : Nat → Nat) (F : Nat → Int) (rows : Nat) (dep : Int) (j : Nat) (h : 5 < j) : fBeg rC F rows dep j = F j := by
  unfold fBeg
  rw [va_up_ne _ _ (by omega), va_up_ne _ _ (by omega), va_up_ne _ _ (by omega), va_up_ne _ _ (by omega)]
theorem gInv_put {rC rK : Nat → Nat} {rL : Nat → Nat → Nat} {t : Nat} {s : gS} {k : Nat} {B : lkB} (h : gInv t s) (hk : k < s.1) (hz : s.1 + 2 ≤ 47) (hd : s.2.1 k 3 < 5) {c num side : Nat} (hc : c < 4) (hn : num ≤ 100) (hs : side ≤ 1) (e1 : B.2.1 = c) (e2 : B.2.2.1 = num) (e3 : B.2.2.2.1 = side) : gInv t (kPut rC rK rL t s k B) := by
  obtain ⟨h1, h2, h3, h4⟩ := h
  obtain ⟨sz, T, ch⟩ := s
  have hk : k < sz := hk
  have hz : sz + 2 ≤ 47 := hz
  refine ⟨gOk_put h1 hk hz hd, ?_, ?_, ?_⟩
  · intro n hn47
    show ∃ c num side : Nat, c < 4 ∧ num ≤ 100 ∧ side ≤ 1 ∧ va_up (va_up (va_up T k (fCut (T k) B)) sz _) (sz + 1) _ n 12 = c ∧ va_up (va_up (va_up T k (fCut (T k) B)) sz _) (sz + 1) _ n 13 = num ∧ va_up (va_up (va_up T k (fCut (T k) B)) sz _) (sz + 1) _ n 14 = side
    by_cases n1 : n = sz + 1
    · subst n1
      rw [va_up_self, fBeg_hi _ _ _ _ _ (by decide), fBeg_hi _ _ _ _ _ (by decide), fBeg_hi _ _ _ _ _ (by decide)]
      exact h2 (sz + 1) hn47
    · rw [va_up_ne _ _ n1]
      by_cases n2 : n = sz
      · subst n2
        rw [va_up_self, fBeg_hi _ _ _ _ _ (by decide), fBeg_hi _ _ _ _ _ (by decide), fBeg_hi _ _ _ _ _ (by decide)]
        exact h2 n hn47
      · rw [va_up_ne _ _ n2]
        by_cases n3 : n = k
        · subst n3
          rw [va_up_self]
          exact ⟨c, num, side, hc, hn, hs, e1, e2, e3⟩
        · rw [va_up_ne _ _ n3]
          exact h2 n hn47
  · intro n q hn47 hq
    have hq : va_up (va_up (va_up ch k (some (76 + 141 * t + 3 * sz))) sz none) (sz + 1) none n = some q := hq
    by_cases n1 : n = sz + 1
    · subst n1; rw [va_up_self] at hq; cases hq
    · rw [va_up_ne _ _ n1] at hq
      by_cases n2 : n = sz
      · subst n2; rw [va_up_self] at hq; cases hq
      · rw [va_up_ne _ _ n2] at hq
        by_cases n3 : n = k
        · subst n3
          rw [va_up_self] at hq
          cases hq
          exact ⟨sz, rfl, hk, by omega⟩
        · rw [va_up_ne _ _ n3] at hq
          exact h3 n q hn47 hq
  · intro n q hn2 hq
    have hn2 : n < sz + 2 := hn2
    have hq : va_up (va_up (va_up ch k (some (76 + 141 * t + 3 * sz))) sz none) (sz + 1) none n = some q := hq
    have T3 : ∀ x, x < sz → va_up (va_up (va_up T k (fCut (T k) B)) sz (fBeg rC (T sz) (kLeft rK rL (T k 2).toNat B.2.1.toNat B.2.2.1.toNat B.2.2.2.1.toNat) (T k 3 + 1))) (sz + 1) (fBeg rC (T (sz + 1)) (nd (T k 2).toNat (kLeft rK rL (T k 2).toNat B.2.1.toNat B.2.2.1.toNat B.2.2.2.1.toNat)) (T k 3 + 1)) x 3 = T x 3 := fun x hx => by
      rw [va_up_ne _ _ (by omega), va_up_ne _ _ (by omega)]
      by_cases e : x = k
      · subst e; rw [va_up_self, fCut_lo _ _ _ (by decide)]
      · rw [va_up_ne _ _ e]
    show ∃ m, q = 76 + 141 * t + 3 * m ∧ n < m ∧ m + 1 < sz + 2 ∧ va_up (va_up (va_up T k (fCut (T k) B)) sz (fBeg rC (T sz) (kLeft rK rL (T k 2).toNat B.2.1.toNat B.2.2.1.toNat B.2.2.2.1.toNat) (T k 3 + 1))) (sz + 1) (fBeg rC (T (sz + 1)) (nd (T k 2).toNat (kLeft rK rL (T k 2).toNat B.2.1.toNat B.2.2.1.toNat B.2.2.2.1.toNat)) (T k 3 + 1)) m 3 = va_up (va_up (va_up T k (fCut (T k) B)) sz (fBeg rC (T sz) (kLeft rK rL (T k 2).toNat B.2.1.toNat B.2.2.1.toNat B.2.2.2.1.toNat) (T k 3 + 1))) (sz + 1) (fBeg rC (T (sz + 1)) (nd (T k 2).toNat (kLeft rK rL (T k 2).toNat B.2.1.toNat B.2.2.1.toNat B.2.2.2.1.toNat)) (T k 3 + 1)) n 3 + 1 ∧ va_up (va_up (va_up T k (fCut (T k) B)) sz (fBeg rC (T sz) (kLeft rK rL (T k 2).toNat B.2.1.toNat B.2.2.1.toNat B.2.2.2.1.toNat) (T k 3 + 1))) (sz + 1) (fBeg rC (T (sz + 1)) (nd (T k 2).toNat (kLeft rK rL (T k 2).toNat B.2.1.toNat B.2.2.1.toNat B.2.2.2.1.toNat)) (T k 3 + 1)) (m + 1) 3 = va_up (va_up (va_up T k (fCut (T k) B)) sz (fBeg rC (T sz) (kLeft rK rL (T k 2).toNat B.2.1.toNat B.2.2.1.toNat B.2.2.2.1.toNat) (T k 3 + 1))) (sz + 1) (fBeg rC (T (sz + 1)) (nd (T k 2).toNat (kLeft rK rL (T k 2).toNat B.2.1.toNat B.2.2.1.toNat B.2.2.2.1.toNat)) (T k 3 + 1)) n 3 + 1
    by_cases n1 : n = sz + 1
    · subst n1; rw [va_up_self] at hq; cases hq
    · rw [va_up_ne _ _ n1] at hq
      by_cases n2 : n = sz
      · subst n2; rw [va_up_self] at hq; cases hq
      · rw [va_up_ne _ _ n2] at hq
        have hns : n < sz := by omega
        by_cases n3 : n = k
        · subst n3
          rw [va_up_self] at hq
          cases hq
          refine ⟨sz, rfl, hk, by omega, ?_, ?_⟩
          · rw [T3 n hns, va_up_ne _ _ (by omega), va_up_self]; exact (fBeg_5 _ _ _ _).2.1
          · rw [T3 n hns, va_up_self]; exact (fBeg_5 _ _ _ _).2.1
        · rw [va_up_ne _ _ n3] at hq
          obtain ⟨m, g1, g2, g3, g4, g5⟩ := h4 n q hns hq
          have g3 : m + 1 < sz := g3
          exact ⟨m, g1, g2, by omega, by rw [T3 m (by omega), T3 n hns]; exact g4, by rw [T3 (m + 1) g3, T3 n hns]; exact g5⟩
theorem gInv_itr {so rC rK : Nat → Nat} {rL : Nat → Nat → Nat} {le de wo t : Nat} (hde : de ≤ 5) {s0 : gS} (h : gInv t s0) : ∀ k, gInv t (kItr so rC rK rL le de wo t s0 k)
  | 0 => h
  | k + 1 => by
    have h1 := gInv_itr (so := so) (rC := rC) (rK := rK) (rL := rL) (le := le) (wo := wo) hde h k
    show gInv t (if k < (kItr so rC rK rL le de wo t s0 k).1 then _ else _)
    split
    · rename_i hk
      unfold kStp
      split
      · rename_i hd
        obtain ⟨d1, d2, d3⟩ := kDue_of hd
        obtain ⟨c, num, side, hc, hn, hs, e1, e2, e3, -, -⟩ := lkR_all (so := so) (rC := rC) (rK := rK) (rL := rL) (le := le) rfl d2
        exact gInv_put h1 hk (by omega) (by have := (h1.1.2.2 k hk).2.1; omega) hc hn hs e1 e2 e3
      · exact h1
    · exact h1
