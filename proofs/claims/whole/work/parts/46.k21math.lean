/-! THE SUMS ARE SMALL: by the depth -/
def wt (d : Int) : Int := 2 ^ (5 - d).toNat
theorem wt_2 {d : Int} (h : d < 5) : wt d = wt (d + 1) + wt (d + 1) := by
  unfold wt
  rw [show (5 - d).toNat = (5 - (d + 1)).toNat + 1 by omega, Int.pow_succ]
  omega
theorem wt_1 (d : Int) : 1 ≤ wt d := by
  unfold wt
  have h : (0 : Int) < 2 ^ (5 - d).toNat := Int.pow_pos (by decide)
  omega
theorem wt_le {d : Int} (h : 0 ≤ d) : wt d ≤ 32 := by
  unfold wt
  have h1 : (5 - d).toNat ≤ 5 := by omega
  have h2 : (2 : Nat) ^ (5 - d).toNat ≤ 2 ^ 5 := Nat.pow_le_pow_right (by decide) h1
  have h3 : ((2 ^ (5 - d).toNat : Nat) : Int) = (2 : Int) ^ (5 - d).toNat := by simp
  omega
/-- the sums of a node, by its depth -/
def sB (T : Nat → Nat → Int) (n : Nat) : Prop := (0 ≤ T n 10 ∧ T n 10 ≤ wt (T n 3)) ∧ (-(24 * wt (T n 3)) ≤ T n 11 ∧ T n 11 ≤ 24 * wt (T n 3))
theorem sB_sum {sz : Nat} {T : Nat → Nat → Int} {ch : Nat → Option Nat} (hok : gOk (sz, T, ch)) (hdo : dOk 0 (sz, T, ch)) {T9 : Nat → Nat → Int} (he : zEq T T9) (s : Int) : ∀ j, j ≤ sz → ∀ n, sz - j ≤ n → n < sz → sB (kSum ch s sz j T9) n
  | 0, _, n, h1, h2 => by omega
  | j + 1, hj, n, h1, h2 => by
    have ih := sB_sum hok hdo he s j (by omega)
    have hi : ∀ x q, q ≠ 10 → q ≠ 11 → kSum ch s sz j T9 x q = T9 x q := fun x q q1 q2 => kSum_hi ch s sz T9 x q (by omega) j
    show sB (va_up (kSum ch s sz j T9) (sz - 1 - j) (fSum (kSum ch s sz j T9) ch s (sz - 1 - j))) n
    by_cases e : n = sz - 1 - j
    · unfold sB
      rw [e, va_up_self]
      have hx : sz - 1 - j < sz := by omega
      obtain ⟨-, ⟨d0, d5⟩, w1, w2⟩ := hok.2.2 (sz - 1 - j) hx
      have d0 : 0 ≤ T (sz - 1 - j) 3 := d0
      have d5 : T (sz - 1 - j) 3 ≤ 5 := d5
      have w1 : -24 ≤ T (sz - 1 - j) 5 := w1
      have w2 : T (sz - 1 - j) 5 ≤ 24 := w2
      have g3 : fSum (kSum ch s sz j T9) ch s (sz - 1 - j) 3 = T (sz - 1 - j) 3 := by rw [fSum_hi _ _ _ _ _ (by decide), hi _ _ (by decide) (by decide), he _ _ (by decide) (by decide) (by decide) (by decide)]
      have g5 : kSum ch s sz j T9 (sz - 1 - j) 5 = T (sz - 1 - j) 5 := by rw [hi _ _ (by decide) (by decide), he _ _ (by decide) (by decide) (by decide) (by decide)]
      rw [g3]
      have k1 := wt_1 (T (sz - 1 - j) 3)
      cases hch : ch (sz - 1 - j) with
      | none =>
        have a10 : fSum (kSum ch s sz j T9) ch s (sz - 1 - j) 10 = 1 := by unfold fSum; rw [hch]; rfl
        have a11 : fSum (kSum ch s sz j T9) ch s (sz - 1 - j) 11 = kSum ch s sz j T9 (sz - 1 - j) 5 := by unfold fSum; rw [hch]; rfl
        rw [a10, a11, g5]
        omega
      | some q =>
        obtain ⟨m, m1, m2, m3, m4, m5⟩ := hdo (sz - 1 - j) q hx hch
        have m3 : m + 1 < sz := m3
        have m4 : T m 3 = T (sz - 1 - j) 3 + 1 := m4
        have m5 : T (m + 1) 3 = T (sz - 1 - j) 3 + 1 := m5
        have a10 : fSum (kSum ch s sz j T9) ch s (sz - 1 - j) 10 = (if kSum ch s sz j T9 (sz - 1 - j) 8 ≤ s then 1 else kSum ch s sz j T9 ((q - 76) / 3) 10 + kSum ch s sz j T9 ((q - 76) / 3 + 1) 10) := by unfold fSum; rw [hch]; rfl
        have a11 : fSum (kSum ch s sz j T9) ch s (sz - 1 - j) 11 = (if kSum ch s sz j T9 (sz - 1 - j) 8 ≤ s then kSum ch s sz j T9 (sz - 1 - j) 5 else kSum ch s sz j T9 ((q - 76) / 3) 11 + kSum ch s sz j T9 ((q - 76) / 3 + 1) 11) := by unfold fSum; rw [hch]; rfl
        rw [a10, a11, g5, show (q - 76) / 3 = m by omega]
        by_cases g : kSum ch s sz j T9 (sz - 1 - j) 8 ≤ s
        · rw [if_pos g, if_pos g]
          omega
        · rw [if_neg g, if_neg g]
          have b1 := ih m (by omega) (by omega)
          have b2 := ih (m + 1) (by omega) m3
          unfold sB at b1 b2
          have q1 : kSum ch s sz j T9 m 3 = T (sz - 1 - j) 3 + 1 := by rw [hi _ _ (by decide) (by decide), he _ _ (by decide) (by decide) (by decide) (by decide)]; exact m4
          have q2 : kSum ch s sz j T9 (m + 1) 3 = T (sz - 1 - j) 3 + 1 := by rw [hi _ _ (by decide) (by decide), he _ _ (by decide) (by decide) (by decide) (by decide)]; exact m5
          rw [q1] at b1
          rw [q2] at b2
          have dm := (hok.2.2 m (by show m < sz; omega)).2.1.2
          have dm : T m 3 ≤ 5 := dm
          have k2 := wt_2 (d := T (sz - 1 - j) 3) (by omega)
          omega
    · have := ih n (by omega) h2
      unfold sB at this ⊢
      rw [va_up_ne _ _ e]
      exact this
/-- what cutBackToRoot wants -/
theorem hi5_of {sz : Nat} {T : Nat → Nat → Int} {ch : Nat → Option Nat} (hok : gOk (sz, T, ch)) (hdo : dOk 0 (sz, T, ch)) : ∀ (s : Nat) (T9 : Nat → Nat → Int), zEq T T9 → ∀ x, x < sz → ir (kSum ch s sz sz T9 x 5 - kSum ch s sz sz T9 x 11) ∧ ir (kSum ch s sz sz T9 x 10 - 1) := fun s T9 he x hx => by
  have h := sB_sum hok hdo he s sz (Nat.le_refl _) x (by omega) hx
  unfold sB at h
  have e3 : kSum ch s sz sz T9 x 3 = T x 3 := by rw [kSum_hi _ _ _ _ _ _ (by decide), he _ _ (by decide) (by decide) (by decide) (by decide)]
  have e5 : kSum ch s sz sz T9 x 5 = T x 5 := by rw [kSum_hi _ _ _ _ _ _ (by decide), he _ _ (by decide) (by decide) (by decide) (by decide)]
  rw [e3] at h
  obtain ⟨-, ⟨d0, -⟩, w1, w2⟩ := hok.2.2 x hx
  have d0 : 0 ≤ T x 3 := d0
  have w1 : -24 ≤ T x 5 := w1
  have w2 : T x 5 ≤ 24 := w2
  have k := wt_le d0
  rw [e5]
  unfold ir
  omega
