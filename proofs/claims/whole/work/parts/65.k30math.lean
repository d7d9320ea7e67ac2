/-! SUMMING UP: what the sums are, node by node -/
theorem kSum_late {ch : Nat → Option Nat} {s : Int} {sz : Nat} {T : Nat → Nat → Int} {j : Nat} (hj : j < sz) : ∀ d, j + 1 + d ≤ sz → kSum ch s sz (j + 1 + d) T (sz - 1 - j) = kSum ch s sz (j + 1) T (sz - 1 - j)
  | 0, _ => rfl
  | d + 1, h => by
    have ih := kSum_late (ch := ch) (s := s) (T := T) hj d (by omega)
    show va_up (kSum ch s sz (j + 1 + d) T) (sz - 1 - (j + 1 + d)) _ (sz - 1 - j) = _
    rw [va_up_ne _ _ (by omega)]
    exact ih
theorem kSum_at {ch : Nat → Option Nat} {s : Int} {sz : Nat} {T : Nat → Nat → Int} {x : Nat} (hx : x < sz) : kSum ch s sz sz T x = fSum (kSum ch s sz (sz - 1 - x) T) ch s x := by
  have h := kSum_late (ch := ch) (s := s) (T := T) (j := sz - 1 - x) (sz := sz) (by omega) (sz - (sz - 1 - x + 1)) (by omega)
  rw [show sz - 1 - x + 1 + (sz - (sz - 1 - x + 1)) = sz by omega, show sz - 1 - (sz - 1 - x) = x by omega] at h
  rw [h]
  show va_up (kSum ch s sz (sz - 1 - x) T) (sz - 1 - (sz - 1 - x)) (fSum (kSum ch s sz (sz - 1 - x) T) ch s (sz - 1 - (sz - 1 - x))) x = _
  rw [show sz - 1 - (sz - 1 - x) = x by omega, va_up_self]
theorem kSum_kid {ch : Nat → Option Nat} {s : Int} {sz : Nat} {T : Nat → Nat → Int} {x m : Nat} (hxm : x < m) (hm : m < sz) : kSum ch s sz (sz - 1 - x) T m = kSum ch s sz sz T m := by
  have h1 := kSum_late (ch := ch) (s := s) (T := T) (j := sz - 1 - m) (sz := sz) (by omega) (sz - (sz - 1 - m + 1)) (by omega)
  have h2 := kSum_late (ch := ch) (s := s) (T := T) (j := sz - 1 - m) (sz := sz) (by omega) (sz - 1 - x - (sz - 1 - m + 1)) (by omega)
  rw [show sz - 1 - m + 1 + (sz - (sz - 1 - m + 1)) = sz by omega, show sz - 1 - (sz - 1 - m) = m by omega] at h1
  rw [show sz - 1 - m + 1 + (sz - 1 - x - (sz - 1 - m + 1)) = sz - 1 - x by omega, show sz - 1 - (sz - 1 - m) = m by omega] at h2
  rw [h1, h2]
section KS
variable {ch : Nat → Option Nat} {s : Int} {sz : Nat} {T : Nat → Nat → Int} {x : Nat}
theorem kSum_n (hx : x < sz) (h : ch x = none) : kSum ch s sz sz T x 10 = 1 ∧ kSum ch s sz sz T x 11 = T x 5 := by
  rw [kSum_at hx]
  unfold fSum
  rw [h]
  refine ⟨rfl, ?_⟩
  show kSum ch s sz (sz - 1 - x) T x 5 = T x 5
  exact kSum_hi _ _ _ _ _ _ (by decide) _
theorem kSum_l (hx : x < sz) (h : T x 8 ≤ s) : kSum ch s sz sz T x 10 = 1 ∧ kSum ch s sz sz T x 11 = T x 5 := by
  cases hc : ch x with
  | none => exact kSum_n hx hc
  | some q =>
    rw [kSum_at hx]
    unfold fSum
    rw [hc]
    have e8 : kSum ch s sz (sz - 1 - x) T x 8 = T x 8 := kSum_hi _ _ _ _ _ _ (by decide) _
    have e5 : kSum ch s sz (sz - 1 - x) T x 5 = T x 5 := kSum_hi _ _ _ _ _ _ (by decide) _
    refine ⟨?_, ?_⟩
    · show (if kSum ch s sz (sz - 1 - x) T x 8 ≤ s then (1 : Int) else _) = 1
      rw [e8, if_pos h]
    · show (if kSum ch s sz (sz - 1 - x) T x 8 ≤ s then kSum ch s sz (sz - 1 - x) T x 5 else _) = T x 5
      rw [e8, if_pos h, e5]
theorem kSum_p {m : Nat} (hx : x < sz) (hc : ch x = some (76 + 141 * 0 + 3 * m)) (hxm : x < m) (hm : m + 1 < sz) (h : ¬ T x 8 ≤ s) : kSum ch s sz sz T x 10 = kSum ch s sz sz T m 10 + kSum ch s sz sz T (m + 1) 10 ∧ kSum ch s sz sz T x 11 = kSum ch s sz sz T m 11 + kSum ch s sz sz T (m + 1) 11 := by
  rw [← kSum_kid hxm (by omega), ← kSum_kid (x := x) (m := m + 1) (by omega) hm, kSum_at hx]
  unfold fSum
  rw [hc]
  have e8 : kSum ch s sz (sz - 1 - x) T x 8 = T x 8 := kSum_hi _ _ _ _ _ _ (by decide) _
  have em : (76 + 141 * 0 + 3 * m - 76) / 3 = m := by omega
  refine ⟨?_, ?_⟩
  · show (if kSum ch s sz (sz - 1 - x) T x 8 ≤ s then (1 : Int) else kSum ch s sz (sz - 1 - x) T ((76 + 141 * 0 + 3 * m - 76) / 3) 10 + kSum ch s sz (sz - 1 - x) T ((76 + 141 * 0 + 3 * m - 76) / 3 + 1) 10) = _
    rw [e8, if_neg h, em]
  · show (if kSum ch s sz (sz - 1 - x) T x 8 ≤ s then kSum ch s sz (sz - 1 - x) T x 5 else kSum ch s sz (sz - 1 - x) T ((76 + 141 * 0 + 3 * m - 76) / 3) 11 + kSum ch s sz (sz - 1 - x) T ((76 + 141 * 0 + 3 * m - 76) / 3 + 1) 11) = _
    rw [e8, if_neg h, em]
/-- each has a leaf below -/
theorem kSum_1 (hd : ∀ x q, x < sz → ch x = some q → ∃ m, q = 76 + 141 * 0 + 3 * m ∧ x < m ∧ m + 1 < sz) : ∀ j x, sz - 1 - x ≤ j → x < sz → 1 ≤ kSum ch s sz sz T x 10
  | j, x, hj, hx => by
    by_cases h8 : T x 8 ≤ s
    · rw [(kSum_l hx h8).1]; decide
    · cases hc : ch x with
      | none => rw [(kSum_n hx hc).1]; decide
      | some q =>
        obtain ⟨m, m1, m2, m3⟩ := hd x q hx hc
        subst m1
        rw [(kSum_p hx hc m2 m3 h8).1]
        match j, hj with
        | 0, hj => omega
        | j + 1, hj =>
          have h1 := kSum_1 hd j m (by omega) (by omega)
          have h2 := kSum_1 hd j (m + 1) (by omega) m3
          omega
/-- WRONG of a node is not below the sum of the leaves' below -/
theorem kSum_w (hd : ∀ x q, x < sz → ch x = some q → ∃ m, q = 76 + 141 * 0 + 3 * m ∧ x < m ∧ m + 1 < sz) (hw : ∀ x m, x < sz → ch x = some (76 + 141 * 0 + 3 * m) → T m 5 + T (m + 1) 5 ≤ T x 5) (h0 : ∀ x, x < sz → 0 ≤ T x 5) : ∀ j x, sz - 1 - x ≤ j → x < sz → 0 ≤ kSum ch s sz sz T x 11 ∧ kSum ch s sz sz T x 11 ≤ T x 5
  | j, x, hj, hx => by
    have g0 := h0 x hx
    by_cases h8 : T x 8 ≤ s
    · rw [(kSum_l hx h8).2]; omega
    · cases hc : ch x with
      | none => rw [(kSum_n hx hc).2]; omega
      | some q =>
        obtain ⟨m, m1, m2, m3⟩ := hd x q hx hc
        subst m1
        rw [(kSum_p hx hc m2 m3 h8).2]
        have g1 := hw x m hx hc
        match j, hj with
        | 0, hj => omega
        | j + 1, hj =>
          have h1 := kSum_w hd hw h0 j m (by omega) (by omega)
          have h2 := kSum_w hd hw h0 j (m + 1) (by omega) m3
          omega
end KS
/-- the sums depend on where leaves are and on WRONG alone -/
theorem kSum_e {ch : Nat → Option Nat} {s : Int} {sz : Nat} {T T2 : Nat → Nat → Int} (hd : ∀ x q, x < sz → ch x = some q → ∃ m, q = 76 + 141 * 0 + 3 * m ∧ x < m ∧ m + 1 < sz) (h5 : ∀ x, x < sz → T x 5 = T2 x 5) (h8 : ∀ x, x < sz → (T x 8 ≤ s ↔ T2 x 8 ≤ s)) : ∀ j x, sz - 1 - x ≤ j → x < sz → kSum ch s sz sz T x 10 = kSum ch s sz sz T2 x 10 ∧ kSum ch s sz sz T x 11 = kSum ch s sz sz T2 x 11
  | j, x, hj, hx => by
    by_cases g8 : T x 8 ≤ s
    · rw [(kSum_l hx g8).1, (kSum_l hx g8).2, (kSum_l hx ((h8 x hx).mp g8)).1, (kSum_l hx ((h8 x hx).mp g8)).2]
      exact ⟨rfl, h5 x hx⟩
    · cases hc : ch x with
      | none => rw [(kSum_n hx hc).1, (kSum_n hx hc).2, (kSum_n hx hc).1, (kSum_n hx hc).2]; exact ⟨rfl, h5 x hx⟩
      | some q =>
        obtain ⟨m, m1, m2, m3⟩ := hd x q hx hc
        subst m1
        have g9 : ¬ T2 x 8 ≤ s := fun q => g8 ((h8 x hx).mpr q)
        rw [(kSum_p hx hc m2 m3 g8).1, (kSum_p hx hc m2 m3 g8).2, (kSum_p hx hc m2 m3 g9).1, (kSum_p hx hc m2 m3 g9).2]
        match j, hj with
        | 0, hj => omega
        | j + 1, hj =>
          have h1 := kSum_e hd h5 h8 j m (by omega) (by omega)
          have h2 := kSum_e hd h5 h8 j (m + 1) (by omega) m3
          rw [h1.1, h1.2, h2.1, h2.2]
          exact ⟨rfl, rfl⟩
/-! sums over a pile -/
def sumZ (f : Nat → Int) : Nat → Int
  | 0 => 0
  | m + 1 => sumZ f m + f m
theorem sumZ_congr {f g : Nat → Int} : ∀ m, (∀ x, x < m → f x = g x) → sumZ f m = sumZ g m
  | 0, _ => rfl
  | m + 1, h => by
    show sumZ f m + f m = sumZ g m + g m
    rw [sumZ_congr m (fun x hx => h x (by omega)), h m (by omega)]
theorem sumZ_ge {f : Nat → Int} : ∀ m : Nat, (∀ x, x < m → 1 ≤ f x) → (m : Int) ≤ sumZ f m
  | 0, _ => by show (0 : Int) ≤ 0; decide
  | m + 1, h => by
    have := sumZ_ge m (fun x hx => h x (by omega))
    have := h m (by omega)
    show ((m + 1 : Nat) : Int) ≤ sumZ f m + f m
    omega
/-- a node's state in a stage -/
def stF (T : Nat → Nat → Int) (s : Int) (x : Nat) : Int := if T x 9 ≤ s then 2 else if T x 8 ≤ s then 1 else 0
/-- what a walk over the states needs -/
def lkW (sz : Nat) (T : Nat → Nat → Int) (ch : Nat → Option Nat) (s : Int) : Prop := (∀ x m, x < sz → ch x = some (76 + 141 * 0 + 3 * m) → ¬ T x 9 ≤ s → ¬ T x 8 ≤ s → ¬ T m 9 ≤ s ∧ ¬ T (m + 1) 9 ≤ s) ∧ (∀ x, x < sz → ch x = none → T x 8 ≤ s)
/-- the pile: from here on the leaves below are those of what lies on it -/
def piI (sz : Nat) (T U : Nat → Nat → Int) (s : Int) (p : Nat) (pl : Nat → Int) (a w A W : Int) : Prop := (∀ i, i < p → ∃ x : Nat, pl i = (x : Int) ∧ x < sz ∧ ¬ T x 9 ≤ s) ∧ a + sumZ (fun i => U (pl i).toNat 10) p = A ∧ w + sumZ (fun i => U (pl i).toNat 11) p = W ∧ 0 ≤ a
theorem piI_0 {sz : Nat} {T U : Nat → Nat → Int} {s : Int} {pl : Nat → Int} {x : Nat} (hx : x < sz) (h9 : ¬ T x 9 ≤ s) : piI sz T U s 1 (va_up pl 0 (x : Int)) 0 0 (U x 10) (U x 11) := by
  refine ⟨fun i hi => ⟨x, ?_, hx, h9⟩, ?_, ?_, Int.le_refl 0⟩
  · rw [show i = 0 by omega, va_up_self]
  · show 0 + (0 + U (va_up pl 0 (x : Int) 0).toNat 10) = U x 10
    rw [va_up_self, Int.toNat_natCast]; omega
  · show 0 + (0 + U (va_up pl 0 (x : Int) 0).toNat 11) = U x 11
    rw [va_up_self, Int.toNat_natCast]; omega
theorem piI_l {sz : Nat} {T U : Nat → Nat → Int} {s : Int} {p : Nat} {pl : Nat → Int} {a w A W : Int} (h : piI sz T U s (p + 1) pl a w A W) {x : Nat} (hx : pl p = (x : Int)) (h10 : U x 10 = 1) {v : Int} (h11 : U x 11 = v) : piI sz T U s p pl (a + 1) (w + v) A W := by
  obtain ⟨h1, h2, h3, h4⟩ := h
  have h2 : a + (sumZ (fun i => U (pl i).toNat 10) p + U (pl p).toNat 10) = A := h2
  have h3 : w + (sumZ (fun i => U (pl i).toNat 11) p + U (pl p).toNat 11) = W := h3
  rw [hx, Int.toNat_natCast] at h2 h3
  exact ⟨fun i hi => h1 i (by omega), by omega, by omega, by omega⟩
theorem piI_p {sz : Nat} {T U : Nat → Nat → Int} {s : Int} {p : Nat} {pl : Nat → Int} {a w A W : Int} (h : piI sz T U s (p + 1) pl a w A W) {x m : Nat} (hx : pl p = (x : Int)) (hm : m + 1 < sz) (g1 : ¬ T m 9 ≤ s) (g2 : ¬ T (m + 1) 9 ≤ s) (h10 : U x 10 = U m 10 + U (m + 1) 10) (h11 : U x 11 = U m 11 + U (m + 1) 11) : piI sz T U s (p + 2) (va_up (va_up pl p (m : Int)) (p + 1) ((m + 1 : Nat) : Int)) a w A W := by
  obtain ⟨h1, h2, h3, h4⟩ := h
  have h2 : a + (sumZ (fun i => U (pl i).toNat 10) p + U (pl p).toNat 10) = A := h2
  have h3 : w + (sumZ (fun i => U (pl i).toNat 11) p + U (pl p).toNat 11) = W := h3
  rw [hx, Int.toNat_natCast] at h2 h3
  have e0 : ∀ i, i < p → va_up (va_up pl p (m : Int)) (p + 1) ((m + 1 : Nat) : Int) i = pl i := fun i hi => by rw [va_up_ne _ _ (by omega), va_up_ne _ _ (by omega)]
  have e1 : va_up (va_up pl p (m : Int)) (p + 1) ((m + 1 : Nat) : Int) p = (m : Int) := by rw [va_up_ne _ _ (by omega), va_up_self]
  have e2 : va_up (va_up pl p (m : Int)) (p + 1) ((m + 1 : Nat) : Int) (p + 1) = ((m + 1 : Nat) : Int) := va_up_self _ _ _
  refine ⟨fun i hi => ?_, ?_, ?_, h4⟩
  · by_cases q1 : i = p + 1
    · exact ⟨m + 1, by rw [q1]; exact e2, hm, g2⟩
    · by_cases q2 : i = p
      · exact ⟨m, by rw [q2]; exact e1, by omega, g1⟩
      · rw [e0 i (by omega)]
        exact h1 i (by omega)
  · show a + (sumZ (fun i => U (va_up (va_up pl p (m : Int)) (p + 1) ((m + 1 : Nat) : Int) i).toNat 10) p + U (va_up (va_up pl p (m : Int)) (p + 1) ((m + 1 : Nat) : Int) p).toNat 10 + U (va_up (va_up pl p (m : Int)) (p + 1) ((m + 1 : Nat) : Int) (p + 1)).toNat 10) = A
    rw [sumZ_congr (g := fun i => U (pl i).toNat 10) p (fun i hi => by rw [e0 i hi]), e1, e2, Int.toNat_natCast, Int.toNat_natCast]
    omega
  · show w + (sumZ (fun i => U (va_up (va_up pl p (m : Int)) (p + 1) ((m + 1 : Nat) : Int) i).toNat 11) p + U (va_up (va_up pl p (m : Int)) (p + 1) ((m + 1 : Nat) : Int) p).toNat 11 + U (va_up (va_up pl p (m : Int)) (p + 1) ((m + 1 : Nat) : Int) (p + 1)).toNat 11) = W
    rw [sumZ_congr (g := fun i => U (pl i).toNat 11) p (fun i hi => by rw [e0 i hi]), e1, e2, Int.toNat_natCast, Int.toNat_natCast]
    omega
