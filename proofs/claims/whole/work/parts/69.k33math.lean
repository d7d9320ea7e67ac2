/-! the reference's stages: what its loops need -/
theorem moG_c {Q Q2 : Nat → Nat → Int} {s : gS} (h : moG Q s) (e : ∀ q, 362 ≤ q → q ≤ 370 → Q2 q = Q q) : moG Q2 s := fun x hx => by
  obtain ⟨a, b, c⟩ := h x hx
  refine ⟨by rw [e 362 (by decide) (by decide)]; exact a, by rw [e 363 (by decide) (by decide)]; exact b, ?_⟩
  unfold moC at c ⊢
  rw [e 367 (by decide) (by decide), e 368 (by decide) (by decide), e 364 (by decide) (by decide), e 365 (by decide) (by decide), e 366 (by decide) (by decide), e 369 (by decide) (by decide), e 370 (by decide) (by decide)]
  exact c
/-- the bounds of the sums in a stage -/
theorem U_ok {s : gS} (hgi : gInv 0 s) (ht : trO s.1 s.2.1 s.2.2) {T : Nat → Nat → Int} (hz : zEq s.2.1 T) (st : Int) {x : Nat} (hx : x < s.1) : (1 ≤ kSum s.2.2 st s.1 s.1 T x 10 ∧ kSum s.2.2 st s.1 s.1 T x 10 ≤ 32) ∧ (0 ≤ kSum s.2.2 st s.1 s.1 T x 11 ∧ kSum s.2.2 st s.1 s.1 T x 11 ≤ T x 5) ∧ T x 5 = s.2.1 x 5 ∧ T x 5 ≤ 24 := by
  have e5 := fun x => hz x 5 (by decide) (by decide) (by decide) (by decide)
  have w := kSum_w (ch := s.2.2) (s := st) (T := T) ht.2.1 (fun x m hx hc => by rw [e5, e5, e5]; exact ht.2.2.1 x m hx hc) (fun x hx => by rw [e5]; exact ht.2.2.2.1 x hx) (s.1 - 1 - x) x (Nat.le_refl _) hx
  refine ⟨⟨kSum_1 ht.2.1 (s.1 - 1 - x) x (Nat.le_refl _) hx, U_le hgi hz st hx⟩, w, e5 x, ?_⟩
  rw [e5]
  exact (hgi.1.2.2 x hx).2.2.2
/-- while none is found yet, ALPHA is -1 / 1 -/
def alR (A : Int × Int × Int) (a b : Int) : Prop := (A.1 = 1 ∧ a = -1 ∧ b = 1) ∨ (A.1 = 0 ∧ a = A.2.1 ∧ b = A.2.2 ∧ 0 ≤ a)
theorem alR_s {T : Nat → Nat → Int} {s : Int} {n : Nat} {A0 : Int × Int × Int} {a b : Int} (h : alR (kAl T s n A0) a b) (hp : ¬ (¬ T n 9 ≤ s ∧ ¬ T n 8 ≤ s)) : alR (kAl T s (n + 1) A0) a b := by
  have e : kAl T s (n + 1) A0 = kAl T s n A0 := if_neg hp
  rw [e]; exact h
theorem alR_t {T : Nat → Nat → Int} {s : Int} {n : Nat} {A0 : Int × Int × Int} {a b : Int} (h : alR (kAl T s n A0) a b) (hp : ¬ T n 9 ≤ s ∧ ¬ T n 8 ≤ s) (h0 : 0 ≤ T n 5 - T n 11) (hc : a < 0 ∨ (T n 5 - T n 11) * b < a * (T n 10 - 1)) : alR (kAl T s (n + 1) A0) (T n 5 - T n 11) (T n 10 - 1) := by
  have e : kAl T s (n + 1) A0 = (0, T n 5 - T n 11, T n 10 - 1) := by
    show kAlS T s n (kAl T s n A0) = _
    unfold kAlS
    rw [if_pos hp, if_pos]
    rcases h with ⟨q, -⟩ | ⟨q1, q2, q3, q4⟩
    · exact Or.inl q
    · rcases hc with g | g
      · omega
      · rw [q2, q3] at g; exact Or.inr g
  rw [e]
  exact Or.inr ⟨rfl, rfl, rfl, h0⟩
theorem alR_k {T : Nat → Nat → Int} {s : Int} {n : Nat} {A0 : Int × Int × Int} {a b : Int} (h : alR (kAl T s n A0) a b) (hp : ¬ T n 9 ≤ s ∧ ¬ T n 8 ≤ s) (hc : ¬ (a < 0 ∨ (T n 5 - T n 11) * b < a * (T n 10 - 1))) : alR (kAl T s (n + 1) A0) a b := by
  rcases h with ⟨q, q2, -⟩ | ⟨q1, q2, q3, q4⟩
  · omega
  · have e : kAl T s (n + 1) A0 = (0, (kAl T s n A0).2) := by
      show kAlS T s n (kAl T s n A0) = _
      unfold kAlS
      rw [if_pos hp, if_neg]
      intro g
      rcases g with g | g
      · omega
      · rw [← q2, ← q3] at g; exact hc (Or.inr g)
    rw [e]
    exact Or.inr ⟨rfl, q2, q3, q4⟩
section R3
variable {ch : Nat → Option Nat} {r2 : Nat → Int} {x : Nat}
theorem r3_n (h : ch x = none) : r3F ch r2 (x + 1) = r3F ch r2 x := by
  show (match ch x with | none => r3F ch r2 x | some q => _) = _
  rw [h]
theorem r3_s {m : Nat} (h : ch x = some (76 + 141 * 0 + 3 * m)) : r3F ch r2 (x + 1) = (if r3F ch r2 x x = 0 then r3F ch r2 x else va_up (va_up (r3F ch r2 x) m 2) (m + 1) 2) := by
  show (match ch x with | none => r3F ch r2 x | some q => if r3F ch r2 x x = 0 then r3F ch r2 x else va_up (va_up (r3F ch r2 x) ((q - 76) / 3) 2) ((q - 76) / 3 + 1) 2) = _
  rw [h]
  show (if r3F ch r2 x x = 0 then r3F ch r2 x else va_up (va_up (r3F ch r2 x) ((76 + 141 * 0 + 3 * m - 76) / 3) 2) ((76 + 141 * 0 + 3 * m - 76) / 3 + 1) 2) = _
  rw [show (76 + 141 * 0 + 3 * m - 76) / 3 = m by omega]
theorem r3_z {m : Nat} (h : ch x = some (76 + 141 * 0 + 3 * m)) (h0 : r3F ch r2 x x = 0) : r3F ch r2 (x + 1) = r3F ch r2 x := by rw [r3_s h, if_pos h0]
theorem r3_g {m : Nat} (h : ch x = some (76 + 141 * 0 + 3 * m)) (h0 : ¬ r3F ch r2 x x = 0) : r3F ch r2 (x + 1) = va_up (va_up (r3F ch r2 x) m 2) (m + 1) 2 := by rw [r3_s h, if_neg h0]
end R3
theorem stR_012 (F : Nat → Int) (s : Int) : stR F s = 0 ∨ stR F s = 1 ∨ stR F s = 2 := by
  unfold stR
  by_cases h : F 9 ≤ s
  · rw [if_pos h]; exact Or.inr (Or.inr rfl)
  · rw [if_neg h]
    by_cases h2 : F 8 ≤ s
    · rw [if_pos h2]; exact Or.inr (Or.inl rfl)
    · rw [if_neg h2]; exact Or.inl rfl
theorem nw_12 (U : Nat → Nat → Int) (s a b : Int) (x : Nat) : nwF U s a b x = 0 ∨ nwF U s a b x = 1 ∨ nwF U s a b x = 2 := by
  unfold nwF
  by_cases h : stR (U x) s = 0
  · rw [if_pos h]
    by_cases h2 : (U x 5 - U x 11) * b = a * (U x 10 - 1)
    · rw [if_pos h2]; exact Or.inr (Or.inl rfl)
    · rw [if_neg h2]; exact Or.inl rfl
  · rw [if_neg h]; exact stR_012 _ _
theorem r3_012 {ch : Nat → Option Nat} {r2 : Nat → Int} (h : ∀ y, r2 y = 0 ∨ r2 y = 1 ∨ r2 y = 2) : ∀ n y, r3F ch r2 n y = 0 ∨ r3F ch r2 n y = 1 ∨ r3F ch r2 n y = 2
  | 0, y => h y
  | n + 1, y => by
    have ih := r3_012 (ch := ch) h n
    show (match ch n with | none => r3F ch r2 n | some q => if r3F ch r2 n n = 0 then r3F ch r2 n else va_up (va_up (r3F ch r2 n) ((q - 76) / 3) 2) ((q - 76) / 3 + 1) 2) y = 0 ∨ (match ch n with | none => r3F ch r2 n | some q => if r3F ch r2 n n = 0 then r3F ch r2 n else va_up (va_up (r3F ch r2 n) ((q - 76) / 3) 2) ((q - 76) / 3 + 1) 2) y = 1 ∨ (match ch n with | none => r3F ch r2 n | some q => if r3F ch r2 n n = 0 then r3F ch r2 n else va_up (va_up (r3F ch r2 n) ((q - 76) / 3) 2) ((q - 76) / 3 + 1) 2) y = 2
    cases ch n with
    | none => exact ih y
    | some q =>
      show (if r3F ch r2 n n = 0 then r3F ch r2 n else va_up (va_up (r3F ch r2 n) ((q - 76) / 3) 2) ((q - 76) / 3 + 1) 2) y = 0 ∨ (if r3F ch r2 n n = 0 then r3F ch r2 n else va_up (va_up (r3F ch r2 n) ((q - 76) / 3) 2) ((q - 76) / 3 + 1) 2) y = 1 ∨ (if r3F ch r2 n n = 0 then r3F ch r2 n else va_up (va_up (r3F ch r2 n) ((q - 76) / 3) 2) ((q - 76) / 3 + 1) 2) y = 2
      split
      · exact ih y
      · by_cases e : y = (q - 76) / 3 + 1
        · subst e; rw [va_up_self]; exact Or.inr (Or.inr rfl)
        · rw [va_up_ne _ _ e]
          by_cases e2 : y = (q - 76) / 3
          · subst e2; rw [va_up_self]; exact Or.inr (Or.inr rfl)
          · rw [va_up_ne _ _ e2]; exact ih y
theorem r3_12 {ch : Nat → Option Nat} {r2 : Nat → Int} (h : ∀ y, r2 y = 0 ∨ r2 y = 1 ∨ r2 y = 2) (n y : Nat) (h0 : ¬ r3F ch r2 n y = 0) : r3F ch r2 n y = 1 ∨ r3F ch r2 n y = 2 := by
  rcases r3_012 (ch := ch) h n y with q | q
  · exact absurd q h0
  · exact q
theorem stF_12 {T : Nat → Nat → Int} {s : Int} {x : Nat} (h : ¬ stR (T x) s = 0) : stF T s x = 1 ∨ stF T s x = 2 := by
  rcases stR_012 (T x) s with q | q
  · exact absurd q h
  · exact q
