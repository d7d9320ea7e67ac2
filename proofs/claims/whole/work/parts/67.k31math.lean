/-! ONE STAGE FURTHER: the class's one loop and the reference's two -/
def stR (F : Nat → Int) (s : Int) : Int := if F 9 ≤ s then 2 else if F 8 ≤ s then 1 else 0
def cb1 (s a b : Int) (F : Nat → Int) : Nat → Int := if (¬ F 9 ≤ s ∧ ¬ F 8 ≤ s) ∧ (F 5 - F 11) * b = a * (F 10 - 1) then va_up F 8 (s + 1) else F
theorem kCb1_x (s a b : Int) (n : Nat) (T : Nat → Nat → Int) : kCb1 s a b n T n = cb1 s a b (T n) := by
  unfold kCb1 cb1
  split
  · exact va_up_self _ _ _
  · rfl
theorem kCb1_o {s a b : Int} {n x : Nat} (T : Nat → Nat → Int) (h : x ≠ n) : kCb1 s a b n T x = T x := by
  unfold kCb1
  split
  · exact va_up_ne _ _ h
  · rfl
theorem cb1_hi (s a b : Int) (F : Nat → Int) {j : Nat} (h : j ≠ 8) : cb1 s a b F j = F j := by
  unfold cb1
  split
  · exact va_up_ne _ _ h
  · rfl
theorem cb1_i (s a b : Int) (F : Nat → Int) : cb1 s a b (cb1 s a b F) = cb1 s a b F := by
  by_cases h : (¬ F 9 ≤ s ∧ ¬ F 8 ≤ s) ∧ (F 5 - F 11) * b = a * (F 10 - 1)
  · have e : cb1 s a b F = va_up F 8 (s + 1) := if_pos h
    rw [e]
    have h2 : (¬ va_up F 8 (s + 1) 9 ≤ s ∧ ¬ va_up F 8 (s + 1) 8 ≤ s) ∧ (va_up F 8 (s + 1) 5 - va_up F 8 (s + 1) 11) * b = a * (va_up F 8 (s + 1) 10 - 1) := by
      rw [va_up_ne _ _ (by decide), va_up_self, va_up_ne _ _ (by decide), va_up_ne _ _ (by decide), va_up_ne _ _ (by decide)]
      exact ⟨⟨h.1.1, by omega⟩, h.2⟩
    rw [show cb1 s a b (va_up F 8 (s + 1)) = va_up (va_up F 8 (s + 1)) 8 (s + 1) from if_pos h2, bx_uu]
  · have e : cb1 s a b F = F := if_neg h
    rw [e, e]
theorem fMin_9 (F : Nat → Int) (s : Int) : fMin F s 9 = (if s < F 9 then s else F 9) := va_up_self _ _ _
theorem fMin_o (F : Nat → Int) (s : Int) {j : Nat} (h : j ≠ 9) : fMin F s j = F j := va_up_ne _ _ h
/-- a row that stays under cb1 stays so when it is gone later -/
theorem cb1_m {s a b : Int} {F : Nat → Int} (h : cb1 s a b F = F) : cb1 s a b (fMin F (s + 1)) = fMin F (s + 1) := by
  by_cases g : (¬ fMin F (s + 1) 9 ≤ s ∧ ¬ fMin F (s + 1) 8 ≤ s) ∧ (fMin F (s + 1) 5 - fMin F (s + 1) 11) * b = a * (fMin F (s + 1) 10 - 1)
  · rw [show cb1 s a b (fMin F (s + 1)) = va_up (fMin F (s + 1)) 8 (s + 1) from if_pos g]
    rw [fMin_9, fMin_o _ _ (by decide), fMin_o _ _ (by decide), fMin_o _ _ (by decide), fMin_o _ _ (by decide)] at g
    have g9 : ¬ F 9 ≤ s := fun q => by
      have g1 := g.1.1
      rw [if_neg (by omega)] at g1
      omega
    have e : cb1 s a b F = va_up F 8 (s + 1) := if_pos ⟨⟨g9, g.1.2⟩, g.2⟩
    have e8 : F 8 = s + 1 := by
      have : cb1 s a b F 8 = s + 1 := by rw [e, va_up_self]
      rw [h] at this
      exact this
    funext j
    by_cases q : j = 8
    · subst q; rw [va_up_self, fMin_o _ _ (by decide), e8]
    · rw [va_up_ne _ _ q]
  · exact if_neg g
section CB
variable {ch : Nat → Option Nat} {s a b : Int} {sz : Nat} {U : Nat → Nat → Int}
theorem kCb2_x (n : Nat) (V : Nat → Nat → Int) {x : Nat} (h : ∀ m, ch n = some (76 + 141 * 0 + 3 * m) → x ≠ m ∧ x ≠ m + 1) (hd : ∀ q, ch n = some q → ∃ m, q = 76 + 141 * 0 + 3 * m) : kCb2 ch s n V x = V x := by
  unfold kCb2
  split
  · rfl
  · unfold kLo
    cases hc : ch n with
    | none => rfl
    | some q =>
      obtain ⟨m, rfl⟩ := hd q hc
      obtain ⟨h1, h2⟩ := h m hc
      show va_up (va_up V ((76 + 141 * 0 + 3 * m - 76) / 3) _) ((76 + 141 * 0 + 3 * m - 76) / 3 + 1) _ x = V x
      rw [show (76 + 141 * 0 + 3 * m - 76) / 3 = m by omega, va_up_ne _ _ h2, va_up_ne _ _ h1]
theorem kCb2_0 {n : Nat} {V : Nat → Nat → Int} (h : stR (V n) (s + 1) = 0) : kCb2 ch s n V = V := by
  have h' : ¬ V n 9 ≤ s + 1 ∧ ¬ V n 8 ≤ s + 1 := by
    unfold stR at h
    refine ⟨fun q => ?_, fun q => ?_⟩
    · rw [if_pos q] at h; cases h
    · by_cases q2 : V n 9 ≤ s + 1
      · rw [if_pos q2] at h; cases h
      · rw [if_neg q2, if_pos q] at h; cases h
  unfold kCb2
  rw [if_pos h']
theorem kCb2_k {n m : Nat} {V : Nat → Nat → Int} (h : ¬ stR (V n) (s + 1) = 0) (hc : ch n = some (76 + 141 * 0 + 3 * m)) : kCb2 ch s n V m = fMin (V m) (s + 1) ∧ kCb2 ch s n V (m + 1) = fMin (V (m + 1)) (s + 1) := by
  have h' : ¬ (¬ V n 9 ≤ s + 1 ∧ ¬ V n 8 ≤ s + 1) := fun q => h (by unfold stR; rw [if_neg q.1, if_neg q.2])
  unfold kCb2
  rw [if_neg h']
  unfold kLo
  rw [hc]
  show va_up (va_up V ((76 + 141 * 0 + 3 * m - 76) / 3) _) ((76 + 141 * 0 + 3 * m - 76) / 3 + 1) _ m = _ ∧ va_up (va_up V ((76 + 141 * 0 + 3 * m - 76) / 3) _) ((76 + 141 * 0 + 3 * m - 76) / 3 + 1) _ (m + 1) = _
  rw [show (76 + 141 * 0 + 3 * m - 76) / 3 = m by omega]
  exact ⟨by rw [va_up_ne _ _ (by omega), va_up_self], va_up_self _ _ _⟩
/-- every row behind any step: 8 and 9 as they were, or one stage on -/
theorem kCb_89 (hd : ∀ x q, x < sz → ch x = some q → ∃ m, q = 76 + 141 * 0 + 3 * m ∧ x < m ∧ m + 1 < sz) (x : Nat) : ∀ n, n ≤ sz → (kCb ch s a b n U x 8 = U x 8 ∨ (kCb ch s a b n U x 8 = s + 1 ∧ ¬ U x 8 ≤ s)) ∧ (kCb ch s a b n U x 9 = U x 9 ∨ (kCb ch s a b n U x 9 = s + 1 ∧ ¬ U x 9 ≤ s))
  | 0, _ => ⟨Or.inl rfl, Or.inl rfl⟩
  | n + 1, hn => by
    obtain ⟨h8, h9⟩ := kCb_89 hd x n (by omega)
    show (kCb2 ch s n (kCb1 s a b n (kCb ch s a b n U)) x 8 = U x 8 ∨ (kCb2 ch s n (kCb1 s a b n (kCb ch s a b n U)) x 8 = s + 1 ∧ ¬ U x 8 ≤ s)) ∧ (kCb2 ch s n (kCb1 s a b n (kCb ch s a b n U)) x 9 = U x 9 ∨ (kCb2 ch s n (kCb1 s a b n (kCb ch s a b n U)) x 9 = s + 1 ∧ ¬ U x 9 ≤ s))
    generalize kCb ch s a b n U = V at h8 h9 ⊢
    have g8 : kCb1 s a b n V x 8 = U x 8 ∨ (kCb1 s a b n V x 8 = s + 1 ∧ ¬ U x 8 ≤ s) := by
      by_cases e : x = n
      · subst e
        rw [kCb1_x]
        by_cases g : (¬ V x 9 ≤ s ∧ ¬ V x 8 ≤ s) ∧ (V x 5 - V x 11) * b = a * (V x 10 - 1)
        · rw [show cb1 s a b (V x) = va_up (V x) 8 (s + 1) from if_pos g, va_up_self]
          refine Or.inr ⟨rfl, ?_⟩
          rcases h8 with q | q
          · rw [← q]; exact g.1.2
          · exact q.2
        · rw [show cb1 s a b (V x) = V x from if_neg g]; exact h8
      · rw [kCb1_o V e]; exact h8
    have g9 : kCb1 s a b n V x 9 = U x 9 ∨ (kCb1 s a b n V x 9 = s + 1 ∧ ¬ U x 9 ≤ s) := by
      rw [kCb1_hi _ _ _ _ _ _ _ (by decide)]; exact h9
    generalize kCb1 s a b n V = V1 at g8 g9 ⊢
    by_cases q0 : stR (V1 n) (s + 1) = 0
    · rw [kCb2_0 q0]; exact ⟨g8, g9⟩
    · cases hc : ch n with
      | none =>
        have e : kCb2 ch s n V1 x = V1 x := kCb2_x n V1 (fun m hm => by rw [hc] at hm; cases hm) (fun q hq => by rw [hc] at hq; cases hq)
        rw [e]; exact ⟨g8, g9⟩
      | some q =>
        obtain ⟨m, rfl, -⟩ := hd n q (by omega) hc
        obtain ⟨k1, k2⟩ := kCb2_k q0 hc
        have mn : ∀ F : Nat → Int, (F 8 = U x 8 ∨ (F 8 = s + 1 ∧ ¬ U x 8 ≤ s)) → (F 9 = U x 9 ∨ (F 9 = s + 1 ∧ ¬ U x 9 ≤ s)) → (fMin F (s + 1) 8 = U x 8 ∨ (fMin F (s + 1) 8 = s + 1 ∧ ¬ U x 8 ≤ s)) ∧ (fMin F (s + 1) 9 = U x 9 ∨ (fMin F (s + 1) 9 = s + 1 ∧ ¬ U x 9 ≤ s)) := fun F f8 f9 => by
          rw [fMin_o _ _ (by decide), fMin_9]
          refine ⟨f8, ?_⟩
          by_cases q : s + 1 < F 9
          · rw [if_pos q]
            exact Or.inr ⟨rfl, by omega⟩
          · rw [if_neg q]; exact f9
        by_cases e1 : x = m
        · subst e1; rw [k1]; exact mn _ g8 g9
        · by_cases e2 : x = m + 1
          · subst e2; rw [k2]; exact mn _ g8 g9
          · have e : kCb2 ch s n V1 x = V1 x := kCb2_x n V1 (fun m2 hm => by rw [hc] at hm; have : m2 = m := (by have := Option.some.inj hm; omega); subst this; exact ⟨e1, e2⟩) (fun q hq => ⟨m, by rw [hc] at hq; exact (Option.some.inj hq).symm⟩)
            rw [e]; exact ⟨g8, g9⟩
/-- a row that its own step has met stays under cb1 -/
theorem kCb_fix (hd : ∀ x q, x < sz → ch x = some q → ∃ m, q = 76 + 141 * 0 + 3 * m ∧ x < m ∧ m + 1 < sz) : ∀ n x, n ≤ sz → x < n → cb1 s a b (kCb ch s a b n U x) = kCb ch s a b n U x
  | 0, x, _, h => absurd h (Nat.not_lt_zero x)
  | n + 1, x, hn, h => by
    show cb1 s a b (kCb2 ch s n (kCb1 s a b n (kCb ch s a b n U)) x) = kCb2 ch s n (kCb1 s a b n (kCb ch s a b n U)) x
    have f1 : cb1 s a b (kCb1 s a b n (kCb ch s a b n U) x) = kCb1 s a b n (kCb ch s a b n U) x := by
      by_cases e : x = n
      · subst e; rw [kCb1_x, cb1_i]
      · rw [kCb1_o _ e]; exact kCb_fix hd n x (by omega) (by omega)
    generalize kCb1 s a b n (kCb ch s a b n U) = V1 at f1 ⊢
    by_cases q0 : stR (V1 n) (s + 1) = 0
    · rw [kCb2_0 q0]; exact f1
    · cases hc : ch n with
      | none =>
        rw [kCb2_x n V1 (fun m hm => by rw [hc] at hm; cases hm) (fun q hq => by rw [hc] at hq; cases hq)]; exact f1
      | some q =>
        obtain ⟨m, rfl, -⟩ := hd n q (by omega) hc
        obtain ⟨k1, k2⟩ := kCb2_k q0 hc
        by_cases e1 : x = m
        · subst e1; rw [k1]; exact cb1_m f1
        · by_cases e2 : x = m + 1
          · subst e2; rw [k2]; exact cb1_m f1
          · rw [kCb2_x n V1 (fun m2 hm => by rw [hc] at hm; have : m2 = m := (by have := Option.some.inj hm; omega); subst this; exact ⟨e1, e2⟩) (fun q hq => ⟨m, by rw [hc] at hq; exact (Option.some.inj hq).symm⟩)]; exact f1
end CB
/-! the reference's second and third loops, as folds -/
def nwF (U : Nat → Nat → Int) (s a b : Int) (x : Nat) : Int := if stR (U x) s = 0 then (if (U x 5 - U x 11) * b = a * (U x 10 - 1) then 1 else 0) else stR (U x) s
def r3F (ch : Nat → Option Nat) (r2 : Nat → Int) : Nat → Nat → Int
  | 0 => r2
  | n + 1 => match ch n with
    | none => r3F ch r2 n
    | some q => if r3F ch r2 n n = 0 then r3F ch r2 n else va_up (va_up (r3F ch r2 n) ((q - 76) / 3) 2) ((q - 76) / 3 + 1) 2
theorem stR_cb1 {s a b : Int} {F : Nat → Int} (h8 : F 8 ≤ s ∨ F 8 = 24) (h9 : F 9 ≤ s ∨ F 9 = 24) (hs : s + 1 < 24) : stR (cb1 s a b F) (s + 1) = (if stR F s = 0 then (if (F 5 - F 11) * b = a * (F 10 - 1) then 1 else 0) else stR F s) := by
  rcases h9 with q9 | q9
  · have e1 : stR F s = 2 := if_pos q9
    rw [e1]
    have e2 : cb1 s a b F = F := if_neg (fun q => q.1.1 q9)
    rw [e2]
    show (if F 9 ≤ s + 1 then (2 : Int) else _) = (if (2 : Int) = 0 then _ else 2)
    rw [if_pos (by omega), if_neg (by decide)]
  · rcases h8 with q8 | q8
    · have e1 : stR F s = 1 := by unfold stR; rw [if_neg (by omega), if_pos q8]
      rw [e1]
      have e2 : cb1 s a b F = F := if_neg (fun q => q.1.2 q8)
      rw [e2]
      show (if F 9 ≤ s + 1 then (2 : Int) else if F 8 ≤ s + 1 then 1 else 0) = (if (1 : Int) = 0 then _ else 1)
      rw [if_neg (by omega), if_pos (by omega), if_neg (by decide)]
    · have e1 : stR F s = 0 := by unfold stR; rw [if_neg (by omega), if_neg (by omega)]
      rw [e1, if_pos rfl]
      by_cases g : (F 5 - F 11) * b = a * (F 10 - 1)
      · rw [if_pos g]
        have e2 : cb1 s a b F = va_up F 8 (s + 1) := if_pos ⟨⟨by omega, by omega⟩, g⟩
        rw [e2]
        unfold stR
        rw [va_up_ne _ _ (by decide), if_neg (by omega), va_up_self, if_pos (Int.le_refl _)]
      · rw [if_neg g]
        have e2 : cb1 s a b F = F := if_neg (fun q => g q.2)
        rw [e2]
        unfold stR
        rw [if_neg (by omega), if_neg (by omega)]
theorem stR_gone {s : Int} {F : Nat → Int} : stR (fMin F s) s = 2 := by
  unfold stR
  rw [fMin_9]
  by_cases q : s < F 9
  · rw [if_pos q, if_pos (Int.le_refl _)]
  · rw [if_neg q, if_pos (by omega)]
theorem r3_kCb {ch : Nat → Option Nat} {s a b : Int} {sz : Nat} {U : Nat → Nat → Int} (hd : ∀ x q, x < sz → ch x = some q → ∃ m, q = 76 + 141 * 0 + 3 * m ∧ x < m ∧ m + 1 < sz) (h8 : ∀ x, x < sz → U x 8 ≤ s ∨ U x 8 = 24) (h9 : ∀ x, x < sz → U x 9 ≤ s ∨ U x 9 = 24) (hs : s + 1 < 24) : ∀ n x, n ≤ sz → x < sz → r3F ch (nwF U s a b) n x = stR (cb1 s a b (kCb ch s a b n U x)) (s + 1)
  | 0, x, _, hx => (stR_cb1 (h8 x hx) (h9 x hx) hs).symm
  | n + 1, x, hn, hx => by
    have ih := fun x hx => r3_kCb (a := a) (b := b) hd h8 h9 hs n x (by omega) hx
    show _ = stR (cb1 s a b (kCb2 ch s n (kCb1 s a b n (kCb ch s a b n U)) x)) (s + 1)
    have e1 : ∀ x, x < sz → stR (cb1 s a b (kCb1 s a b n (kCb ch s a b n U) x)) (s + 1) = r3F ch (nwF U s a b) n x := fun x hx => by
      rw [ih x hx]
      by_cases e : x = n
      · subst e; rw [kCb1_x, cb1_i]
      · rw [kCb1_o _ e]
    have en : kCb1 s a b n (kCb ch s a b n U) n = cb1 s a b (kCb ch s a b n U n) := kCb1_x _ _ _ _ _
    have rn : stR (kCb1 s a b n (kCb ch s a b n U) n) (s + 1) = r3F ch (nwF U s a b) n n := by rw [en, ih n (by omega)]
    generalize kCb1 s a b n (kCb ch s a b n U) = V1 at e1 rn ⊢
    cases hc : ch n with
    | none =>
      rw [kCb2_x n V1 (fun m hm => by rw [hc] at hm; cases hm) (fun q hq => by rw [hc] at hq; cases hq), e1 x hx]
      show (match ch n with | none => r3F ch (nwF U s a b) n | some q => _) x = _
      rw [hc]
    | some q =>
      obtain ⟨m, rfl, hnm, -⟩ := hd n q (by omega) hc
      have em : (76 + 141 * 0 + 3 * m - 76) / 3 = m := by omega
      have er : r3F ch (nwF U s a b) (n + 1) = (if r3F ch (nwF U s a b) n n = 0 then r3F ch (nwF U s a b) n else va_up (va_up (r3F ch (nwF U s a b) n) m 2) (m + 1) 2) := by
        show (match ch n with | none => r3F ch (nwF U s a b) n | some q => if r3F ch (nwF U s a b) n n = 0 then r3F ch (nwF U s a b) n else va_up (va_up (r3F ch (nwF U s a b) n) ((q - 76) / 3) 2) ((q - 76) / 3 + 1) 2) = _
        rw [hc]
        show (if r3F ch (nwF U s a b) n n = 0 then r3F ch (nwF U s a b) n else va_up (va_up (r3F ch (nwF U s a b) n) ((76 + 141 * 0 + 3 * m - 76) / 3) 2) ((76 + 141 * 0 + 3 * m - 76) / 3 + 1) 2) = _
        rw [em]
      rw [er]
      by_cases q0 : r3F ch (nwF U s a b) n n = 0
      · rw [if_pos q0, kCb2_0 (by rw [rn]; exact q0), e1 x hx]
      · rw [if_neg q0]
        obtain ⟨k1, k2⟩ := kCb2_k (by rw [rn]; exact q0) hc
        have gn : ∀ F : Nat → Int, stR (cb1 s a b (fMin F (s + 1))) (s + 1) = 2 := fun F => by
          have g9 : cb1 s a b (fMin F (s + 1)) 9 = fMin F (s + 1) 9 := cb1_hi _ _ _ _ (by decide)
          have := stR_gone (s := s + 1) (F := F)
          unfold stR at this ⊢
          rw [g9]
          by_cases q : fMin F (s + 1) 9 ≤ s + 1
          · rw [if_pos q]
          · exfalso
            rw [fMin_9] at q
            by_cases q2 : s + 1 < F 9
            · rw [if_pos q2] at q; omega
            · rw [if_neg q2] at q; omega
        by_cases e2 : x = m + 1
        · subst e2; rw [va_up_self, k2, gn]
        · rw [va_up_ne _ _ e2]
          by_cases e3 : x = m
          · subst e3; rw [va_up_self, k1, gn]
          · rw [va_up_ne _ _ e3, kCb2_x n V1 (fun m2 hm => by rw [hc] at hm; have : m2 = m := (by have := Option.some.inj hm; omega); subst this; exact ⟨e3, e2⟩) (fun q hq => ⟨m, by rw [hc] at hq; exact (Option.some.inj hq).symm⟩), e1 x hx]
/-! THE STAGES, one by one -/
/-- ALPHA doesn't depend on its stale start, once a parted node is met -/
theorem kAl_e {T : Nat → Nat → Int} {s : Int} (a0 b0 a1 b1 : Int) : ∀ n, (kAl T s n (1, a0, b0)).1 = (kAl T s n (1, a1, b1)).1 ∧ ((kAl T s n (1, a0, b0)).1 = 1 ∨ kAl T s n (1, a0, b0) = kAl T s n (1, a1, b1))
  | 0 => ⟨rfl, Or.inl rfl⟩
  | n + 1 => by
    obtain ⟨h1, h2⟩ := kAl_e (T := T) (s := s) a0 b0 a1 b1 n
    show (kAlS T s n (kAl T s n (1, a0, b0))).1 = (kAlS T s n (kAl T s n (1, a1, b1))).1 ∧ ((kAlS T s n (kAl T s n (1, a0, b0))).1 = 1 ∨ kAlS T s n (kAl T s n (1, a0, b0)) = kAlS T s n (kAl T s n (1, a1, b1)))
    generalize kAl T s n (1, a0, b0) = A at h1 h2 ⊢
    generalize kAl T s n (1, a1, b1) = A2 at h1 h2 ⊢
    rcases h2 with h2 | h2
    · have h3 : A2.1 = 1 := h1 ▸ h2
      unfold kAlS
      by_cases g : ¬ T n 9 ≤ s ∧ ¬ T n 8 ≤ s
      · rw [if_pos g, if_pos g, if_pos (Or.inl h2), if_pos (Or.inl h3)]
        exact ⟨rfl, Or.inr rfl⟩
      · rw [if_neg g, if_neg g]
        exact ⟨h1, Or.inl h2⟩
    · subst h2
      exact ⟨rfl, Or.inr rfl⟩
/-- the least is some parted node's; 'none yet' says that there was none -/
theorem kAl_m {T : Nat → Nat → Int} {s : Int} {A0 : Int × Int × Int} (h0 : A0.1 = 1) : ∀ n, ((kAl T s n A0).1 = 1 ∧ kAl T s n A0 = A0 ∧ ∀ x, x < n → ¬ (¬ T x 9 ≤ s ∧ ¬ T x 8 ≤ s)) ∨ ((kAl T s n A0).1 = 0 ∧ ∃ x, x < n ∧ (¬ T x 9 ≤ s ∧ ¬ T x 8 ≤ s) ∧ (kAl T s n A0).2 = (T x 5 - T x 11, T x 10 - 1))
  | 0 => Or.inl ⟨h0, rfl, fun x h => absurd h (Nat.not_lt_zero x)⟩
  | n + 1 => by
    have ih := kAl_m (T := T) (s := s) h0 n
    show ((kAlS T s n (kAl T s n A0)).1 = 1 ∧ kAlS T s n (kAl T s n A0) = A0 ∧ _) ∨ ((kAlS T s n (kAl T s n A0)).1 = 0 ∧ ∃ x, x < n + 1 ∧ _ ∧ (kAlS T s n (kAl T s n A0)).2 = _)
    by_cases g : ¬ T n 9 ≤ s ∧ ¬ T n 8 ≤ s
    · right
      by_cases g2 : (kAl T s n A0).1 = 1 ∨ (T n 5 - T n 11) * (kAl T s n A0).2.2 < (kAl T s n A0).2.1 * (T n 10 - 1)
      · have e : kAlS T s n (kAl T s n A0) = (0, T n 5 - T n 11, T n 10 - 1) := by unfold kAlS; rw [if_pos g, if_pos g2]
        rw [e]
        exact ⟨rfl, n, by omega, g, rfl⟩
      · have e : kAlS T s n (kAl T s n A0) = (0, (kAl T s n A0).2) := by unfold kAlS; rw [if_pos g, if_neg g2]
        rw [e]
        rcases ih with q | ⟨-, x, x1, x2, x3⟩
        · exact absurd (Or.inl q.1) g2
        · exact ⟨rfl, x, by omega, x2, x3⟩
    · have e : kAlS T s n (kAl T s n A0) = kAl T s n A0 := by unfold kAlS; rw [if_neg g]
      rw [e]
      rcases ih with ⟨q1, q2, q3⟩ | ⟨q1, x, x1, x2, x3⟩
      · exact Or.inl ⟨q1, q2, fun x hx => by
          by_cases ex : x = n
          · subst ex; exact g
          · exact q3 x (by omega)⟩
      · exact Or.inr ⟨q1, x, by omega, x2, x3⟩
section ZT
variable (ch : Nat → Option Nat) (sz : Nat) (T0 : Nat → Nat → Int)
/-- the nodes' numbers as stage k begins -/
def yT : Nat → Nat → Nat → Int
  | 0 => kBg ch sz T0
  | k + 1 => kCb ch (k : Int) (kAl (kSum ch (k : Int) sz sz (yT k)) (k : Int) sz (1, 0, 1)).2.1 (kAl (kSum ch (k : Int) sz sz (yT k)) (k : Int) sz (1, 0, 1)).2.2 sz (kSum ch (k : Int) sz sz (yT k))
def yU (k : Nat) : Nat → Nat → Int := kSum ch (k : Int) sz sz (yT ch sz T0 k)
def yA (k : Nat) : Int × Int := (kAl (yU ch sz T0 k) (k : Int) sz (1, 0, 1)).2
end ZT
/-- the tree whose stages are looked at -/
def trO (sz : Nat) (T0 : Nat → Nat → Int) (ch : Nat → Option Nat) : Prop := (1 ≤ sz ∧ sz ≤ 47) ∧ (∀ x q, x < sz → ch x = some q → ∃ m, q = 76 + 141 * 0 + 3 * m ∧ x < m ∧ m + 1 < sz) ∧ (∀ x m, x < sz → ch x = some (76 + 141 * 0 + 3 * m) → T0 m 5 + T0 (m + 1) 5 ≤ T0 x 5) ∧ (∀ x, x < sz → 0 ≤ T0 x 5) ∧ (∀ x y m m2, x < sz → y < sz → x ≠ y → ch x = some (76 + 141 * 0 + 3 * m) → ch y = some (76 + 141 * 0 + 3 * m2) → m + 1 < m2 ∨ m2 + 1 < m) ∧ 2 * sumN (fun x => if ch x = none then 0 else 1) sz + 1 = sz
/-- what holds as stage k begins -/
def sI (sz : Nat) (T0 : Nat → Nat → Int) (ch : Nat → Option Nat) (k : Nat) (T : Nat → Nat → Int) : Prop := zEq T0 T ∧ (∀ x, x < sz → (0 ≤ T x 8 ∧ T x 8 ≤ k) ∨ T x 8 = 24) ∧ (∀ x, x < sz → (0 ≤ T x 9 ∧ T x 9 ≤ k) ∨ T x 9 = 24) ∧ T 0 9 = 24 ∧ lkW sz T ch k
theorem kBg_at {ch : Nat → Option Nat} {T : Nat → Nat → Int} {x : Nat} : ∀ n, x < n → kBg ch n T x 8 = (if ch x = none then 0 else 24) ∧ kBg ch n T x 9 = 24
  | 0, h => absurd h (Nat.not_lt_zero x)
  | n + 1, h => by
    show va_up (kBg ch n T) n _ x 8 = _ ∧ va_up (kBg ch n T) n _ x 9 = _
    by_cases e : x = n
    · subst e
      rw [va_up_self, va_up_self, va_up_ne _ _ (by decide), va_up_self]
      exact ⟨rfl, rfl⟩
    · rw [va_up_ne _ _ e]
      exact kBg_at n (by omega)
theorem sI_0 {sz : Nat} {T0 : Nat → Nat → Int} {ch : Nat → Option Nat} (h : trO sz T0 ch) : sI sz T0 ch 0 (kBg ch sz T0) := by
  obtain ⟨⟨h1, h47⟩, hd, -⟩ := h
  refine ⟨zEq_bg T0 ch sz, fun x hx => ?_, fun x hx => Or.inr (kBg_at sz hx).2, (kBg_at sz (by omega)).2, fun x m hx hc _ _ => ?_, fun x hx hc => ?_⟩
  · rw [(kBg_at sz hx).1]
    by_cases q : ch x = none
    · rw [if_pos q]; exact Or.inl ⟨by decide, by decide⟩
    · rw [if_neg q]; exact Or.inr rfl
  · obtain ⟨m', e, -, hm⟩ := hd x _ hx hc
    have : m' = m := by omega
    subst this
    rw [(kBg_at sz (show m' < sz by omega)).2, (kBg_at sz hm).2]
    decide
  · rw [(kBg_at sz hx).1, if_pos hc]
    decide
