/-! ALPHAS, states -/
noncomputable def aStateY (sz : Nat) (T0 : Nat → Nat → Int) (ch : Nat → Option Nat) (E : Nat) (s x : Int) : Int := if (0 ≤ x ∧ x < (sz : Int)) ∧ 0 ≤ s ∧ s < (E : Int) then stF (yT ch sz T0 s.toNat) (s.toNat : Int) x.toNat else -1
theorem yA_q {f : Nat → Int} {g : Nat → Int} {f0 : Int} {k : Nat} (h0 : f 0 = f0) (h : ∀ j, j < k → f (j + 1) = g j) {j : Nat} (hj : j ≤ k) : f j = (if j = 0 then f0 else g (j - 1)) := by
  by_cases e : j = 0
  · rw [if_pos e, e]; exact h0
  · rw [if_neg e]
    have := h (j - 1) (by omega)
    rw [show j - 1 + 1 = j by omega] at this
    exact this
theorem yA_ok {s : gS} (hgi : gInv 0 s) (ht : trO s.1 s.2.1 s.2.2) {k : Nat} (hE : isE s.1 s.2.1 s.2.2 (k + 1)) {st : Nat} (hst : st ≤ k) : ∃ a b : Nat, (if st = 0 then (0 : Int) else (yA s.2.2 s.1 s.2.1 (st - 1)).1) = (a : Int) ∧ (if st = 0 then (1 : Int) else (yA s.2.2 s.1 s.2.1 (st - 1)).2) = (b : Int) ∧ a ≤ 24 ∧ 0 < b ∧ a < 2147483648 ∧ b ≤ 31 := by
  by_cases e : st = 0
  · rw [if_pos e, if_pos e]
    exact ⟨0, 1, rfl, rfl, by decide, by decide, by decide, by decide⟩
  · rw [if_neg e, if_neg e]
    have hj : stR (yT s.2.2 s.1 s.2.1 (st - 1) 0) ((st - 1 : Nat) : Int) = 0 := hE.2.2.1 (st - 1) (by omega)
    have hk24 := hE.2.1
    have hsi := yT_sI ht (st - 1) (by omega)
    obtain ⟨U, hU⟩ : ∃ U, U = yU s.2.2 s.1 s.2.1 (st - 1) := ⟨_, rfl⟩
    have e8 : ∀ x, U x 8 = yT s.2.2 s.1 s.2.1 (st - 1) x 8 := fun x => by rw [hU]; exact kSum_hi _ _ _ _ _ _ (by decide) _
    have e9 : ∀ x, U x 9 = yT s.2.2 s.1 s.2.1 (st - 1) x 9 := fun x => by rw [hU]; exact kSum_hi _ _ _ _ _ _ (by decide) _
    have e5 : ∀ x, U x 5 = yT s.2.2 s.1 s.2.1 (st - 1) x 5 := fun x => by rw [hU]; exact kSum_hi _ _ _ _ _ _ (by decide) _
    have ey : yA s.2.2 s.1 s.2.1 (st - 1) = (kAl U ((st - 1 : Nat) : Int) s.1 (1, 0, 1)).2 := by rw [hU]; rfl
    rw [ey]
    rcases kAl_m (T := U) (s := ((st - 1 : Nat) : Int)) (A0 := (1, 0, 1)) rfl s.1 with ⟨-, -, q⟩ | ⟨-, x, hx, hxs, hx2⟩
    · exact absurd (by rw [e8, e9]; exact stR_0 hj) (q 0 (by have := ht.1.1; omega))
    · rw [hx2]
      have hu := U_ok hgi ht hsi.1 ((st - 1 : Nat) : Int) hx
      have hu : (1 ≤ U x 10 ∧ U x 10 ≤ 32) ∧ (0 ≤ U x 11 ∧ U x 11 ≤ yT s.2.2 s.1 s.2.1 (st - 1) x 5) ∧ yT s.2.2 s.1 s.2.1 (st - 1) x 5 = s.2.1 x 5 ∧ yT s.2.2 s.1 s.2.1 (st - 1) x 5 ≤ 24 := by rw [hU]; exact hu
      rw [← e5] at hu
      have h2 : 2 ≤ U x 10 := by
        have h8 : ¬ yT s.2.2 s.1 s.2.1 (st - 1) x 8 ≤ ((st - 1 : Nat) : Int) := by rw [← e8]; exact hxs.2
        cases hc : s.2.2 x with
        | none => exact absurd (hsi.2.2.2.2.2 x hx hc) h8
        | some q =>
          obtain ⟨m, m1, m2, m3⟩ := ht.2.1 x q hx hc
          subst m1
          have hp := (kSum_p (s := ((st - 1 : Nat) : Int)) (T := yT s.2.2 s.1 s.2.1 (st - 1)) hx hc m2 m3 h8).1
          have k1 := kSum_1 (s := ((st - 1 : Nat) : Int)) (T := yT s.2.2 s.1 s.2.1 (st - 1)) ht.2.1 (s.1 - 1 - m) m (Nat.le_refl _) (by omega)
          have k2 := kSum_1 (s := ((st - 1 : Nat) : Int)) (T := yT s.2.2 s.1 s.2.1 (st - 1)) ht.2.1 (s.1 - 1 - (m + 1)) (m + 1) (Nat.le_refl _) m3
          have eu : U x 10 = kSum s.2.2 ((st - 1 : Nat) : Int) s.1 s.1 (yT s.2.2 s.1 s.2.1 (st - 1)) x 10 := by rw [hU]; rfl
          omega
      refine ⟨(U x 5 - U x 11).toNat, (U x 10 - 1).toNat, ?_, ?_, ?_, ?_, ?_, ?_⟩
      · show U x 5 - U x 11 = _; omega
      · show U x 10 - 1 = _; omega
      · omega
      · omega
      · omega
      · omega
