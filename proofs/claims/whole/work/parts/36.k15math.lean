/-! THE TABLE, written -/
theorem eJ_nat {G : xG} {n : Nat} (g : Nat → Nat) (k v : Nat) : eJ G n (va_up (fun j => ((g j : Nat) : Int)) k (v : Int)) = eJ G n (fun j => ((va_up g k v j : Nat) : Int)) := by
  have : va_up (fun j => ((g j : Nat) : Int)) k (v : Int) = fun j => ((va_up g k v j : Nat) : Int) := by
    funext j
    by_cases h : j = k
    · subst h; rw [va_up_self, va_up_self]
    · rw [va_up_ne _ _ h, va_up_ne _ _ h]
  rw [this]
/-- the rows that go left at each number, with the bit w at those where the value v does, up to m -/
def enL (s v w m : Nat) (g : Nat → Nat) : Nat → Nat := fun j => if j < m ∧ lfP s j v = true then g j ||| w else g j
theorem enL_0 (s v w : Nat) (g : Nat → Nat) : enL s v w 0 g = g := by
  funext j
  unfold enL
  rw [if_neg (by omega)]
theorem enL_t {s v w m : Nat} {g : Nat → Nat} (h : lfP s m v = true) : va_up (enL s v w m g) m (enL s v w m g m ||| w) = enL s v w (m + 1) g := by
  funext j
  by_cases e : j = m
  · subst e
    rw [va_up_self]
    unfold enL
    rw [if_neg (by omega), if_pos ⟨by omega, h⟩]
  · rw [va_up_ne _ _ e]
    unfold enL
    by_cases h1 : j < m ∧ lfP s j v = true
    · rw [if_pos h1, if_pos ⟨by omega, h1.2⟩]
    · rw [if_neg h1, if_neg (fun q => h1 ⟨by omega, q.2⟩)]
theorem enL_f {s v w m : Nat} {g : Nat → Nat} (h : ¬ lfP s m v = true) : enL s v w m g = enL s v w (m + 1) g := by
  funext j
  unfold enL
  by_cases h1 : j < m ∧ lfP s j v = true
  · rw [if_pos h1, if_pos ⟨by omega, h1.2⟩]
  · rw [if_neg h1, if_neg (fun q => h1 ⟨by
      rcases Nat.lt_or_ge j m with g1 | g1
      · exact g1
      · have : j = m := by omega
        subst this
        exact absurd q.2 h, q.2⟩)]
