/-! NO ROWS -/
def zrN (m : Nat) (f : Nat → Nat) : Nat → Nat := fun x => if x < m then 0 else f x
def zrL (m : Nat) (rL : Nat → Nat → Nat) : Nat → Nat → Nat := fun x => if x < m then zrN 101 (rL x) else rL x
theorem zrN_0 (f : Nat → Nat) : zrN 0 f = f := by funext x; unfold zrN; rw [if_neg (by omega)]
theorem zrL_0 (rL : Nat → Nat → Nat) : zrL 0 rL = rL := by funext x; unfold zrL; rw [if_neg (by omega)]
theorem zrN_s (m : Nat) (f : Nat → Nat) : va_up (zrN m f) m 0 = zrN (m + 1) f := by
  funext x
  by_cases e : x = m
  · subst e; rw [va_up_self]; unfold zrN; rw [if_pos (by omega)]
  · rw [va_up_ne _ _ e]
    unfold zrN
    by_cases h : x < m
    · rw [if_pos h, if_pos (by omega)]
    · rw [if_neg h, if_neg (by omega)]
theorem zrL_s (m : Nat) (rL : Nat → Nat → Nat) : va_up (zrL m rL) m (zrN 101 (rL m)) = zrL (m + 1) rL := by
  funext x
  by_cases e : x = m
  · subst e; rw [va_up_self]; unfold zrL; rw [if_pos (by omega)]
  · rw [va_up_ne _ _ e]
    unfold zrL
    by_cases h : x < m
    · rw [if_pos h, if_pos (by omega)]
    · rw [if_neg h, if_neg (by omega)]
theorem zrL_m (m : Nat) (rL : Nat → Nat → Nat) : zrL m rL m = rL m := by unfold zrL; rw [if_neg (by omega)]
