/-! A ROW IS ADDED: the first c columns are entered -/
def lstN (s : Nat) : Nat := if s = 1 then 64 else 101
def adV (a v : Nat → Int) (c : Nat) : Nat → Int := fun j => if j < c then a j else v j
def adK (w : Nat) (a : Nat → Int) (rK : Nat → Nat) (c : Nat) : Nat → Nat := fun x => if x < c ∧ ¬ a x = -1 then rK x ||| w else rK x
def adL (so : Nat → Nat) (w : Nat) (a : Nat → Int) (rL : Nat → Nat → Nat) (c : Nat) : Nat → Nat → Nat := fun x => if x < c ∧ ¬ a x = -1 then enL (so x) (a x).toNat w (lstN (so x)) (rL x) else rL x
theorem adV_0 (a v : Nat → Int) : adV a v 0 = v := by funext j; unfold adV; rw [if_neg (by omega)]
theorem adK_0 (w : Nat) (a : Nat → Int) (rK : Nat → Nat) : adK w a rK 0 = rK := by funext j; unfold adK; rw [if_neg (by omega)]
theorem adL_0 (so : Nat → Nat) (w : Nat) (a : Nat → Int) (rL : Nat → Nat → Nat) : adL so w a rL 0 = rL := by funext j; unfold adL; rw [if_neg (by omega)]
theorem adV_s (a v : Nat → Int) (c : Nat) : va_up (adV a v c) c (a c) = adV a v (c + 1) := by
  funext j
  by_cases e : j = c
  · subst e; rw [va_up_self]; unfold adV; rw [if_pos (by omega)]
  · rw [va_up_ne _ _ e]
    unfold adV
    by_cases h : j < c
    · rw [if_pos h, if_pos (by omega)]
    · rw [if_neg h, if_neg (by omega)]
theorem adK_s {w : Nat} {a : Nat → Int} {rK : Nat → Nat} {c : Nat} (h : ¬ a c = -1) : va_up (adK w a rK c) c (adK w a rK c c ||| w) = adK w a rK (c + 1) := by
  funext j
  by_cases e : j = c
  · subst e; rw [va_up_self]; unfold adK; rw [if_neg (by omega), if_pos ⟨by omega, h⟩]
  · rw [va_up_ne _ _ e]
    unfold adK
    by_cases g : j < c ∧ ¬ a j = -1
    · rw [if_pos g, if_pos ⟨by omega, g.2⟩]
    · rw [if_neg g, if_neg (fun q => g ⟨by omega, q.2⟩)]
theorem adK_n {w : Nat} {a : Nat → Int} {rK : Nat → Nat} {c : Nat} (h : a c = -1) : adK w a rK c = adK w a rK (c + 1) := by
  funext j
  unfold adK
  by_cases g : j < c ∧ ¬ a j = -1
  · rw [if_pos g, if_pos ⟨by omega, g.2⟩]
  · rw [if_neg g, if_neg]
    intro q
    by_cases e : j = c
    · subst e; exact q.2 h
    · exact g ⟨by omega, q.2⟩
theorem adL_s {so : Nat → Nat} {w : Nat} {a : Nat → Int} {rL : Nat → Nat → Nat} {c : Nat} (h : ¬ a c = -1) : va_up (adL so w a rL c) c (enL (so c) (a c).toNat w (lstN (so c)) (adL so w a rL c c)) = adL so w a rL (c + 1) := by
  funext j
  by_cases e : j = c
  · subst e; rw [va_up_self]; unfold adL; rw [if_neg (by omega), if_pos ⟨by omega, h⟩]
  · rw [va_up_ne _ _ e]
    unfold adL
    by_cases g : j < c ∧ ¬ a j = -1
    · rw [if_pos g, if_pos ⟨by omega, g.2⟩]
    · rw [if_neg g, if_neg (fun q => g ⟨by omega, q.2⟩)]
theorem adL_n {so : Nat → Nat} {w : Nat} {a : Nat → Int} {rL : Nat → Nat → Nat} {c : Nat} (h : a c = -1) : adL so w a rL c = adL so w a rL (c + 1) := by
  funext j
  unfold adL
  by_cases g : j < c ∧ ¬ a j = -1
  · rw [if_pos g, if_pos ⟨by omega, g.2⟩]
  · rw [if_neg g, if_neg]
    intro q
    by_cases e : j = c
    · subst e; exact q.2 h
    · exact g ⟨by omega, q.2⟩
theorem bTab_ad {n : Nat} {cl so rC rK : Nat → Nat} {rL : Nat → Nat → Nat} (h : bTab n cl so rC rK rL) {w : Nat} (hw : w < 16777216) (a : Nat → Int) (c : Nat) : bTab n cl so rC (adK w a rK c) (adL so w a rL c) := ⟨h.1, h.2.1, h.2.2.1, h.2.2.2.1, fun x => by
  unfold adK
  split
  · exact or_lt 24 (h.2.2.2.2.1 x) hw
  · exact h.2.2.2.2.1 x, fun x k => by
  unfold adL
  split
  · exact enL_lt (h.2.2.2.2.2 x) hw k
  · exact h.2.2.2.2.2 x k⟩
