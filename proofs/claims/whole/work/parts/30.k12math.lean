/-! ALPHA: the least over the parted nodes; f = 1: none yet -/
def kAlS (T : Nat → Nat → Int) (s : Int) (n : Nat) (A : Int × Int × Int) : Int × Int × Int := if ¬ T n 9 ≤ s ∧ ¬ T n 8 ≤ s then (if A.1 = 1 ∨ (T n 5 - T n 11) * A.2.2 < A.2.1 * (T n 10 - 1) then (0, T n 5 - T n 11, T n 10 - 1) else (0, A.2)) else A
def kAl (T : Nat → Nat → Int) (s : Int) : Nat → Int × Int × Int → Int × Int × Int
  | 0, A => A
  | n + 1, A => kAlS T s n (kAl T s n A)
/-- the cells that findAlpha uses -/
def alI (σ σv : xF) (e : Nat) (A : Int × Int × Int) : Prop := (∀ i, i ≠ 23 → i ≠ e → σv i = σ i) ∧ (∃ x y : Int, pFra σv 23 x y) ∧ pFra σv e A.2.1 A.2.2 ∧ ir A.2.1 ∧ ir A.2.2 ∧ (A.1 = 0 ∨ A.1 = 1)
/-- the pruning's cells, but for ofNode and one alpha -/
theorem pPru.up2 {G : xG} {ad : Nat → Nat} {σ σv : xF} {ps : Nat} {lc ws al be : Nat → Int} {e : Nat} (h : pPru G ad σ ps lc ws al be) (i1 : ∀ i, i ≠ 23 → i ≠ e → σv i = σ i) (i2 : ∃ x y : Int, pFra σv 23 x y) (he1 : 52 ≤ e) (he2 : e ≤ 75) {a b : Int} (i3 : pFra σv e a b) : pPru G ad σv ps lc ws (va_up al (e - 52) a) (va_up be (e - 52) b) := by
  obtain ⟨a1, a2, a3, a4, a5, a6⟩ := h
  refine ⟨(i1 10 (by decide) (by omega)).trans a1, (i1 20 (by decide) (by omega)).trans a2, (i1 21 (by decide) (by omega)).trans a3, (i1 22 (by decide) (by omega)).trans a4, i2, fun s hs => ?_⟩
  by_cases q : s = e - 52
  · rw [q, va_up_self, va_up_self, show 52 + (e - 52) = e by omega]
    exact i3
  · rw [va_up_ne _ _ q, va_up_ne _ _ q]
    exact (i1 _ (by omega) (by omega)).trans (a6 s hs)
