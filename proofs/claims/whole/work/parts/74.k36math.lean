/-! the four values that a row is asked with -/
def ak4 (Q : Nat → Nat → Int) (a b c d : Int) : Nat → Nat → Int := va_up Q 371 (as4 (Q 371) a b c d)
theorem kMis_c {val : Nat → Nat → Int} {cl so rC rK : Nat → Nat} {rL : Nat → Nat → Nat} {le de wo n r : Nat} {s : gS} (hs : s = cTr so rC rK rL le de wo (nd (2 ^ n - 1) (2 ^ r))) : kMis val cl so rC rK rL le de wo n r = pI (¬ s.2.1 (kWh 0 so (val r) s.2.1 s.2.2 5 0) 4 = (cl r : Int)) := by
  rw [hs]
  rfl
theorem kWh_b {t : Nat} {so : Nat → Nat} {a a2 : Nat → Int} {s : gS} (h : ∀ q, q < 4 → a q = a2 q) (hgi : gInv t s) (f : Nat) : kWh t so a s.2.1 s.2.2 f 0 = kWh t so a2 s.2.1 s.2.2 f 0 := kWh_a h hgi.2.1 hgi.2.2.1 f 0 (by decide)
