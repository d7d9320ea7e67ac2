/-! COMING to a LEAF -/
def tOk (T : Nat → Nat → Int) : Prop := ∀ n, n < 47 → ∃ c num side : Nat, c < 4 ∧ num ≤ 100 ∧ side ≤ 1 ∧ T n 12 = c ∧ T n 13 = num ∧ T n 14 = side
def chOk (t : Nat) (ch : Nat → Option Nat) : Prop := ∀ n q, n < 47 → ch n = some q → ∃ m, q = 76 + 141 * t + 3 * m ∧ n < m ∧ m + 1 < 47
def kNx (t : Nat) (so : Nat → Nat) (a : Nat → Int) (T : Nat → Nat → Int) (ch : Nat → Option Nat) (x : Nat) : Option Nat := match ch x with
  | none => none
  | some q => some ((q - (76 + 141 * t)) / 3 + (if kGo (so (T x 12).toNat) (a (T x 12).toNat) (T x 13).toNat (T x 14).toNat = true then 0 else 1))
def kWh (t : Nat) (so : Nat → Nat) (a : Nat → Int) (T : Nat → Nat → Int) (ch : Nat → Option Nat) : Nat → Nat → Nat
  | 0, x => x
  | f + 1, x => match kNx t so a T ch x with
    | none => x
    | some m => kWh t so a T ch f m
theorem kWh_n {t : Nat} {so : Nat → Nat} {a : Nat → Int} {T : Nat → Nat → Int} {ch : Nat → Option Nat} {x : Nat} (h : ch x = none) : ∀ f, kWh t so a T ch f x = x
  | 0 => rfl
  | f + 1 => by
    have e : kNx t so a T ch x = none := by unfold kNx; rw [h]
    show (match kNx t so a T ch x with | none => x | some m => kWh t so a T ch f m) = x
    rw [e]
theorem kWh_s {t : Nat} {so : Nat → Nat} {a : Nat → Int} {T : Nat → Nat → Int} {ch : Nat → Option Nat} {x m : Nat} (h : ch x = some (76 + 141 * t + 3 * m)) {c num side : Nat} (e1 : T x 12 = c) (e2 : T x 13 = num) (e3 : T x 14 = side) (f : Nat) : kWh t so a T ch (f + 1) x = kWh t so a T ch f (m + (if kGo (so c) (a c) num side = true then 0 else 1)) := by
  have e : kNx t so a T ch x = some (m + (if kGo (so c) (a c) num side = true then 0 else 1)) := by
    unfold kNx
    rw [h, e1, e2, e3]
    show some ((76 + 141 * t + 3 * m - (76 + 141 * t)) / 3 + _) = _
    rw [show (76 + 141 * t + 3 * m - (76 + 141 * t)) / 3 = m by omega]
    rfl
  show (match kNx t so a T ch x with | none => x | some m => kWh t so a T ch f m) = _
  rw [e]
