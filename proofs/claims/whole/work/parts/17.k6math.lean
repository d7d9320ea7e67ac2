/-! NODES: the node at cell b, its cut at b + 1, its gain at b + 2; its number num, its numbers F (by the places of the fields; 12 to 16: column, number, side, above, below); ch: the cell of its left child (the right one's is 3 on) -/
def lC (ad : Nat → Nat) (ch : Option Nat) : Value := match ch with
  | none => .null
  | some q => .ref (ad q)
def nodE (ad : Nat → Nat) (b num : Nat) (F : Nat → Int) (ch : Option Nat) : va_E := eO 3 [.int (iv num), .ref (ad (b + 1)), .int (iv (F 2)), .int (iv (F 3)), .int (iv (F 4)), .int (iv (F 5)), lC ad ch, lC ad (ch.map (fun q => q + 3)), .int (iv (F 8)), .int (iv (F 9)), .int (iv (F 10)), .int (iv (F 11))]
def pNod (ad : Nat → Nat) (σ : xF) (b num : Nat) (F : Nat → Int) (ch : Option Nat) : Prop := σ b = nodE ad b num F ch ∧ pCut ad σ (b + 1) (b + 2) (F 12) (F 13) (F 14) ∧ pFra σ (b + 2) (F 15) (F 16)
/-- F with one place changed -/
def fU (F : Nat → Int) (k : Nat) (z : Int) : Nat → Int := va_up F k z
theorem lC_n (ad : Nat → Nat) : lC ad none = .null := rfl
theorem lC_s (ad : Nat → Nat) (q : Nat) : lC ad (some q) = .ref (ad q) := rfl
