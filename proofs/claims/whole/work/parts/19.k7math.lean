/-! TREES: tree t (0 or 1), sz nodes, their numbers T n, their left children's cells ch n -/
def pTre (G : xG) (ad : Nat → Nat) (σ : xF) (t sz : Nat) (T : Nat → Nat → Int) (ch : Nat → Option Nat) : Prop :=
  σ (8 + t) = eO 7 [.int (iv sz), .ref (ad 1), .ref (ad 2), .ref (ad 3), .ref (ad (18 + t)), .ref (ad (76 + 141 * t))] ∧
  σ (18 + t) = eR G 2 47 (fun n => if n < 47 then some (ad (76 + 141 * t + 3 * n)) else none) ∧
  ∀ n, n < 47 → pNod ad σ (76 + 141 * t + 3 * n) n (T n) (ch n)
theorem pNod.up {ad : Nat → Nat} {σ σ' : xF} {b num : Nat} {F : Nat → Int} {ch : Option Nat} (h : pNod ad σ b num F ch) (e0 : σ' b = σ b) (e1 : σ' (b + 1) = σ (b + 1)) (e2 : σ' (b + 2) = σ (b + 2)) : pNod ad σ' b num F ch := ⟨e0.trans h.1, e1.trans h.2.1, e2.trans h.2.2⟩
/-- what 'begin' makes of a node's numbers -/
noncomputable def fBeg (rC : Nat → Nat) (F : Nat → Int) (rows : Nat) (dep : Int) : Nat → Int := va_up (va_up (va_up (va_up F 2 rows) 3 dep) 4 (kLab rC rows : Nat)) 5 (((cnt rows : Nat) : Int) - ((kCnt rC rows (kLab rC rows) : Nat) : Int))
