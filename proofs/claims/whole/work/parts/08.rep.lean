/-! THE CLASS'S CELLS, by their numbers: 0 BestSplits, 1 Table, 2 Limits, 3 Survey, 4 tried, 5 its gain, 6 best, 7 its gain, 8 tree, 9 treeOfOthers, 10 Pruning, 11 asked,
12 values, 13 classes, 14 sorts, 15 rowsOfClass, 16 rowsKnown, 17 rowsLeft, 18 tree.all, 19 treeOfOthers.all, 20 alphas, 21 leafCounts, 22 wrongSums, 23 ofNode, 24.. rowsLeft's rows, 28.. values' rows, 52.. alphas' fractions,
76 + 141 t + 3 n: node n of tree t, its cut, its gain -/
def pTab (G : xG) (ad : Nat → Nat) (σ : xF) (n : Nat) (val : Nat → Nat → Int) (cl so rC rK : Nat → Nat) (rL : Nat → Nat → Nat) : Prop :=
  σ 1 = eO cTab [.ref (ad 12), .ref (ad 13), .int (iv n), .ref (ad 14), .ref (ad 15), .ref (ad 16), .ref (ad 17)] ∧
  σ 12 = eR G 1 24 (fun r => if r < 24 then some (ad (28 + r)) else none) ∧
  σ 13 = eJ G 24 (fun r => (cl r : Int)) ∧ σ 14 = eJ G 4 (fun c => (so c : Int)) ∧ σ 15 = eJ G 3 (fun k => (rC k : Int)) ∧ σ 16 = eJ G 4 (fun c => (rK c : Int)) ∧
  σ 17 = eR G 1 4 (fun c => if c < 4 then some (ad (24 + c)) else none) ∧
  (∀ c, c < 4 → σ (24 + c) = eJ G 101 (fun k => (rL c k : Int))) ∧ (∀ r, r < 24 → σ (28 + r) = eJ G 4 (val r))
/-- the bounds of what the table holds -/
def bTab (n : Nat) (cl so rC rK : Nat → Nat) (rL : Nat → Nat → Nat) : Prop := n ≤ 24 ∧ (∀ r, cl r < 3) ∧ (∀ c, so c < 2) ∧ (∀ k, rC k < 16777216) ∧ (∀ c, rK c < 16777216) ∧ ∀ c k, rL c k < 16777216
def pLim (σ : xF) (de le wo : Nat) : Prop := σ 2 = eO cLim [.int (iv de), .int (iv le), .int (iv wo)]
def pFra (σ : xF) (i : Nat) (a b : Int) : Prop := σ i = eO cFra [.int (iv a), .int (iv b)]
def pCut (ad : Nat → Nat) (σ : xF) (i g : Nat) (c num side : Int) : Prop := σ i = eO cCut [.ref (ad g), .int (iv c), .int (iv num), .int (iv side)]
def pSur (ad : Nat → Nat) (σ : xF) : Prop := σ 3 = eO cSur [.ref (ad 4), .ref (ad 6), .ref (ad 1), .ref (ad 2)]
theorem pTab.up {G : xG} {ad : Nat → Nat} {σ : xF} {n : Nat} {val : Nat → Nat → Int} {cl so rC rK : Nat → Nat} {rL : Nat → Nat → Nat} (h : pTab G ad σ n val cl so rC rK rL) {σ' : xF} (hs : ∀ i, i = 1 ∨ (12 ≤ i ∧ i ≤ 17) ∨ (24 ≤ i ∧ i ≤ 51) → σ' i = σ i) : pTab G ad σ' n val cl so rC rK rL := by
  obtain ⟨a1, a2, a3, a4, a5, a6, a7, a8, a9⟩ := h
  refine ⟨(hs 1 (by omega)).trans a1, (hs 12 (by omega)).trans a2, (hs 13 (by omega)).trans a3, (hs 14 (by omega)).trans a4, (hs 15 (by omega)).trans a5, (hs 16 (by omega)).trans a6, (hs 17 (by omega)).trans a7, fun c hc => (hs _ (by omega)).trans (a8 c hc), fun r hr => (hs _ (by omega)).trans (a9 r hr)⟩
