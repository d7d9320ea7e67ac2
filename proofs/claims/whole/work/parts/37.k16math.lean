/-! the table's picture, one cell changed -/
section PT
variable {G : xG} {ad : Nat → Nat} {σ σ' : xF} {n : Nat} {val : Nat → Nat → Int} {cl so rC rK : Nat → Nat} {rL : Nat → Nat → Nat}
theorem pTab.so1 (h : pTab G ad σ n val cl so rC rK rL) {so2 : Nat → Nat} (o : ∀ i, i ≠ 14 → σ' i = σ i) (e : σ' 14 = eJ G 4 (fun c => ((so2 c : Nat) : Int))) : pTab G ad σ' n val cl so2 rC rK rL := by
  obtain ⟨a1, a2, a3, a4, a5, a6, a7, a8, a9⟩ := h
  exact ⟨(o 1 (by decide)).trans a1, (o 12 (by decide)).trans a2, (o 13 (by decide)).trans a3, e, (o 15 (by decide)).trans a5, (o 16 (by decide)).trans a6, (o 17 (by decide)).trans a7, fun c hc => (o _ (by omega)).trans (a8 c hc), fun r hr => (o _ (by omega)).trans (a9 r hr)⟩
theorem pTab.cl1 (h : pTab G ad σ n val cl so rC rK rL) {cl2 : Nat → Nat} (o : ∀ i, i ≠ 13 → σ' i = σ i) (e : σ' 13 = eJ G 24 (fun c => ((cl2 c : Nat) : Int))) : pTab G ad σ' n val cl2 so rC rK rL := by
  obtain ⟨a1, a2, a3, a4, a5, a6, a7, a8, a9⟩ := h
  exact ⟨(o 1 (by decide)).trans a1, (o 12 (by decide)).trans a2, e, (o 14 (by decide)).trans a4, (o 15 (by decide)).trans a5, (o 16 (by decide)).trans a6, (o 17 (by decide)).trans a7, fun c hc => (o _ (by omega)).trans (a8 c hc), fun r hr => (o _ (by omega)).trans (a9 r hr)⟩
theorem pTab.rC1 (h : pTab G ad σ n val cl so rC rK rL) {rC2 : Nat → Nat} (o : ∀ i, i ≠ 15 → σ' i = σ i) (e : σ' 15 = eJ G 3 (fun c => ((rC2 c : Nat) : Int))) : pTab G ad σ' n val cl so rC2 rK rL := by
  obtain ⟨a1, a2, a3, a4, a5, a6, a7, a8, a9⟩ := h
  exact ⟨(o 1 (by decide)).trans a1, (o 12 (by decide)).trans a2, (o 13 (by decide)).trans a3, (o 14 (by decide)).trans a4, e, (o 16 (by decide)).trans a6, (o 17 (by decide)).trans a7, fun c hc => (o _ (by omega)).trans (a8 c hc), fun r hr => (o _ (by omega)).trans (a9 r hr)⟩
theorem pTab.rK1 (h : pTab G ad σ n val cl so rC rK rL) {rK2 : Nat → Nat} (o : ∀ i, i ≠ 16 → σ' i = σ i) (e : σ' 16 = eJ G 4 (fun c => ((rK2 c : Nat) : Int))) : pTab G ad σ' n val cl so rC rK2 rL := by
  obtain ⟨a1, a2, a3, a4, a5, a6, a7, a8, a9⟩ := h
  exact ⟨(o 1 (by decide)).trans a1, (o 12 (by decide)).trans a2, (o 13 (by decide)).trans a3, (o 14 (by decide)).trans a4, (o 15 (by decide)).trans a5, e, (o 17 (by decide)).trans a7, fun c hc => (o _ (by omega)).trans (a8 c hc), fun r hr => (o _ (by omega)).trans (a9 r hr)⟩
theorem pTab.n1 (h : pTab G ad σ n val cl so rC rK rL) {n2 : Nat} (o : ∀ i, i ≠ 1 → σ' i = σ i) (e : σ' 1 = eO cTab [.ref (ad 12), .ref (ad 13), .int (iv n2), .ref (ad 14), .ref (ad 15), .ref (ad 16), .ref (ad 17)]) : pTab G ad σ' n2 val cl so rC rK rL := by
  obtain ⟨a1, a2, a3, a4, a5, a6, a7, a8, a9⟩ := h
  exact ⟨e, (o 12 (by decide)).trans a2, (o 13 (by decide)).trans a3, (o 14 (by decide)).trans a4, (o 15 (by decide)).trans a5, (o 16 (by decide)).trans a6, (o 17 (by decide)).trans a7, fun c hc => (o _ (by omega)).trans (a8 c hc), fun r hr => (o _ (by omega)).trans (a9 r hr)⟩
theorem pTab.rL1 (h : pTab G ad σ n val cl so rC rK rL) {c : Nat} (hc : c < 4) {g : Nat → Nat} (o : ∀ i, i ≠ 24 + c → σ' i = σ i) (e : σ' (24 + c) = eJ G 101 (fun k => ((g k : Nat) : Int))) : pTab G ad σ' n val cl so rC rK (va_up rL c g) := by
  obtain ⟨a1, a2, a3, a4, a5, a6, a7, a8, a9⟩ := h
  refine ⟨(o 1 (by omega)).trans a1, (o 12 (by omega)).trans a2, (o 13 (by omega)).trans a3, (o 14 (by omega)).trans a4, (o 15 (by omega)).trans a5, (o 16 (by omega)).trans a6, (o 17 (by omega)).trans a7, fun c2 hc2 => ?_, fun r hr => (o _ (by omega)).trans (a9 r hr)⟩
  by_cases q : c2 = c
  · subst q
    rw [va_up_self]
    exact e
  · rw [va_up_ne _ _ q]
    exact (o _ (by omega)).trans (a8 c2 hc2)
theorem pTab.val1 (h : pTab G ad σ n val cl so rC rK rL) {r : Nat} (hr : r < 24) {g : Nat → Int} (o : ∀ i, i ≠ 28 + r → σ' i = σ i) (e : σ' (28 + r) = eJ G 4 g) : pTab G ad σ' n (va_up val r g) cl so rC rK rL := by
  obtain ⟨a1, a2, a3, a4, a5, a6, a7, a8, a9⟩ := h
  refine ⟨(o 1 (by omega)).trans a1, (o 12 (by omega)).trans a2, (o 13 (by omega)).trans a3, (o 14 (by omega)).trans a4, (o 15 (by omega)).trans a5, (o 16 (by omega)).trans a6, (o 17 (by omega)).trans a7, fun c hc => (o _ (by omega)).trans (a8 c hc), fun r2 hr2 => ?_⟩
  by_cases q : r2 = r
  · subst q
    rw [va_up_self]
    exact e
  · rw [va_up_ne _ _ q]
    exact (o _ (by omega)).trans (a9 r2 hr2)
theorem bTab.rK1 (h : bTab n cl so rC rK rL) {c v : Nat} (hv : v < 16777216) : bTab n cl so rC (va_up rK c v) rL := ⟨h.1, h.2.1, h.2.2.1, h.2.2.2.1, fun x => by
  by_cases e : x = c
  · subst e; rw [va_up_self]; exact hv
  · rw [va_up_ne _ _ e]; exact h.2.2.2.2.1 x, h.2.2.2.2.2⟩
theorem bTab.rL1 (h : bTab n cl so rC rK rL) {c : Nat} {g : Nat → Nat} (hv : ∀ k, g k < 16777216) : bTab n cl so rC rK (va_up rL c g) := ⟨h.1, h.2.1, h.2.2.1, h.2.2.2.1, h.2.2.2.2.1, fun x k => by
  by_cases e : x = c
  · subst e; rw [va_up_self]; exact hv k
  · rw [va_up_ne _ _ e]; exact h.2.2.2.2.2 x k⟩
theorem bTab.so1 (h : bTab n cl so rC rK rL) {c v : Nat} (hv : v < 2) : bTab n cl (va_up so c v) rC rK rL := ⟨h.1, h.2.1, fun x => by
  by_cases e : x = c
  · subst e; rw [va_up_self]; exact hv
  · rw [va_up_ne _ _ e]; exact h.2.2.1 x, h.2.2.2.1, h.2.2.2.2.1, h.2.2.2.2.2⟩
end PT
theorem enL_lt {s v w m : Nat} {g : Nat → Nat} (hg : ∀ k, g k < 16777216) (hw : w < 16777216) (k : Nat) : enL s v w m g k < 16777216 := by
  unfold enL
  split
  · exact or_lt 24 (hg k) hw
  · exact hg k
theorem two_lt {r : Nat} (h : r < 24) : 2 ^ r < 16777216 := Nat.pow_lt_pow_right (by decide) h
theorem va_up_id {α : Type} (f : Nat → α) (k : Nat) : va_up f k (f k) = f := by
  funext x
  by_cases e : x = k
  · subst e; exact va_up_self _ _ _
  · exact va_up_ne _ _ e
