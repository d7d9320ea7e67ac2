/-! constructors: what is made stays made -/
def moN (σ σ' : xF) : Prop := ∀ i, σ i ≠ fNo → σ' i ≠ fNo
theorem moN_r (σ : xF) : moN σ σ := fun _ h => h
theorem moN_up {σ σ1 : xF} (h : moN σ σ1) (g : Nat) {e : va_E} (he : e ≠ fNo) : moN σ (va_up σ1 g e) := fun i hi => by
  by_cases q : i = g
  · subst q; rw [va_up_self]; exact he
  · rw [va_up_ne _ _ q]; exact h i hi
theorem moN_tr {σ σ1 σ2 : xF} (h1 : moN σ σ1) (h2 : moN σ1 σ2) : moN σ σ2 := fun i hi => h2 i (h1 i hi)
theorem exA_r (σ : xF) (ad : Nat → Nat) : exA σ ad ad := fun _ _ _ => rfl
theorem exA_tr {σ σ1 : xF} {ad a1 a2 : Nat → Nat} (h1 : exA σ ad a1) (hm : moN σ σ1) (h2 : exA σ1 a1 a2) : exA σ ad a2 := fun i hi hn => (h2 i hi (hm i hn)).trans (h1 i hi hn)
theorem eR_c {G : xG} {t n lo : Nat} {a1 a2 : Nat → Nat} (h : ∀ i, i < n → a2 (lo + i) = a1 (lo + i)) : eR G t n (fun i => if i < n then some (a1 (lo + i)) else none) = eR G t n (fun i => if i < n then some (a2 (lo + i)) else none) := by
  have : (fun i => if i < n then some (a1 (lo + i)) else none) = (fun i => if i < n then some (a2 (lo + i)) else none) := by
    funext i
    by_cases q : i < n
    · rw [if_pos q, if_pos q, h i q]
    · rw [if_neg q, if_neg q]
  rw [this]
theorem ph_in {G : xG} {m9 g n : Nat} {σ : xF} {j : Nat} (h : g ≤ j ∧ j < g + n) : (fun j => if g ≤ j ∧ j < g + n then eJ G m9 (fun _ => 0) else σ j) j = eJ G m9 (fun _ => 0) := if_pos h
theorem ph_out {G : xG} {m9 g n : Nat} {σ : xF} {j : Nat} (h : ¬ (g ≤ j ∧ j < g + n)) : (fun j => if g ≤ j ∧ j < g + n then eJ G m9 (fun _ => 0) else σ j) j = σ j := if_neg h
theorem moN_2 {σ σ1 σ2 : xF} (h : moN σ σ1) {b g : Nat} (h1 : σ2 b ≠ fNo) (h2 : σ2 g ≠ fNo) (h3 : ∀ q, q ≠ b ∧ q ≠ g → σ2 q = σ1 q) : moN σ σ2 := fun i hi => by
  by_cases q1 : i = b
  · rw [q1]; exact h1
  · by_cases q2 : i = g
    · rw [q2]; exact h2
    · rw [h3 i ⟨q1, q2⟩]; exact h i hi
theorem moN_of {σ σ1 σ2 : xF} (h : moN σ σ1) (h3 : ∀ q, σ2 q ≠ fNo ∨ σ2 q = σ1 q) : moN σ σ2 := fun i hi => by
  rcases h3 i with q | q
  · exact q
  · rw [q]; exact h i hi
