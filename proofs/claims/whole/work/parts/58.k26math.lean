/-! THE REFERENCE'S ARRAYS: Q says what each holds, by its cell -/
def pMa (G : xG) (σ : xF) (Q : Nat → Nat → Int) : Prop := (∀ q, 362 ≤ q → q ≤ 368 → σ q = eJ G 64 (Q q)) ∧ (∀ q, 369 ≤ q → q ≤ 370 → σ q = eL G 64 (Q q)) ∧ σ 371 = eJ G 4 (Q 371) ∧ σ 372 = eJ G 3072 (Q 372) ∧ (∀ q, 373 ≤ q → q ≤ 374 → σ q = eL G 48 (Q q)) ∧ σ 375 = eJ G 64 (Q 375)
theorem pMa.oth {G : xG} {σ σ' : xF} {Q : Nat → Nat → Int} (h : pMa G σ Q) (e : ∀ i, 362 ≤ i → i ≤ 375 → σ' i = σ i) : pMa G σ' Q := by
  obtain ⟨a, b, c, d, f, g⟩ := h
  exact ⟨fun q h1 h2 => (e q (by omega) (by omega)).trans (a q h1 h2), fun q h1 h2 => (e q (by omega) (by omega)).trans (b q h1 h2), (e 371 (by decide) (by decide)).trans c, (e 372 (by decide) (by decide)).trans d, fun q h1 h2 => (e q (by omega) (by omega)).trans (f q h1 h2), (e 375 (by decide) (by decide)).trans g⟩
/-- one array written -/
theorem pMa.set {G : xG} {σ σ' : xF} {Q : Nat → Nat → Int} (h : pMa G σ Q) (q : Nat) {g : Nat → Int} (e : ∀ i, i ≠ q → σ' i = σ i) (h1 : 362 ≤ q → q ≤ 368 → σ' q = eJ G 64 g) (h2 : 369 ≤ q → q ≤ 370 → σ' q = eL G 64 g) (h3 : q = 371 → σ' q = eJ G 4 g) (h4 : q = 372 → σ' q = eJ G 3072 g) (h5 : 373 ≤ q → q ≤ 374 → σ' q = eL G 48 g) (h6 : q = 375 → σ' q = eJ G 64 g) : pMa G σ' (va_up Q q g) := by
  obtain ⟨a, b, c, d, f, k⟩ := h
  refine ⟨fun x x1 x2 => ?_, fun x x1 x2 => ?_, ?_, ?_, fun x x1 x2 => ?_, ?_⟩
  · by_cases y : x = q
    · subst y; rw [va_up_self]; exact h1 x1 x2
    · rw [va_up_ne _ _ y, e x y]; exact a x x1 x2
  · by_cases y : x = q
    · subst y; rw [va_up_self]; exact h2 x1 x2
    · rw [va_up_ne _ _ y, e x y]; exact b x x1 x2
  · by_cases y : 371 = q
    · subst y; rw [va_up_self]; exact h3 rfl
    · rw [va_up_ne _ _ y, e _ y]; exact c
  · by_cases y : 372 = q
    · subst y; rw [va_up_self]; exact h4 rfl
    · rw [va_up_ne _ _ y, e _ y]; exact d
  · by_cases y : x = q
    · subst y; rw [va_up_self]; exact h5 x1 x2
    · rw [va_up_ne _ _ y, e x y]; exact f x x1 x2
  · by_cases y : 375 = q
    · subst y; rw [va_up_self]; exact h6 rfl
    · rw [va_up_ne _ _ y, e _ y]; exact k
theorem adV_e (g v : Nat → Int) (a b c d : Int) : adV (as4 g a b c d) v 4 = adV (a4 a b c d) v 4 := by
  funext j
  unfold adV
  by_cases h : j < 4
  · rw [if_pos h, if_pos h]; exact as4_e g a b c d j h
  · rw [if_neg h, if_neg h]
section MO
variable {G : xG} {ad : Nat → Nat} {σ σ' : xF} {n : Nat} {val : Nat → Nat → Int} {cl so : Nat → Nat} {de le wo : Nat} {S : Nat → Int}
theorem pMo.sort (h : pMo G ad σ n val cl so de le wo S) {sf : Nat → Int} (hs : σ 359 = eJ G 4 sf) (hs2 : ∀ c, c < 4 → sf c = (so c : Int)) {c s : Nat} (e : σ' = va_up σ 359 (eJ G 4 (va_up sf c (s : Int)))) : pMo G ad σ' n val cl (va_up so c s) de le wo S := by
  obtain ⟨a, -, ⟨vf, v1, v2⟩, cf, c1, c2⟩ := h
  refine ⟨by rw [e, va_up_ne _ _ (by decide)]; exact a, ⟨_, by rw [e, va_up_self], fun x hx => ?_⟩, ⟨vf, by rw [e, va_up_ne _ _ (by decide)]; exact v1, v2⟩, cf, by rw [e, va_up_ne _ _ (by decide)]; exact c1, c2⟩
  by_cases q : x = c
  · subst q; rw [va_up_self, va_up_self]
  · rw [va_up_ne _ _ q, va_up_ne _ _ q]; exact hs2 x hx
theorem pMo.row (h : pMo G ad σ n val cl so de le wo S) (hn : n < 24) {vf cf : Nat → Int} (v2 : ∀ r c, r < n → c < 4 → vf (4 * r + c) = val r c) (c2 : ∀ r, r < n → cf r = (cl r : Int)) {a b c d : Int} {k : Nat} {S' : Nat → Int}
    (e : ∀ i, i ≠ 358 → i ≠ 360 → i ≠ 361 → σ' i = σ i) (e0 : σ' 358 = moE ad (n + 1) de le wo S') (e1 : σ' 360 = eJ G 96 (va_up (va_up (va_up (va_up vf (4 * n) a) (4 * n + 1) b) (4 * n + 2) c) (4 * n + 3) d)) (e2 : σ' 361 = eJ G 24 (va_up cf n (k : Int))) : pMo G ad σ' (n + 1) (va_up val n (adV (a4 a b c d) (val n) 4)) (va_up cl n k) so de le wo S' := by
  obtain ⟨-, ⟨sf, s1, s2⟩, -, -⟩ := h
  refine ⟨e0, ⟨sf, (e 359 (by decide) (by decide) (by decide)).trans s1, s2⟩, ⟨_, e1, fun r x hr hx => ?_⟩, _, e2, fun r hr => ?_⟩
  · by_cases q : r = n
    · subst q
      rw [va_up_self]
      unfold adV
      rw [if_pos hx]
      match x, hx with
      | 0, _ => rw [va_up_ne _ _ (by omega), va_up_ne _ _ (by omega), va_up_ne _ _ (by omega)]; exact va_up_self _ _ _
      | 1, _ => rw [va_up_ne _ _ (by omega), va_up_ne _ _ (by omega)]; exact va_up_self _ _ _
      | 2, _ => rw [va_up_ne _ _ (by omega)]; exact va_up_self _ _ _
      | 3, _ => exact va_up_self _ _ _
    · rw [va_up_ne _ _ (by omega), va_up_ne _ _ (by omega), va_up_ne _ _ (by omega), va_up_ne _ _ (by omega), va_up_ne _ _ q]
      exact v2 r x (by omega) hx
  · by_cases q : r = n
    · subst q; rw [va_up_self, va_up_self]
    · rw [va_up_ne _ _ q, va_up_ne _ _ q]; exact c2 r (by omega)
theorem pMo.none (h : pMo G ad σ n val cl so de le wo S) {de' le' wo' : Nat} {S' : Nat → Int} {m : Nat} (hm : m ≤ n) (e : σ' = va_up σ 358 (moE ad m de' le' wo' S')) : pMo G ad σ' m val cl so de' le' wo' S' := by
  obtain ⟨-, ⟨sf, s1, s2⟩, ⟨vf, v1, v2⟩, cf, c1, c2⟩ := h
  exact ⟨by rw [e, va_up_self], ⟨sf, by rw [e, va_up_ne _ _ (by decide)]; exact s1, s2⟩, ⟨vf, by rw [e, va_up_ne _ _ (by decide)]; exact v1, fun r c hr hc => v2 r c (by omega) hc⟩, cf, by rw [e, va_up_ne _ _ (by decide)]; exact c1, fun r hr => c2 r (by omega)⟩
end MO
theorem gcd_st (x y : Nat) : Nat.gcd y (x % y) = Nat.gcd x y := by
  rw [Nat.gcd_comm x y, Nat.gcd_rec y x, Nat.gcd_comm]
