/-! STAGES: the pruning's cells; al, be: the alphas; lc, ws: leaves and wrong by stage -/
def pPru (G : xG) (ad : Nat → Nat) (σ : xF) (ps : Nat) (lc ws al be : Nat → Int) : Prop :=
  σ 10 = eO 4 [.int (iv ps), .ref (ad 20), .ref (ad 21), .ref (ad 22), .ref (ad 8), .ref (ad 23)] ∧
  σ 20 = eR G 3 24 (fun s => if s < 24 then some (ad (52 + s)) else none) ∧ σ 21 = eJ G 24 lc ∧ σ 22 = eJ G 24 ws ∧ (∃ x y : Int, pFra σ 23 x y) ∧ ∀ s, s < 24 → pFra σ (52 + s) (al s) (be s)
theorem pPru.up {G : xG} {ad : Nat → Nat} {σ σ' : xF} {ps : Nat} {lc ws al be : Nat → Int} (h : pPru G ad σ ps lc ws al be) (hs : ∀ i, i = 10 ∨ (20 ≤ i ∧ i ≤ 23) ∨ (52 ≤ i ∧ i ≤ 75) → σ' i = σ i) : pPru G ad σ' ps lc ws al be := by
  obtain ⟨a1, a2, a3, a4, ⟨x, y, a5⟩, a6⟩ := h
  exact ⟨(hs 10 (by omega)).trans a1, (hs 20 (by omega)).trans a2, (hs 21 (by omega)).trans a3, (hs 22 (by omega)).trans a4, ⟨x, y, (hs 23 (by omega)).trans a5⟩, fun s h => (hs _ (by omega)).trans (a6 s h)⟩
/-- a node's own cell changes, not its cut -/
theorem pTre.nod {G : xG} {ad : Nat → Nat} {σ σ' : xF} {t sz : Nat} {T : Nat → Nat → Int} {ch : Nat → Option Nat} (h : pTre G ad σ t sz T ch) (ht : t ≤ 1) {n : Nat} (hn : n < 47) {F' : Nat → Int} (hF : ∀ j, 12 ≤ j → F' j = T n j) (hs : σ' = va_up σ (76 + 141 * t + 3 * n) (nodE ad (76 + 141 * t + 3 * n) n F' (ch n))) : pTre G ad σ' t sz (va_up T n F') ch := by
  obtain ⟨r1, r2, r3⟩ := h
  have out : ∀ q, q ≠ 76 + 141 * t + 3 * n → σ' q = σ q := fun q hq => by rw [hs, va_up_ne _ _ hq]
  refine ⟨(out _ (by omega)).trans r1, (out _ (by omega)).trans r2, fun x hx => ?_⟩
  by_cases e : x = n
  · subst e
    rw [va_up_self]
    refine ⟨?_, ?_, ?_⟩
    · rw [hs, va_up_self]
    · rw [hF 12 (by decide), hF 13 (by decide), hF 14 (by decide)]
      exact (out _ (by omega)).trans (r3 x hx).2.1
    · rw [hF 15 (by decide), hF 16 (by decide)]
      exact (out _ (by omega)).trans (r3 x hx).2.2
  · rw [va_up_ne _ _ e]
    exact (r3 x hx).up (out _ (by omega)) (out _ (by omega)) (out _ (by omega))
/-- a node's leaves and wrong below, in a stage, by its children's -/
def fSum (T : Nat → Nat → Int) (ch : Nat → Option Nat) (s : Int) (n : Nat) : Nat → Int := match ch n with
  | none => va_up (va_up (T n) 10 1) 11 (T n 5)
  | some q => va_up (va_up (T n) 10 (if T n 8 ≤ s then 1 else T ((q - 76) / 3) 10 + T ((q - 76) / 3 + 1) 10)) 11 (if T n 8 ≤ s then T n 5 else T ((q - 76) / 3) 11 + T ((q - 76) / 3 + 1) 11)
/-- the nodes below sz are summed up, the j last ones -/
def kSum (ch : Nat → Option Nat) (s : Int) (sz : Nat) : Nat → (Nat → Nat → Int) → (Nat → Nat → Int)
  | 0, T => T
  | j + 1, T => va_up (kSum ch s sz j T) (sz - 1 - j) (fSum (kSum ch s sz j T) ch s (sz - 1 - j))
theorem fSum_hi (T : Nat → Nat → Int) (ch : Nat → Option Nat) (s : Int) (n : Nat) (j : Nat) (h : j < 10 ∨ 11 < j) : fSum T ch s n j = T n j := by
  unfold fSum
  cases ch n with
  | none => show va_up (va_up (T n) 10 1) 11 (T n 5) j = T n j; rw [va_up_ne _ _ (by omega), va_up_ne _ _ (by omega)]
  | some q =>
    show va_up (va_up (T n) 10 _) 11 _ j = T n j
    rw [va_up_ne _ _ (by omega), va_up_ne _ _ (by omega)]
theorem kSum_hi (ch : Nat → Option Nat) (s : Int) (sz : Nat) (T : Nat → Nat → Int) (x j : Nat) (h : j < 10 ∨ 11 < j) : ∀ k, kSum ch s sz k T x j = T x j
  | 0 => rfl
  | k + 1 => by
    show va_up (kSum ch s sz k T) (sz - 1 - k) (fSum (kSum ch s sz k T) ch s (sz - 1 - k)) x j = T x j
    by_cases e : x = sz - 1 - k
    · rw [e, va_up_self, fSum_hi _ _ _ _ _ h]
      exact kSum_hi ch s sz T (sz - 1 - k) j h k
    · rw [va_up_ne _ _ e]
      exact kSum_hi ch s sz T x j h k
theorem st_0 {a b s z : Int} (hv : z = (if a ≤ s then (2 : Int) else if b ≤ s then 1 else 0)) (h : z = 0) : ¬ a ≤ s ∧ ¬ b ≤ s := by
  by_cases g1 : a ≤ s
  · rw [if_pos g1] at hv; omega
  · by_cases g2 : b ≤ s
    · rw [if_neg g1, if_pos g2] at hv; omega
    · exact ⟨g1, g2⟩
theorem st_n {a b s z : Int} (hv : z = (if a ≤ s then (2 : Int) else if b ≤ s then 1 else 0)) (h : ¬ z = 0) : ¬ (¬ a ≤ s ∧ ¬ b ≤ s) := fun g => h (by rw [hv, if_neg g.1, if_neg g.2])
