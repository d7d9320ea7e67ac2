/-! CUTTING BACK in numbers -/
def fMin (F : Nat → Int) (s : Int) : Nat → Int := va_up F 9 (if s < F 9 then s else F 9)
def kLo (ch : Nat → Option Nat) (s : Int) (n : Nat) (T : Nat → Nat → Int) : Nat → Nat → Int := match ch n with
  | none => T
  | some q => va_up (va_up T ((q - 76) / 3) (fMin (T ((q - 76) / 3)) s)) ((q - 76) / 3 + 1) (fMin (T ((q - 76) / 3 + 1)) s)
def kCb1 (s a b : Int) (n : Nat) (T : Nat → Nat → Int) : Nat → Nat → Int := if (¬ T n 9 ≤ s ∧ ¬ T n 8 ≤ s) ∧ (T n 5 - T n 11) * b = a * (T n 10 - 1) then va_up T n (va_up (T n) 8 (s + 1)) else T
def kCb2 (ch : Nat → Option Nat) (s : Int) (n : Nat) (T : Nat → Nat → Int) : Nat → Nat → Int := if ¬ T n 9 ≤ s + 1 ∧ ¬ T n 8 ≤ s + 1 then T else kLo ch (s + 1) n T
def kCb (ch : Nat → Option Nat) (s a b : Int) : Nat → (Nat → Nat → Int) → (Nat → Nat → Int)
  | 0, T => T
  | n + 1, T => kCb2 ch s n (kCb1 s a b n (kCb ch s a b n T))
/-- where leaf and gone begin lies in 0 .. 24 -/
def iOk (T : Nat → Nat → Int) : Prop := ∀ x, x < 47 → (0 ≤ T x 8 ∧ T x 8 ≤ 24) ∧ (0 ≤ T x 9 ∧ T x 9 ≤ 24)
theorem iOk_ir {T : Nat → Nat → Int} (h : iOk T) {x : Nat} (hx : x < 47) : ir (T x 8) ∧ ir (T x 9) := by
  obtain ⟨⟨h1, h2⟩, h3, h4⟩ := h x hx
  unfold ir
  omega
theorem iOk_1 {T : Nat → Nat → Int} (h : iOk T) {n : Nat} {z : Int} (h0 : 0 ≤ z) (h1 : z ≤ 24) : iOk (va_up T n (va_up (T n) 8 z)) := fun x hx => by
  by_cases e : x = n
  · subst e
    rw [va_up_self]
    have := h x hx
    exact ⟨⟨h0, h1⟩, this.2⟩
  · rw [va_up_ne _ _ e]
    exact h x hx
theorem iOk_m {T : Nat → Nat → Int} (h : iOk T) {n : Nat} {s : Int} (h0 : 0 ≤ s) (h1 : s ≤ 24) : iOk (va_up T n (fMin (T n) s)) := fun x hx => by
  by_cases e : x = n
  · subst e
    rw [va_up_self]
    have := h x hx
    refine ⟨this.1, ?_⟩
    show 0 ≤ (if s < T x 9 then s else T x 9) ∧ (if s < T x 9 then s else T x 9) ≤ 24
    split
    · exact ⟨h0, h1⟩
    · exact this.2
  · rw [va_up_ne _ _ e]
    exact h x hx
theorem iOk_Lo {ch : Nat → Option Nat} {T : Nat → Nat → Int} (h : iOk T) {n : Nat} {s : Int} (h0 : 0 ≤ s) (h1 : s ≤ 24) : iOk (kLo ch s n T) := by
  unfold kLo
  cases ch n with
  | none => exact h
  | some q =>
    have g := iOk_m (n := (q - 76) / 3) h h0 h1
    have g2 := iOk_m (n := (q - 76) / 3 + 1) g h0 h1
    show iOk (va_up (va_up T ((q - 76) / 3) (fMin (T ((q - 76) / 3)) s)) ((q - 76) / 3 + 1) (fMin (T ((q - 76) / 3 + 1)) s))
    rw [va_up_ne _ _ (show (q - 76) / 3 + 1 ≠ (q - 76) / 3 by omega)] at g2
    exact g2
theorem kLo_hi (ch : Nat → Option Nat) (s : Int) (n : Nat) (T : Nat → Nat → Int) (x j : Nat) (hj : j ≠ 9) : kLo ch s n T x j = T x j := by
  unfold kLo
  cases ch n with
  | none => rfl
  | some q =>
    show va_up (va_up T ((q - 76) / 3) (fMin (T ((q - 76) / 3)) s)) ((q - 76) / 3 + 1) (fMin (T ((q - 76) / 3 + 1)) s) x j = T x j
    by_cases e : x = (q - 76) / 3 + 1
    · rw [e, va_up_self]; exact va_up_ne _ _ hj
    · rw [va_up_ne _ _ e]
      by_cases e2 : x = (q - 76) / 3
      · rw [e2, va_up_self]; exact va_up_ne _ _ hj
      · rw [va_up_ne _ _ e2]
theorem kCb1_hi (s a b : Int) (n : Nat) (T : Nat → Nat → Int) (x j : Nat) (hj : j ≠ 8) : kCb1 s a b n T x j = T x j := by
  unfold kCb1
  split
  · by_cases e : x = n
    · rw [e, va_up_self]; exact va_up_ne _ _ hj
    · rw [va_up_ne _ _ e]
  · rfl
theorem kCb_hi (ch : Nat → Option Nat) (s a b : Int) (T : Nat → Nat → Int) (x j : Nat) (h8 : j ≠ 8) (h9 : j ≠ 9) : ∀ k, kCb ch s a b k T x j = T x j
  | 0 => rfl
  | k + 1 => by
    have h := kCb_hi ch s a b T x j h8 h9 k
    show kCb2 ch s k (kCb1 s a b k (kCb ch s a b k T)) x j = T x j
    unfold kCb2
    split
    · rw [kCb1_hi _ _ _ _ _ _ _ h8, h]
    · rw [kLo_hi _ _ _ _ _ _ h9, kCb1_hi _ _ _ _ _ _ _ h8, h]
/-- the children are gone: the tree's picture behind it -/
theorem lose_ok {G : xG} {ad : Nat → Nat} {σ σ' : xF} {sz k : Nat} {T : Nat → Nat → Int} {ch : Nat → Option Nat} (hTr : pTre G ad σ 0 sz T ch) (hco : chOk 0 ch) (hk : k < 47) {mm : Nat} (hmm : ∀ q, ch k = some q → q = 76 + 3 * mm) {s : Int}
    (hp : σ' = (match ch k with | none => σ | some q => va_up (va_up σ q (nodE ad q mm (va_up (T mm) 9 (if s < T mm 9 then s else T mm 9)) (ch mm))) (q + 3) (nodE ad (q + 3) (mm + 1) (va_up (T (mm + 1)) 9 (if s < T (mm + 1) 9 then s else T (mm + 1) 9)) (ch (mm + 1))))) :
    pTre G ad σ' 0 sz (kLo ch s k T) ch ∧ ∀ i, i < 76 ∨ 217 ≤ i → σ' i = σ i := by
  unfold kLo
  cases hch : ch k with
  | none => rw [hch] at hp; rw [hp]; exact ⟨hTr, fun _ _ => rfl⟩
  | some q =>
    rw [hch] at hp
    obtain ⟨m, e1, e2, e3⟩ := hco k q hk hch
    have e4 := hmm q hch
    have e5 : m = mm := by omega
    subst e5
    have hp : σ' = va_up (va_up σ q (nodE ad q m (fMin (T m) s) (ch m))) (q + 3) (nodE ad (q + 3) (m + 1) (fMin (T (m + 1)) s) (ch (m + 1))) := hp
    show pTre G ad σ' 0 sz (va_up (va_up T ((q - 76) / 3) (fMin (T ((q - 76) / 3)) s)) ((q - 76) / 3 + 1) (fMin (T ((q - 76) / 3 + 1)) s)) ch ∧ _
    rw [show (q - 76) / 3 = m by omega]
    refine ⟨?_, fun i hi => by rw [hp, va_up_ne _ _ (by omega), va_up_ne _ _ (by omega)]⟩
    have g1 := hTr.nod (σ' := va_up σ q (nodE ad q m (fMin (T m) s) (ch m))) (n := m) (F' := fMin (T m) s) (by decide) (by omega) (fun j hj => va_up_ne _ _ (by omega)) (by rw [show 76 + 141 * 0 + 3 * m = q by omega])
    exact g1.nod (n := m + 1) (F' := fMin (T (m + 1)) s) (by decide) (by omega) (fun j hj => by rw [va_up_ne _ _ (by omega)]; exact va_up_ne _ _ (by omega)) (by rw [hp, show 76 + 141 * 0 + 3 * (m + 1) = q + 3 by omega])
theorem pPru.up3 {G : xG} {ad : Nat → Nat} {σ σv : xF} {ps : Nat} {lc ws al be : Nat → Int} (h : pPru G ad σ ps lc ws al be) (i1 : ∀ i, i ≠ 23 → i < 76 ∨ 217 ≤ i → σv i = σ i) (i2 : ∃ x y : Int, pFra σv 23 x y) : pPru G ad σv ps lc ws al be := by
  obtain ⟨a1, a2, a3, a4, a5, a6⟩ := h
  exact ⟨(i1 10 (by decide) (by omega)).trans a1, (i1 20 (by decide) (by omega)).trans a2, (i1 21 (by decide) (by omega)).trans a3, (i1 22 (by decide) (by omega)).trans a4, i2, fun s hs => (i1 _ (by omega) (by omega)).trans (a6 s hs)⟩
