/-! ALL STAGES in numbers: p (NODE 0 is parted), how many, the nodes' numbers, leaves, wrong, alphas -/
def kBg (ch : Nat → Option Nat) : Nat → (Nat → Nat → Int) → (Nat → Nat → Int)
  | 0, T => T
  | n + 1, T => va_up (kBg ch n T) n (va_up (va_up (kBg ch n T n) 8 (if ch n = none then 0 else 24)) 9 24)
abbrev zS : Type := Int × Nat × (Nat → Nat → Int) × (Nat → Int) × (Nat → Int) × (Nat → Int) × (Nat → Int)
def zPar (s : Nat) (T : Nat → Nat → Int) : Int := pI (¬ T 0 9 ≤ (s : Int) ∧ ¬ T 0 8 ≤ (s : Int))
def zStep (ch : Nat → Option Nat) (sz s : Nat) (Z : zS) : zS :=
  if zPar s Z.2.2.1 = 1 ∧ s + 1 < 24 then
    (zPar s Z.2.2.1, s + 1,
     kCb ch s (kAl (kSum ch s sz sz Z.2.2.1) s sz (1, Z.2.2.2.2.2.1 (s + 1), Z.2.2.2.2.2.2 (s + 1))).2.1 (kAl (kSum ch s sz sz Z.2.2.1) s sz (1, Z.2.2.2.2.2.1 (s + 1), Z.2.2.2.2.2.2 (s + 1))).2.2 sz (kSum ch s sz sz Z.2.2.1),
     va_up Z.2.2.2.1 s (kSum ch s sz sz Z.2.2.1 0 10), va_up Z.2.2.2.2.1 s (kSum ch s sz sz Z.2.2.1 0 11),
     va_up Z.2.2.2.2.2.1 (s + 1) (kAl (kSum ch s sz sz Z.2.2.1) s sz (1, Z.2.2.2.2.2.1 (s + 1), Z.2.2.2.2.2.2 (s + 1))).2.1, va_up Z.2.2.2.2.2.2 (s + 1) (kAl (kSum ch s sz sz Z.2.2.1) s sz (1, Z.2.2.2.2.2.1 (s + 1), Z.2.2.2.2.2.2 (s + 1))).2.2)
  else (zPar s Z.2.2.1, s + 1, kSum ch s sz sz Z.2.2.1, va_up Z.2.2.2.1 s (kSum ch s sz sz Z.2.2.1 0 10), va_up Z.2.2.2.2.1 s (kSum ch s sz sz Z.2.2.1 0 11), Z.2.2.2.2.2)
def kStg (ch : Nat → Option Nat) (sz : Nat) (Z0 : zS) : Nat → zS
  | 0 => Z0
  | s + 1 => if (kStg ch sz Z0 s).1 = 0 then kStg ch sz Z0 s else zStep ch sz s (kStg ch sz Z0 s)
theorem kStg_stop {ch : Nat → Option Nat} {sz : Nat} {Z0 : zS} {k : Nat} (h : (kStg ch sz Z0 k).1 = 0) : ∀ j, kStg ch sz Z0 (k + j) = kStg ch sz Z0 k
  | 0 => rfl
  | j + 1 => by
    have h1 := kStg_stop h j
    show (if (kStg ch sz Z0 (k + j)).1 = 0 then _ else _) = _
    rw [h1, if_pos h]
    exact h1
/-- outside the pruning's cells and tree 0's nodes nothing changes -/
def zFr (σ σ' : xF) : Prop := ∀ i, i ≠ 10 → (i < 20 ∨ 24 ≤ i) → (i < 52 ∨ 217 ≤ i) → σ' i = σ i
/-- but for leaf, gone and sums the nodes' numbers stay -/
def zEq (T T' : Nat → Nat → Int) : Prop := ∀ x j, j ≠ 8 → j ≠ 9 → j ≠ 10 → j ≠ 11 → T' x j = T x j
theorem zEq_sum {T T' : Nat → Nat → Int} (h : zEq T T') (ch : Nat → Option Nat) (s : Int) (sz k : Nat) : zEq T (kSum ch s sz k T') := fun x j h8 h9 h10 h11 => (kSum_hi ch s sz T' x j (by omega) k).trans (h x j h8 h9 h10 h11)
theorem zEq_cb {T T' : Nat → Nat → Int} (h : zEq T T') (ch : Nat → Option Nat) (s a b : Int) (k : Nat) : zEq T (kCb ch s a b k T') := fun x j h8 h9 h10 h11 => (kCb_hi ch s a b T' x j h8 h9 k).trans (h x j h8 h9 h10 h11)
theorem iOk_sum {T : Nat → Nat → Int} (h : iOk T) (ch : Nat → Option Nat) (s : Int) (sz k : Nat) : iOk (kSum ch s sz k T) := fun x hx => by
  rw [kSum_hi _ _ _ _ _ _ (by decide), kSum_hi _ _ _ _ _ _ (by decide)]
  exact h x hx
theorem iOk_bg {T : Nat → Nat → Int} (h : iOk T) (ch : Nat → Option Nat) : ∀ k, iOk (kBg ch k T)
  | 0 => h
  | k + 1 => fun x hx => by
    show (0 ≤ va_up (kBg ch k T) k _ x 8 ∧ va_up (kBg ch k T) k _ x 8 ≤ 24) ∧ (0 ≤ va_up (kBg ch k T) k _ x 9 ∧ va_up (kBg ch k T) k _ x 9 ≤ 24)
    by_cases e : x = k
    · subst e
      rw [va_up_self]
      refine ⟨?_, (show 0 ≤ (24 : Int) ∧ (24 : Int) ≤ 24 by decide)⟩
      show 0 ≤ (if ch x = none then (0 : Int) else 24) ∧ (if ch x = none then (0 : Int) else 24) ≤ 24
      split <;> decide
    · rw [va_up_ne _ _ e]
      exact iOk_bg h ch k x hx
theorem zEq_bg (T : Nat → Nat → Int) (ch : Nat → Option Nat) : ∀ k, zEq T (kBg ch k T)
  | 0 => fun _ _ _ _ _ _ => rfl
  | k + 1 => fun x j h8 h9 h10 h11 => by
    show va_up (kBg ch k T) k _ x j = T x j
    by_cases e : x = k
    · subst e
      rw [va_up_self, va_up_ne _ _ h9, va_up_ne _ _ h8]
      exact zEq_bg T ch x x j h8 h9 h10 h11
    · rw [va_up_ne _ _ e]
      exact zEq_bg T ch k x j h8 h9 h10 h11
theorem al_up {al be : Nat → Int} (h : ∀ s, s < 24 → ir (al s) ∧ ir (be s)) {k : Nat} {a b : Int} (ra : ir a) (rb : ir b) : ∀ s, s < 24 → ir (va_up al k a s) ∧ ir (va_up be k b s) := fun s hs => by
  by_cases e : s = k
  · subst e
    rw [va_up_self, va_up_self]
    exact ⟨ra, rb⟩
  · rw [va_up_ne _ _ e, va_up_ne _ _ e]
    exact h s hs
