/-! THE STAGES: what holds from stage to stage -/
theorem stR_0 {F : Nat → Int} {s : Int} (h : stR F s = 0) : ¬ F 9 ≤ s ∧ ¬ F 8 ≤ s := by
  unfold stR at h
  refine ⟨fun q => ?_, fun q => ?_⟩
  · rw [if_pos q] at h; cases h
  · by_cases q2 : F 9 ≤ s
    · rw [if_pos q2] at h; cases h
    · rw [if_neg q2, if_pos q] at h; cases h
theorem stR_of {F : Nat → Int} {s : Int} (h : ¬ F 9 ≤ s ∧ ¬ F 8 ≤ s) : stR F s = 0 := by unfold stR; rw [if_neg h.1, if_neg h.2]
section ST
variable {ch : Nat → Option Nat} {s a b : Int} {sz : Nat} {U : Nat → Nat → Int}
theorem kCb_root (hd : ∀ x q, x < sz → ch x = some q → ∃ m, q = 76 + 141 * 0 + 3 * m ∧ x < m ∧ m + 1 < sz) : ∀ n, n ≤ sz → kCb ch s a b n U 0 9 = U 0 9
  | 0, _ => rfl
  | n + 1, hn => by
    have ih := kCb_root hd n (by omega)
    show kCb2 ch s n (kCb1 s a b n (kCb ch s a b n U)) 0 9 = _
    rw [kCb2_x n _ (fun m hm => by obtain ⟨m2, e, h1, -⟩ := hd n _ (by omega) hm; omega) (fun q hq => by obtain ⟨m2, e, -⟩ := hd n q (by omega) hq; exact ⟨m2, e⟩), kCb1_hi _ _ _ _ _ _ _ (by decide)]
    exact ih
theorem kCb_kid (hd : ∀ x q, x < sz → ch x = some q → ∃ m, q = 76 + 141 * 0 + 3 * m ∧ x < m ∧ m + 1 < sz) (hu : ∀ x y m m2, x < sz → y < sz → x ≠ y → ch x = some (76 + 141 * 0 + 3 * m) → ch y = some (76 + 141 * 0 + 3 * m2) → m + 1 < m2 ∨ m2 + 1 < m) {x m : Nat} (hx : x < sz) (hc : ch x = some (76 + 141 * 0 + 3 * m)) : ∀ n, n ≤ sz → (n ≤ x ∨ stR (kCb ch s a b n U x) (s + 1) = 0) → kCb ch s a b n U m 9 = U m 9 ∧ kCb ch s a b n U (m + 1) 9 = U (m + 1) 9
  | 0, _, _ => ⟨rfl, rfl⟩
  | n + 1, hn, h => by
    have hdn : ∀ q, ch n = some q → ∃ m, q = 76 + 141 * 0 + 3 * m := fun q hq => by obtain ⟨m2, e, -⟩ := hd n q (by omega) hq; exact ⟨m2, e⟩
    by_cases e : x = n
    · subst e
      have h : stR (kCb ch s a b (x + 1) U x) (s + 1) = 0 := by
        rcases h with q | q
        · omega
        · exact q
      have own : kCb ch s a b (x + 1) U x = kCb1 s a b x (kCb ch s a b x U) x := kCb2_x x _ (fun m2 hm => by obtain ⟨m3, e, h1, -⟩ := hd x _ hx hm; omega) hdn
      rw [own] at h
      obtain ⟨i1, i2⟩ := kCb_kid hd hu hx hc x (by omega) (Or.inl (Nat.le_refl x))
      show kCb2 ch s x (kCb1 s a b x (kCb ch s a b x U)) m 9 = _ ∧ kCb2 ch s x (kCb1 s a b x (kCb ch s a b x U)) (m + 1) 9 = _
      rw [kCb2_0 h, kCb1_hi _ _ _ _ _ _ _ (by decide), kCb1_hi _ _ _ _ _ _ _ (by decide)]
      exact ⟨i1, i2⟩
    · have far : ∀ m2, ch n = some (76 + 141 * 0 + 3 * m2) → m + 1 < m2 ∨ m2 + 1 < m := fun m2 hm => hu x n m m2 hx (by omega) e hc hm
      have h' : n ≤ x ∨ stR (kCb ch s a b n U x) (s + 1) = 0 := by
        rcases h with q | q
        · exact Or.inl (by omega)
        · by_cases q2 : n ≤ x
          · exact Or.inl q2
          · refine Or.inr ?_
            have own : kCb ch s a b (n + 1) U x = kCb ch s a b n U x := (kCb2_x n _ (fun m2 hm => by obtain ⟨m3, e3, h1, -⟩ := hd n _ (by omega) hm; omega) hdn).trans (kCb1_o _ e)
            rw [own] at q
            exact q
      obtain ⟨i1, i2⟩ := kCb_kid hd hu hx hc n (by omega) h'
      show kCb2 ch s n (kCb1 s a b n (kCb ch s a b n U)) m 9 = _ ∧ kCb2 ch s n (kCb1 s a b n (kCb ch s a b n U)) (m + 1) 9 = _
      rw [kCb2_x n _ (x := m) (fun m2 hm => by have := far m2 hm; omega) hdn, kCb2_x n _ (x := m + 1) (fun m2 hm => by have := far m2 hm; omega) hdn, kCb1_hi _ _ _ _ _ _ _ (by decide), kCb1_hi _ _ _ _ _ _ _ (by decide)]
      exact ⟨i1, i2⟩
end ST
section S2
variable {sz : Nat} {T0 : Nat → Nat → Int} {ch : Nat → Option Nat}
theorem sI_step (ht : trO sz T0 ch) {k : Nat} {T : Nat → Nat → Int} (h : sI sz T0 ch k T) (hk : k + 1 < 24) (a b : Int) : sI sz T0 ch (k + 1) (kCb ch (k : Int) a b sz (kSum ch (k : Int) sz sz T)) := by
  obtain ⟨-, hd, -, -, hu, -⟩ := ht
  obtain ⟨z1, z8, z9, zr, zk, zl⟩ := h
  have e8 : ∀ x, kSum ch (k : Int) sz sz T x 8 = T x 8 := fun x => kSum_hi _ _ _ _ _ _ (by decide) _
  have e9 : ∀ x, kSum ch (k : Int) sz sz T x 9 = T x 9 := fun x => kSum_hi _ _ _ _ _ _ (by decide) _
  have h89 := fun x => kCb_89 (a := a) (b := b) (s := (k : Int)) (U := kSum ch (k : Int) sz sz T) hd x sz (Nat.le_refl _)
  refine ⟨zEq_cb (zEq_sum z1 ch _ sz sz) ch _ a b sz, fun x hx => ?_, fun x hx => ?_, ?_, fun x m hx hc g9 g8 => ?_, fun x hx hc => ?_⟩
  · have := (h89 x).1
    rw [e8] at this
    have := z8 x hx
    omega
  · have := (h89 x).2
    rw [e9] at this
    have := z9 x hx
    omega
  · rw [kCb_root hd sz (Nat.le_refl _), e9]
    exact zr
  · have hst : stR (kCb ch (k : Int) a b sz (kSum ch (k : Int) sz sz T) x) ((k : Int) + 1) = 0 := stR_of ⟨by omega, by omega⟩
    obtain ⟨i1, i2⟩ := kCb_kid hd hu hx hc sz (Nat.le_refl _) (Or.inr hst)
    rw [i1, i2, e9, e9]
    obtain ⟨m', em, hm1, hm2⟩ := hd x _ hx hc
    have : m' = m := by omega
    subst this
    have a8 := (h89 x).1
    have a9 := (h89 x).2
    rw [e8] at a8
    rw [e9] at a9
    have o8 : ¬ T x 8 ≤ (k : Int) := by omega
    have o9 : ¬ T x 9 ≤ (k : Int) := by omega
    obtain ⟨k1, k2⟩ := zk x m' hx hc o9 o8
    have := z9 m' (by omega)
    have := z9 (m' + 1) hm2
    omega
  · have := (h89 x).1
    rw [e8] at this
    have := zl x hx hc
    omega
theorem yT_sI (ht : trO sz T0 ch) : ∀ k, k < 24 → sI sz T0 ch k (yT ch sz T0 k)
  | 0, _ => sI_0 ht
  | k + 1, hk => sI_step ht (yT_sI ht k (by omega)) hk _ _
theorem sumN_lt {f g : Nat → Nat} {k : Nat} : ∀ m, k < m → (∀ x, x < m → f x ≤ g x) → f k + 1 ≤ g k → sumN f m + 1 ≤ sumN g m
  | 0, h, _, _ => absurd h (Nat.not_lt_zero k)
  | m + 1, h, e, q => by
    show sumN f m + f m + 1 ≤ sumN g m + g m
    have em := e m (by omega)
    by_cases q2 : k = m
    · subst q2
      have : sumN f k ≤ sumN g k := by
        have : ∀ j, j ≤ k → sumN f j ≤ sumN g j := fun j => by
          induction j with
          | zero => intro _; exact Nat.le_refl 0
          | succ j ih =>
            intro hj
            have := ih (by omega)
            have := e j (by omega)
            show sumN f j + f j ≤ sumN g j + g j
            omega
        exact this k (Nat.le_refl k)
      omega
    · have := sumN_lt m (by omega) (fun x hx => e x (by omega)) q
      omega
/-- how many nodes are parted in a stage -/
def cN (sz : Nat) (T : Nat → Nat → Int) (k : Int) : Nat := sumN (fun x => if stR (T x) k = 0 then 1 else 0) sz
theorem cN_step (ht : trO sz T0 ch) {k : Nat} {T : Nat → Nat → Int} (h : sI sz T0 ch k T) (hk : k + 1 < 24) (h0 : stR (T 0) k = 0) : cN sz (kCb ch (k : Int) (kAl (kSum ch (k : Int) sz sz T) (k : Int) sz (1, 0, 1)).2.1 (kAl (kSum ch (k : Int) sz sz T) (k : Int) sz (1, 0, 1)).2.2 sz (kSum ch (k : Int) sz sz T)) ((k : Int) + 1) + 1 ≤ cN sz T k := by
  have hd := ht.2.1
  have e8 : ∀ x, kSum ch (k : Int) sz sz T x 8 = T x 8 := fun x => kSum_hi _ _ _ _ _ _ (by decide) _
  have e9 : ∀ x, kSum ch (k : Int) sz sz T x 9 = T x 9 := fun x => kSum_hi _ _ _ _ _ _ (by decide) _
  obtain ⟨A, hA⟩ : ∃ A, A = kAl (kSum ch (k : Int) sz sz T) (k : Int) sz (1, 0, 1) := ⟨_, rfl⟩
  rw [← hA]
  have hm := kAl_m (T := kSum ch (k : Int) sz sz T) (s := (k : Int)) (A0 := (1, 0, 1)) rfl sz
  rw [← hA] at hm
  have o0 := stR_0 h0
  rcases hm with ⟨-, -, q⟩ | ⟨-, x, hx, hxs, hx2⟩
  · exact absurd ⟨by rw [e9]; exact o0.1, by rw [e8]; exact o0.2⟩ (q 0 (by have := ht.1.1; omega))
  · obtain ⟨U, hU⟩ : ∃ U, U = kSum ch (k : Int) sz sz T := ⟨_, rfl⟩
    rw [← hU] at hx2 hxs e8 e9 ⊢
    have h89 := fun x => kCb_89 (a := A.2.1) (b := A.2.2) (s := (k : Int)) (U := U) hd x sz (Nat.le_refl _)
    refine sumN_lt sz hx (fun y hy => ?_) ?_
    · show (if stR (kCb ch (k : Int) A.2.1 A.2.2 sz U y) ((k : Int) + 1) = 0 then 1 else 0) ≤ (if stR (T y) k = 0 then 1 else 0)
      by_cases g : stR (kCb ch (k : Int) A.2.1 A.2.2 sz U y) ((k : Int) + 1) = 0
      · obtain ⟨g9, g8⟩ := stR_0 g
        have a8 := (h89 y).1
        have a9 := (h89 y).2
        rw [e8] at a8
        rw [e9] at a9
        rw [if_pos g, if_pos (stR_of ⟨by omega, by omega⟩)]
        exact Nat.le_refl 1
      · rw [if_neg g]; exact Nat.zero_le _
    · show (if stR (kCb ch (k : Int) A.2.1 A.2.2 sz U x) ((k : Int) + 1) = 0 then 1 else 0) + 1 ≤ (if stR (T x) k = 0 then 1 else 0)
      have hx0 : stR (T x) k = 0 := stR_of (by rw [e8, e9] at hxs; exact hxs)
      rw [if_pos hx0]
      by_cases g : stR (kCb ch (k : Int) A.2.1 A.2.2 sz U x) ((k : Int) + 1) = 0
      · exfalso
        obtain ⟨g9, g8⟩ := stR_0 g
        have fx := kCb_fix (s := (k : Int)) (a := A.2.1) (b := A.2.2) (U := U) hd sz x (Nat.le_refl _) hx
        have hi := fun j h8 h9 => kCb_hi ch (k : Int) A.2.1 A.2.2 U x j h8 h9 sz
        have cond : (¬ kCb ch (k : Int) A.2.1 A.2.2 sz U x 9 ≤ (k : Int) ∧ ¬ kCb ch (k : Int) A.2.1 A.2.2 sz U x 8 ≤ (k : Int)) ∧ (kCb ch (k : Int) A.2.1 A.2.2 sz U x 5 - kCb ch (k : Int) A.2.1 A.2.2 sz U x 11) * A.2.2 = A.2.1 * (kCb ch (k : Int) A.2.1 A.2.2 sz U x 10 - 1) := by
          refine ⟨⟨by omega, by omega⟩, ?_⟩
          rw [hi 5 (by decide) (by decide), hi 11 (by decide) (by decide), hi 10 (by decide) (by decide), hx2]
        have e : cb1 (k : Int) A.2.1 A.2.2 (kCb ch (k : Int) A.2.1 A.2.2 sz U x) = va_up (kCb ch (k : Int) A.2.1 A.2.2 sz U x) 8 ((k : Int) + 1) := if_pos cond
        rw [e] at fx
        have : va_up (kCb ch (k : Int) A.2.1 A.2.2 sz U x) 8 ((k : Int) + 1) 8 = kCb ch (k : Int) A.2.1 A.2.2 sz U x 8 := by rw [fx]
        rw [va_up_self] at this
        omega
      · rw [if_neg g]
        exact Nat.le_refl 1
theorem cN_0 (ht : trO sz T0 ch) : cN sz (kBg ch sz T0) ((0 : Nat) : Int) ≤ 23 := by
  have h1 : cN sz (kBg ch sz T0) ((0 : Nat) : Int) = sumN (fun x => if ch x = none then 0 else 1) sz := by
    refine sumN_congr sz (fun x hx => ?_)
    show (if stR (kBg ch sz T0 x) ((0 : Nat) : Int) = 0 then 1 else 0) = (if ch x = none then 0 else 1)
    obtain ⟨g8, g9⟩ := kBg_at (ch := ch) (T := T0) sz hx
    by_cases q : ch x = none
    · rw [if_pos q] at g8
      rw [if_pos q, if_neg (fun e => (stR_0 e).2 (by rw [g8]; decide))]
    · rw [if_neg q] at g8
      rw [if_neg q, if_pos (stR_of ⟨by rw [g9]; decide, by rw [g8]; decide⟩)]
  have := ht.2.2.2.2.2
  have := ht.1.2
  omega
theorem yT_cN (ht : trO sz T0 ch) : ∀ k : Nat, k < 24 → (∀ j : Nat, j < k → stR (yT ch sz T0 j 0) (j : Int) = 0) → cN sz (yT ch sz T0 k) (k : Int) + k ≤ 23
  | 0, _, _ => by have := cN_0 ht; show cN sz (kBg ch sz T0) ((0 : Nat) : Int) + 0 ≤ 23; omega
  | k + 1, hk, h => by
    have ih := yT_cN ht k (by omega) (fun j hj => h j (by omega))
    have st := cN_step ht (yT_sI ht k (by omega)) hk (h k (by omega))
    have e : cN sz (yT ch sz T0 (k + 1)) ((k + 1 : Nat) : Int) = cN sz (kCb ch (k : Int) (kAl (kSum ch (k : Int) sz sz (yT ch sz T0 k)) (k : Int) sz (1, 0, 1)).2.1 (kAl (kSum ch (k : Int) sz sz (yT ch sz T0 k)) (k : Int) sz (1, 0, 1)).2.2 sz (kSum ch (k : Int) sz sz (yT ch sz T0 k))) ((k : Int) + 1) := rfl
    rw [e]
    omega
/-- the number of stages -/
def isE (sz : Nat) (T0 : Nat → Nat → Int) (ch : Nat → Option Nat) (E : Nat) : Prop := 1 ≤ E ∧ E ≤ 24 ∧ (∀ j : Nat, j + 1 < E → stR (yT ch sz T0 j 0) (j : Int) = 0) ∧ ¬ stR (yT ch sz T0 (E - 1) 0) ((E - 1 : Nat) : Int) = 0
/-- while NODE 0 is parted there is a next stage -/
theorem isE_next (ht : trO sz T0 ch) {k : Nat} (hk : k < 24) (h : ∀ j : Nat, j < k → stR (yT ch sz T0 j 0) (j : Int) = 0) (h0 : stR (yT ch sz T0 k 0) (k : Int) = 0) : k + 1 < 24 := by
  have h1 := yT_cN ht k hk h
  have h2 : 1 ≤ cN sz (yT ch sz T0 k) (k : Int) := by
    have := sumN_ge (fun x => if stR (yT ch sz T0 k x) (k : Int) = 0 then 1 else 0) (k := 0) sz (by have := ht.1.1; omega)
    have e : (if stR (yT ch sz T0 k 0) (k : Int) = 0 then 1 else 0) = 1 := if_pos h0
    have this : (if stR (yT ch sz T0 k 0) (k : Int) = 0 then 1 else 0) ≤ cN sz (yT ch sz T0 k) (k : Int) := this
    omega
  omega
theorem isE_u {E E2 : Nat} (h : isE sz T0 ch E) (h2 : isE sz T0 ch E2) : E = E2 := by
  obtain ⟨a1, a2, a3, a4⟩ := h
  obtain ⟨b1, b2, b3, b4⟩ := h2
  rcases Nat.lt_trichotomy E E2 with q | q | q
  · exact absurd (b3 (E - 1) (by omega)) a4
  · exact q
  · exact absurd (a3 (E2 - 1) (by omega)) b4
theorem isE_ex (ht : trO sz T0 ch) : ∃ E, isE sz T0 ch E := by
  have key : ∀ d k, k + d = 23 → (∀ j : Nat, j < k → stR (yT ch sz T0 j 0) (j : Int) = 0) → ∃ E, isE sz T0 ch E := fun d => by
    induction d with
    | zero =>
      intro k hk h
      by_cases q : stR (yT ch sz T0 k 0) (k : Int) = 0
      · have := isE_next ht (by omega) h q; omega
      · exact ⟨k + 1, by omega, by omega, fun j hj => h j (by omega), q⟩
    | succ d ih =>
      intro k hk h
      by_cases q : stR (yT ch sz T0 k 0) (k : Int) = 0
      · exact ih (k + 1) (by omega) (fun j hj => by
          by_cases e : j = k
          · subst e; exact q
          · exact h j (by omega))
      · exact ⟨k + 1, by omega, by omega, fun j hj => h j (by omega), q⟩
  exact key 23 0 rfl (fun j h => absurd h (Nat.not_lt_zero j))
/-- what a node is in an earlier stage doesn't change -/
theorem yT_st (ht : trO sz T0 ch) (x : Nat) {j : Nat} : ∀ d, (yT ch sz T0 (j + d) x 8 ≤ (j : Int) ↔ yT ch sz T0 j x 8 ≤ (j : Int)) ∧ (yT ch sz T0 (j + d) x 9 ≤ (j : Int) ↔ yT ch sz T0 j x 9 ≤ (j : Int))
  | 0 => ⟨Iff.rfl, Iff.rfl⟩
  | d + 1 => by
    obtain ⟨i8, i9⟩ := yT_st ht x (j := j) d
    have h := kCb_89 (s := ((j + d : Nat) : Int)) (a := (kAl (kSum ch ((j + d : Nat) : Int) sz sz (yT ch sz T0 (j + d))) ((j + d : Nat) : Int) sz (1, 0, 1)).2.1) (b := (kAl (kSum ch ((j + d : Nat) : Int) sz sz (yT ch sz T0 (j + d))) ((j + d : Nat) : Int) sz (1, 0, 1)).2.2) (U := kSum ch ((j + d : Nat) : Int) sz sz (yT ch sz T0 (j + d))) ht.2.1 x sz (Nat.le_refl _)
    have e8 : kSum ch ((j + d : Nat) : Int) sz sz (yT ch sz T0 (j + d)) x 8 = yT ch sz T0 (j + d) x 8 := kSum_hi _ _ _ _ _ _ (by decide) _
    have e9 : kSum ch ((j + d : Nat) : Int) sz sz (yT ch sz T0 (j + d)) x 9 = yT ch sz T0 (j + d) x 9 := kSum_hi _ _ _ _ _ _ (by decide) _
    rw [e8, e9] at h
    obtain ⟨h8, h9⟩ := h
    have h8 : yT ch sz T0 (j + (d + 1)) x 8 = yT ch sz T0 (j + d) x 8 ∨ (yT ch sz T0 (j + (d + 1)) x 8 = ((j + d : Nat) : Int) + 1 ∧ ¬ yT ch sz T0 (j + d) x 8 ≤ ((j + d : Nat) : Int)) := h8
    have h9 : yT ch sz T0 (j + (d + 1)) x 9 = yT ch sz T0 (j + d) x 9 ∨ (yT ch sz T0 (j + (d + 1)) x 9 = ((j + d : Nat) : Int) + 1 ∧ ¬ yT ch sz T0 (j + d) x 9 ≤ ((j + d : Nat) : Int)) := h9
    omega
theorem yT_stR (ht : trO sz T0 ch) (x j d : Nat) : stR (yT ch sz T0 (j + d) x) (j : Int) = stR (yT ch sz T0 j x) (j : Int) := by
  obtain ⟨i8, i9⟩ := yT_st ht x (j := j) d
  unfold stR
  simp only [i8, i9]
end S2
