/-! a node is parted: the tree's picture behind it -/
theorem pt_fin {G : xG} {ad : Nat → Nat} {σ σs σ' : xF} {t sz : Nat} {T : Nat → Nat → Int} {ch : Nat → Option Nat} (hTr : pTre G ad σ t sz T ch) {B B1 : lkB} (hI : lkI ad σ σs B1) (ht : t ≤ 1) {rC rK : Nat → Nat} {rL : Nat → Nat → Nat} {k b ro dp c num side : Nat} (hk : k < sz) (hz : sz + 2 ≤ 47) (hb : b = 76 + 141 * t + 3 * k) (h2 : T k 2 = (ro : Int)) (h3 : T k 3 = (dp : Int)) (e1 : B.2.1 = c) (e2 : B.2.2.1 = num) (e3 : B.2.2.2.1 = side)
    (hf : σ' = va_up (va_up (va_up (va_up (va_up (va_up σs (b + 1) (eO 0 [.ref (ad (b + 2)), .int (iv B.2.1), .int (iv B.2.2.1), .int (iv B.2.2.2.1)])) (b + 2) (eO 1 [.int (iv B.2.2.2.2.1), .int (iv B.2.2.2.2.2)])) (76 + 141 * t + 3 * sz) (nodE ad (76 + 141 * t + 3 * sz) sz (fBeg rC (T sz) (kLeft rK rL ro c num side) ((dp + 1 : Nat) : Int)) none)) (76 + 141 * t + 3 * (sz + 1)) (nodE ad (76 + 141 * t + 3 * (sz + 1)) (sz + 1) (fBeg rC (T (sz + 1)) (nd ro (kLeft rK rL ro c num side)) ((dp + 1 : Nat) : Int)) none)) b (nodE ad b k (T k) (some (76 + 141 * t + 3 * sz)))) (8 + t) (eO 7 [.int (iv ((sz + 2 : Nat) : Int)), .ref (ad 1), .ref (ad 2), .ref (ad 3), .ref (ad (18 + t)), .ref (ad (76 + 141 * t))])) :
    pTre G ad σ' t (kPut rC rK rL t (sz, T, ch) k B).1 (kPut rC rK rL t (sz, T, ch) k B).2.1 (kPut rC rK rL t (sz, T, ch) k B).2.2 ∧ gFr t σ σ' ∧ lkO ad σ' := by
  obtain ⟨r1, r2, r3⟩ := hTr
  have hro : (T k 2).toNat = ro := by rw [h2]; exact Int.toNat_natCast ro
  have hc : B.2.1.toNat = c := by rw [e1]; exact Int.toNat_natCast c
  have hn : B.2.2.1.toNat = num := by rw [e2]; exact Int.toNat_natCast num
  have hs : B.2.2.2.1.toNat = side := by rw [e3]; exact Int.toNat_natCast side
  have hd : T k 3 + 1 = ((dp + 1 : Nat) : Int) := by rw [h3]; rfl
  have out : ∀ q, q ≠ 8 + t → q ≠ b → q ≠ b + 1 → q ≠ b + 2 → q ≠ 76 + 141 * t + 3 * sz → q ≠ 76 + 141 * t + 3 * (sz + 1) → σ' q = σs q := fun q q1 q2 q3 q4 q5 q6 => by
    rw [hf, va_up_ne _ _ q1, va_up_ne _ _ q2, va_up_ne _ _ q6, va_up_ne _ _ q5, va_up_ne _ _ q4, va_up_ne _ _ q3]
  have outs : ∀ q, 8 ≤ q → q ≠ 8 + t → q ≠ b → q ≠ b + 1 → q ≠ b + 2 → q ≠ 76 + 141 * t + 3 * sz → q ≠ 76 + 141 * t + 3 * (sz + 1) → σ' q = σ q := fun q q0 q1 q2 q3 q4 q5 q6 => (out q q1 q2 q3 q4 q5 q6).trans (hI.1 q (by omega) (by omega) (by omega) (by omega))
  unfold kPut
  refine ⟨⟨?_, ?_, ?_⟩, ?_, ?_⟩
  · rw [hf, va_up_self]
  · exact (outs _ (by omega) (by omega) (by omega) (by omega) (by omega) (by omega) (by omega)).trans r2
  · intro n hn47
    show pNod ad σ' (76 + 141 * t + 3 * n) n (va_up (va_up (va_up T k (fCut (T k) B)) sz (fBeg rC (T sz) (kLeft rK rL (T k 2).toNat B.2.1.toNat B.2.2.1.toNat B.2.2.2.1.toNat) (T k 3 + 1))) (sz + 1) (fBeg rC (T (sz + 1)) (nd (T k 2).toNat (kLeft rK rL (T k 2).toNat B.2.1.toNat B.2.2.1.toNat B.2.2.2.1.toNat)) (T k 3 + 1)) n) (va_up (va_up (va_up ch k (some (76 + 141 * t + 3 * sz))) sz none) (sz + 1) none n)
    rw [hro, hc, hn, hs, hd]
    have hn0 := r3 n hn47
    by_cases n1 : n = sz + 1
    · subst n1
      rw [va_up_self, va_up_self]
      refine ⟨?_, ?_, ?_⟩
      · rw [hf, va_up_ne _ _ (by omega), va_up_ne _ _ (by omega), va_up_self]
      · exact (outs _ (by omega) (by omega) (by omega) (by omega) (by omega) (by omega) (by omega)).trans hn0.2.1
      · exact (outs _ (by omega) (by omega) (by omega) (by omega) (by omega) (by omega) (by omega)).trans hn0.2.2
    · rw [va_up_ne _ _ n1, va_up_ne _ _ n1]
      by_cases n2 : n = sz
      · subst n2
        rw [va_up_self, va_up_self]
        refine ⟨?_, ?_, ?_⟩
        · rw [hf, va_up_ne _ _ (by omega), va_up_ne _ _ (by omega), va_up_ne _ _ (by omega), va_up_self]
        · exact (outs _ (by omega) (by omega) (by omega) (by omega) (by omega) (by omega) (by omega)).trans hn0.2.1
        · exact (outs _ (by omega) (by omega) (by omega) (by omega) (by omega) (by omega) (by omega)).trans hn0.2.2
      · rw [va_up_ne _ _ n2, va_up_ne _ _ n2]
        by_cases n3 : n = k
        · subst n3
          rw [va_up_self, va_up_self, ← hb]
          refine ⟨?_, ?_, ?_⟩
          · rw [hf, va_up_ne _ _ (by omega), va_up_self]
            rfl
          · unfold pCut
            rw [hf, va_up_ne _ _ (by omega), va_up_ne _ _ (by omega), va_up_ne _ _ (by omega), va_up_ne _ _ (by omega), va_up_ne _ _ (by omega), va_up_self]
            rfl
          · unfold pFra
            rw [hf, va_up_ne _ _ (by omega), va_up_ne _ _ (by omega), va_up_ne _ _ (by omega), va_up_ne _ _ (by omega), va_up_self]
            rfl
        · rw [va_up_ne _ _ n3, va_up_ne _ _ n3]
          exact hn0.up (outs _ (by omega) (by omega) (by omega) (by omega) (by omega) (by omega) (by omega)) (outs _ (by omega) (by omega) (by omega) (by omega) (by omega) (by omega) (by omega)) (outs _ (by omega) (by omega) (by omega) (by omega) (by omega) (by omega) (by omega))
  · intro q q4 q5 q6 q7 q8 qr
    exact (out q q8 (by omega) (by omega) (by omega) (by omega) (by omega)).trans (hI.1 q q4 q5 q6 q7)
  · exact lkO_up (lkI_O hI) (out 4 (by omega) (by omega) (by omega) (by omega) (by omega) (by omega)) (out 5 (by omega) (by omega) (by omega) (by omega) (by omega) (by omega)) (out 6 (by omega) (by omega) (by omega) (by omega) (by omega) (by omega)) (out 7 (by omega) (by omega) (by omega) (by omega) (by omega) (by omega))
/-- a survey alone leaves the tree -/
theorem pt_sur {G : xG} {ad : Nat → Nat} {σ σs : xF} {t sz : Nat} {T : Nat → Nat → Int} {ch : Nat → Option Nat} (hTr : pTre G ad σ t sz T ch) {B : lkB} (hI : lkI ad σ σs B) : pTre G ad σs t sz T ch := by
  obtain ⟨r1, r2, r3⟩ := hTr
  exact ⟨(hI.1 _ (by omega) (by omega) (by omega) (by omega)).trans r1, (hI.1 _ (by omega) (by omega) (by omega) (by omega)).trans r2, fun n hn => (r3 n hn).up (hI.1 _ (by omega) (by omega) (by omega) (by omega)) (hI.1 _ (by omega) (by omega) (by omega) (by omega)) (hI.1 _ (by omega) (by omega) (by omega) (by omega))⟩
theorem gOk_put {rC rK : Nat → Nat} {rL : Nat → Nat → Nat} {t : Nat} {s : gS} {k : Nat} {B : lkB} (h : gOk s) (hk : k < s.1) (hz : s.1 + 2 ≤ 47) (hd : s.2.1 k 3 < 5) : gOk (kPut rC rK rL t s k B) := by
  obtain ⟨h1, h2, h3⟩ := h
  refine ⟨by show 1 ≤ s.1 + 2; omega, hz, fun n hn => ?_⟩
  obtain ⟨⟨a1, a2⟩, ⟨a3, a4⟩, -⟩ := h3 k hk
  have hR : (s.2.1 k 2).toNat < 16777216 := by omega
  have hR2 := kLeft_lt (rK := rK) (rL := rL) (c := B.2.1.toNat) (num := B.2.2.1.toNat) (side := B.2.2.2.1.toNat) hR
  have hR3 := nd_le (s.2.1 k 2).toNat (kLeft rK rL (s.2.1 k 2).toNat B.2.1.toNat B.2.2.1.toNat B.2.2.2.1.toNat)
  have hn2 : n < s.1 + 2 := hn
  show gON (va_up (va_up (va_up s.2.1 k (fCut (s.2.1 k) B)) s.1 (fBeg rC (s.2.1 s.1) (kLeft rK rL (s.2.1 k 2).toNat B.2.1.toNat B.2.2.1.toNat B.2.2.2.1.toNat) (s.2.1 k 3 + 1))) (s.1 + 1) (fBeg rC (s.2.1 (s.1 + 1)) (nd (s.2.1 k 2).toNat (kLeft rK rL (s.2.1 k 2).toNat B.2.1.toNat B.2.2.1.toNat B.2.2.2.1.toNat)) (s.2.1 k 3 + 1)) n)
  have beg : ∀ (F : Nat → Int) (r : Nat), r < 16777216 → gON (fBeg rC F r (s.2.1 k 3 + 1)) := fun F r hr => by
    obtain ⟨f1, f2, f3⟩ := fBeg_5 rC F r (s.2.1 k 3 + 1)
    unfold gON
    rw [f1, f2]
    exact ⟨by omega, by omega, f3⟩
  by_cases n1 : n = s.1 + 1
  · subst n1
    rw [va_up_self]
    exact beg _ _ (by omega)
  · rw [va_up_ne _ _ n1]
    by_cases n2 : n = s.1
    · subst n2
      rw [va_up_self]
      exact beg _ _ hR2
    · rw [va_up_ne _ _ n2]
      by_cases n3 : n = k
      · subst n3
        rw [va_up_self]
        exact h3 n (by omega)
      · rw [va_up_ne _ _ n3]
        exact h3 n (by omega)
