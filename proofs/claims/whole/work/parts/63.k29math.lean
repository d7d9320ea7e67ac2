/-! THE REFERENCE'S TREE: its arrays against a state of growing -/
def adQ (Q : Nat → Nat → Int) (sz : Nat) (set dep : Int) : Nat → Nat → Int := va_up (va_up (va_up Q 362 (va_up (Q 362) sz set)) 363 (va_up (Q 363) sz dep)) 367 (va_up (Q 367) sz (-1))
theorem adQ_2 (Q : Nat → Nat → Int) (sz : Nat) (set dep : Int) : adQ Q sz set dep 362 = va_up (Q 362) sz set := by unfold adQ; rw [va_up_ne _ _ (by decide), va_up_ne _ _ (by decide), va_up_self]
theorem adQ_3 (Q : Nat → Nat → Int) (sz : Nat) (set dep : Int) : adQ Q sz set dep 363 = va_up (Q 363) sz dep := by unfold adQ; rw [va_up_ne _ _ (by decide), va_up_self]
theorem adQ_7 (Q : Nat → Nat → Int) (sz : Nat) (set dep : Int) : adQ Q sz set dep 367 = va_up (Q 367) sz (-1) := by unfold adQ; rw [va_up_self]
theorem adQ_o (Q : Nat → Nat → Int) (sz : Nat) (set dep : Int) {q : Nat} (h2 : q ≠ 362) (h3 : q ≠ 363) (h7 : q ≠ 367) : adQ Q sz set dep q = Q q := by unfold adQ; rw [va_up_ne _ _ h7, va_up_ne _ _ h3, va_up_ne _ _ h2]
def moC (Q : Nat → Nat → Int) (s : gS) (x : Nat) : Prop := (s.2.2 x = none ∧ Q 367 x = -1) ∨ ∃ m : Nat, s.2.2 x = some (76 + 141 * 0 + 3 * m) ∧ Q 367 x = (m : Int) ∧ Q 368 x = ((m + 1 : Nat) : Int) ∧ Q 364 x = s.2.1 x 12 ∧ Q 365 x = s.2.1 x 13 ∧ Q 366 x = s.2.1 x 14 ∧ Q 369 x = s.2.1 x 15 ∧ Q 370 x = s.2.1 x 16
def moG (Q : Nat → Nat → Int) (s : gS) : Prop := ∀ x, x < s.1 → Q 362 x = s.2.1 x 2 ∧ Q 363 x = s.2.1 x 3 ∧ moC Q s x
theorem moG_start (rC : Nat → Nat) (Q : Nat → Nat → Int) (T0 : Nat → Nat → Int) (ch0 : Nat → Option Nat) (rows : Nat) : moG (adQ Q 0 (rows : Int) 0) (gStart rC T0 ch0 rows) := fun x hx => by
  have hx : x < 1 := hx
  have e : x = 0 := by omega
  subst e
  rw [adQ_2, adQ_3, va_up_self, va_up_self]
  have e0 : (gStart rC T0 ch0 rows).2.1 0 = fBeg rC (T0 0) rows 0 := va_up_self T0 0 _
  refine ⟨by rw [e0]; rfl, by rw [e0]; rfl, Or.inl ⟨va_up_self ch0 0 none, by rw [adQ_7, va_up_self]⟩⟩
/-- a node is parted -/
theorem moG_put {rC rK : Nat → Nat} {rL : Nat → Nat → Nat} {Q : Nat → Nat → Int} {s : gS} (h : moG Q s) {k : Nat} (hk : k < s.1) {f c num side : Nat} {ab be : Int} {ro dp : Nat} (h2 : s.2.1 k 2 = (ro : Int)) (h3 : s.2.1 k 3 = (dp : Int))
    {Q1 : Nat → Nat → Int} (q2 : Q1 362 = Q 362) (q3 : Q1 363 = Q 363) (q4 : Q1 364 = va_up (Q 364) k (c : Int)) (q5 : Q1 365 = va_up (Q 365) k (num : Int)) (q6 : Q1 366 = va_up (Q 366) k (side : Int)) (q7 : Q1 367 = va_up (Q 367) k (s.1 : Int)) (q8 : Q1 368 = va_up (Q 368) k ((s.1 + 1 : Nat) : Int)) (q9 : Q1 369 = va_up (Q 369) k ab) (q0 : Q1 370 = va_up (Q 370) k be) :
    moG (adQ (adQ Q1 s.1 ((kLeft rK rL ro c num side : Nat) : Int) ((dp + 1 : Nat) : Int)) (s.1 + 1) ((nd ro (kLeft rK rL ro c num side) : Nat) : Int) ((dp + 1 : Nat) : Int)) (kPut rC rK rL 0 s k (f, (c : Int), (num : Int), (side : Int), ab, be)) := by
  obtain ⟨sz, T, ch⟩ := s
  have hk : k < sz := hk
  have h2 : T k 2 = (ro : Int) := h2
  have h3 : T k 3 = (dp : Int) := h3
  have q7 : Q1 367 = va_up (Q 367) k (sz : Int) := q7
  have q8 : Q1 368 = va_up (Q 368) k ((sz + 1 : Nat) : Int) := q8
  obtain ⟨lf, hlf⟩ : ∃ lf, lf = kLeft rK rL ro c num side := ⟨_, rfl⟩
  obtain ⟨Bc, hBc⟩ : ∃ Bc : lkB, Bc = (f, (c : Int), (num : Int), (side : Int), ab, be) := ⟨_, rfl⟩
  have hput : kPut rC rK rL 0 (sz, T, ch) k (f, (c : Int), (num : Int), (side : Int), ab, be) = (sz + 2, va_up (va_up (va_up T k (fCut (T k) Bc)) sz (fBeg rC (T sz) lf ((dp + 1 : Nat) : Int))) (sz + 1) (fBeg rC (T (sz + 1)) (nd ro lf) ((dp + 1 : Nat) : Int)), va_up (va_up (va_up ch k (some (76 + 141 * 0 + 3 * sz))) sz none) (sz + 1) none) := by
    rw [hBc, hlf]
    unfold kPut
    simp only [Int.toNat_natCast, h2, h3]
    rfl
  rw [← hlf]
  show moG (adQ (adQ Q1 sz ((lf : Nat) : Int) ((dp + 1 : Nat) : Int)) (sz + 1) ((nd ro lf : Nat) : Int) ((dp + 1 : Nat) : Int)) (kPut rC rK rL 0 (sz, T, ch) k (f, (c : Int), (num : Int), (side : Int), ab, be))
  rw [hput]
  intro x hx
  have hx : x < sz + 2 := hx
  have E2 : adQ (adQ Q1 sz ((lf : Nat) : Int) ((dp + 1 : Nat) : Int)) (sz + 1) ((nd ro lf : Nat) : Int) ((dp + 1 : Nat) : Int) 362 = va_up (va_up (Q 362) sz ((lf : Nat) : Int)) (sz + 1) ((nd ro lf : Nat) : Int) := by rw [adQ_2, adQ_2, q2]
  have E3 : adQ (adQ Q1 sz ((lf : Nat) : Int) ((dp + 1 : Nat) : Int)) (sz + 1) ((nd ro lf : Nat) : Int) ((dp + 1 : Nat) : Int) 363 = va_up (va_up (Q 363) sz ((dp + 1 : Nat) : Int)) (sz + 1) ((dp + 1 : Nat) : Int) := by rw [adQ_3, adQ_3, q3]
  have E7 : adQ (adQ Q1 sz ((lf : Nat) : Int) ((dp + 1 : Nat) : Int)) (sz + 1) ((nd ro lf : Nat) : Int) ((dp + 1 : Nat) : Int) 367 = va_up (va_up (va_up (Q 367) k (sz : Int)) sz (-1)) (sz + 1) (-1) := by rw [adQ_7, adQ_7, q7]
  have Eo : ∀ q, q ≠ 362 → q ≠ 363 → q ≠ 367 → adQ (adQ Q1 sz ((lf : Nat) : Int) ((dp + 1 : Nat) : Int)) (sz + 1) ((nd ro lf : Nat) : Int) ((dp + 1 : Nat) : Int) q = Q1 q := fun q a b d => by rw [adQ_o _ _ _ _ a b d, adQ_o _ _ _ _ a b d]
  unfold moC
  rw [E2, E3, E7, Eo 368 (by decide) (by decide) (by decide), Eo 364 (by decide) (by decide) (by decide), Eo 365 (by decide) (by decide) (by decide), Eo 366 (by decide) (by decide) (by decide), Eo 369 (by decide) (by decide) (by decide), Eo 370 (by decide) (by decide) (by decide), q4, q5, q6, q8, q9, q0]
  by_cases n1 : x = sz + 1
  · subst n1
    refine ⟨?_, ?_, Or.inl ⟨va_up_self _ _ _, va_up_self _ _ _⟩⟩
    · show _ = va_up (va_up (va_up T k (fCut (T k) Bc)) sz (fBeg rC (T sz) lf ((dp + 1 : Nat) : Int))) (sz + 1) (fBeg rC (T (sz + 1)) (nd ro lf) ((dp + 1 : Nat) : Int)) (sz + 1) 2
      rw [va_up_self, va_up_self]; rfl
    · show _ = va_up (va_up (va_up T k (fCut (T k) Bc)) sz (fBeg rC (T sz) lf ((dp + 1 : Nat) : Int))) (sz + 1) (fBeg rC (T (sz + 1)) (nd ro lf) ((dp + 1 : Nat) : Int)) (sz + 1) 3
      rw [va_up_self, va_up_self]; rfl
  · by_cases n2 : x = sz
    · subst n2
      refine ⟨?_, ?_, Or.inl ⟨?_, ?_⟩⟩
      · show _ = va_up (va_up (va_up T k (fCut (T k) Bc)) x (fBeg rC (T x) lf ((dp + 1 : Nat) : Int))) (x + 1) (fBeg rC (T (x + 1)) (nd ro lf) ((dp + 1 : Nat) : Int)) x 2
        rw [va_up_ne _ _ n1, va_up_self, va_up_ne _ _ n1, va_up_self]; rfl
      · show _ = va_up (va_up (va_up T k (fCut (T k) Bc)) x (fBeg rC (T x) lf ((dp + 1 : Nat) : Int))) (x + 1) (fBeg rC (T (x + 1)) (nd ro lf) ((dp + 1 : Nat) : Int)) x 3
        rw [va_up_ne _ _ n1, va_up_self, va_up_ne _ _ n1, va_up_self]; rfl
      · show va_up (va_up (va_up ch k (some (76 + 141 * 0 + 3 * x))) x none) (x + 1) none x = none
        rw [va_up_ne _ _ n1, va_up_self]
      · rw [va_up_ne _ _ n1, va_up_self]
    · have hx2 : x < sz := by omega
      obtain ⟨g1, g2, g3⟩ := h x hx2
      have g1 : Q 362 x = T x 2 := g1
      have g2 : Q 363 x = T x 3 := g2
      have eT : ∀ j, va_up (va_up (va_up T k (fCut (T k) Bc)) sz (fBeg rC (T sz) lf ((dp + 1 : Nat) : Int))) (sz + 1) (fBeg rC (T (sz + 1)) (nd ro lf) ((dp + 1 : Nat) : Int)) x j = va_up T k (fCut (T k) Bc) x j := fun j => by rw [va_up_ne _ _ n1, va_up_ne _ _ n2]
      show va_up (va_up (Q 362) sz ((lf : Nat) : Int)) (sz + 1) ((nd ro lf : Nat) : Int) x = va_up (va_up (va_up T k (fCut (T k) Bc)) sz (fBeg rC (T sz) lf ((dp + 1 : Nat) : Int))) (sz + 1) (fBeg rC (T (sz + 1)) (nd ro lf) ((dp + 1 : Nat) : Int)) x 2 ∧ va_up (va_up (Q 363) sz ((dp + 1 : Nat) : Int)) (sz + 1) ((dp + 1 : Nat) : Int) x = va_up (va_up (va_up T k (fCut (T k) Bc)) sz (fBeg rC (T sz) lf ((dp + 1 : Nat) : Int))) (sz + 1) (fBeg rC (T (sz + 1)) (nd ro lf) ((dp + 1 : Nat) : Int)) x 3 ∧ ((va_up (va_up (va_up ch k (some (76 + 141 * 0 + 3 * sz))) sz none) (sz + 1) none x = none ∧ va_up (va_up (va_up (Q 367) k (sz : Int)) sz (-1)) (sz + 1) (-1) x = -1) ∨ ∃ m : Nat, va_up (va_up (va_up ch k (some (76 + 141 * 0 + 3 * sz))) sz none) (sz + 1) none x = some (76 + 141 * 0 + 3 * m) ∧ va_up (va_up (va_up (Q 367) k (sz : Int)) sz (-1)) (sz + 1) (-1) x = (m : Int) ∧ va_up (Q 368) k ((sz + 1 : Nat) : Int) x = ((m + 1 : Nat) : Int) ∧ va_up (Q 364) k (c : Int) x = va_up (va_up (va_up T k (fCut (T k) Bc)) sz (fBeg rC (T sz) lf ((dp + 1 : Nat) : Int))) (sz + 1) (fBeg rC (T (sz + 1)) (nd ro lf) ((dp + 1 : Nat) : Int)) x 12 ∧ va_up (Q 365) k (num : Int) x = va_up (va_up (va_up T k (fCut (T k) Bc)) sz (fBeg rC (T sz) lf ((dp + 1 : Nat) : Int))) (sz + 1) (fBeg rC (T (sz + 1)) (nd ro lf) ((dp + 1 : Nat) : Int)) x 13 ∧ va_up (Q 366) k (side : Int) x = va_up (va_up (va_up T k (fCut (T k) Bc)) sz (fBeg rC (T sz) lf ((dp + 1 : Nat) : Int))) (sz + 1) (fBeg rC (T (sz + 1)) (nd ro lf) ((dp + 1 : Nat) : Int)) x 14 ∧ va_up (Q 369) k ab x = va_up (va_up (va_up T k (fCut (T k) Bc)) sz (fBeg rC (T sz) lf ((dp + 1 : Nat) : Int))) (sz + 1) (fBeg rC (T (sz + 1)) (nd ro lf) ((dp + 1 : Nat) : Int)) x 15 ∧ va_up (Q 370) k be x = va_up (va_up (va_up T k (fCut (T k) Bc)) sz (fBeg rC (T sz) lf ((dp + 1 : Nat) : Int))) (sz + 1) (fBeg rC (T (sz + 1)) (nd ro lf) ((dp + 1 : Nat) : Int)) x 16)
      rw [eT, eT, eT, eT, eT, eT, eT, va_up_ne _ _ n1, va_up_ne _ _ n2, va_up_ne _ _ n1, va_up_ne _ _ n2, va_up_ne _ _ n1, va_up_ne _ _ n2, va_up_ne _ _ n1, va_up_ne _ _ n2]
      by_cases n3 : x = k
      · subst n3
        rw [va_up_self, va_up_self, va_up_self, va_up_self, va_up_self, va_up_self, va_up_self, va_up_self, va_up_self, hBc]
        refine ⟨by rw [fCut_lo _ _ _ (by decide)]; exact g1, by rw [fCut_lo _ _ _ (by decide)]; exact g2, Or.inr ⟨sz, rfl, rfl, rfl, rfl, rfl, rfl, rfl, rfl⟩⟩
      · rw [va_up_ne _ _ n3, va_up_ne _ _ n3, va_up_ne _ _ n3, va_up_ne _ _ n3, va_up_ne _ _ n3, va_up_ne _ _ n3, va_up_ne _ _ n3, va_up_ne _ _ n3, va_up_ne _ _ n3]
        exact ⟨g1, g2, g3⟩
