/-! THE WHOLE OBJECT, some cells changed -/
section BP
variable {G : xG} {ad : Nat → Nat} {σ σ' : xF} {n : Nat} {val : Nat → Nat → Int} {cl so rC rK : Nat → Nat} {rL : Nat → Nat → Nat} {de le wo : Nat} {cg lo : Int} {ak : Nat → Int} {sz : Nat} {T : Nat → Nat → Int} {ch : Nat → Option Nat} {ps : Nat} {lc ws al be : Nat → Int}
theorem bsP_ask (hI : bsP G ad σ n val cl so rC rK rL de le wo cg lo ak sz T ch ps lc ws al be) {a2 : Nat → Int} (e : σ' = va_up σ 11 (eJ G 4 a2)) (h2 : ∀ q, ir (a2 q)) : bsP G ad σ' n val cl so rC rK rL de le wo cg lo a2 sz T ch ps lc ws al be := by
  obtain ⟨j0, jT, jL, jS, jO, ⟨jg, jgi⟩, ⟨sz1, T1, ch1, t1, t2, t3, t4⟩, jTr, jz, jto, jch, jio, jP, jps, jal, ja0⟩ := hI
  have fr : ∀ i, i ≠ 11 → σ' i = σ i := fun i h => by rw [e, va_up_ne _ _ h]
  exact ⟨(fr 0 (by decide)).trans j0, jT.up (fun i hi => fr i (by omega)), (fr 2 (by decide)).trans jL, (fr 3 (by decide)).trans jS, lkO_up jO (fr 4 (by decide)) (fr 5 (by decide)) (fr 6 (by decide)) (fr 7 (by decide)), ⟨by rw [e, va_up_self], h2⟩, ⟨sz1, T1, ch1, t1, t2.up (fun i hi => fr i (by omega)), t3, t4⟩, jTr.up (fun i hi => fr i (by omega)), jz, jto, jch, jio, jP.up (fun i hi => fr i (by omega)), jps, jal, ja0⟩
theorem bsP_own (hI : bsP G ad σ n val cl so rC rK rL de le wo cg lo ak sz T ch ps lc ws al be) {cg2 lo2 : Int} (e : σ' = va_up σ 0 (bsE ad cg2 lo2)) : bsP G ad σ' n val cl so rC rK rL de le wo cg2 lo2 ak sz T ch ps lc ws al be := by
  obtain ⟨j0, jT, jL, jS, jO, ⟨jg, jgi⟩, ⟨sz1, T1, ch1, t1, t2, t3, t4⟩, jTr, jz, jto, jch, jio, jP, jps, jal, ja0⟩ := hI
  have fr : ∀ i, i ≠ 0 → σ' i = σ i := fun i h => by rw [e, va_up_ne _ _ h]
  exact ⟨by rw [e, va_up_self], jT.up (fun i hi => fr i (by omega)), (fr 2 (by decide)).trans jL, (fr 3 (by decide)).trans jS, lkO_up jO (fr 4 (by decide)) (fr 5 (by decide)) (fr 6 (by decide)) (fr 7 (by decide)), ⟨(fr 11 (by decide)).trans jg, jgi⟩, ⟨sz1, T1, ch1, t1, t2.up (fun i hi => fr i (by omega)), t3, t4⟩, jTr.up (fun i hi => fr i (by omega)), jz, jto, jch, jio, jP.up (fun i hi => fr i (by omega)), jps, jal, ja0⟩
theorem bsP_sur (hI : bsP G ad σ n val cl so rC rK rL de le wo cg lo ak sz T ch ps lc ws al be) (fr : ∀ i, i ≠ 4 → i ≠ 5 → i ≠ 6 → i ≠ 7 → σ' i = σ i) (hO : lkO ad σ') : bsP G ad σ' n val cl so rC rK rL de le wo cg lo ak sz T ch ps lc ws al be := by
  obtain ⟨j0, jT, jL, jS, jO, ⟨jg, jgi⟩, ⟨sz1, T1, ch1, t1, t2, t3, t4⟩, jTr, jz, jto, jch, jio, jP, jps, jal, ja0⟩ := hI
  exact ⟨(fr 0 (by decide) (by decide) (by decide) (by decide)).trans j0, jT.up (fun i hi => fr i (by omega) (by omega) (by omega) (by omega)), (fr 2 (by decide) (by decide) (by decide) (by decide)).trans jL, (fr 3 (by decide) (by decide) (by decide) (by decide)).trans jS, hO, ⟨(fr 11 (by decide) (by decide) (by decide) (by decide)).trans jg, jgi⟩, ⟨sz1, T1, ch1, t1, t2.up (fun i hi => fr i (by omega) (by omega) (by omega) (by omega)), t3, t4⟩, jTr.up (fun i hi => fr i (by omega) (by omega) (by omega) (by omega)), jz, jto, jch, jio, jP.up (fun i hi => fr i (by omega) (by omega) (by omega) (by omega)), jps, jal, ja0⟩
theorem bsP_oth (hI : bsP G ad σ n val cl so rC rK rL de le wo cg lo ak sz T ch ps lc ws al be) (fr : gFr 1 σ σ') (hO : lkO ad σ') {sz1 : Nat} {T1 : Nat → Nat → Int} {ch1 : Nat → Option Nat} (t1 : sz1 ≤ 47) (t2 : pTre G ad σ' 1 sz1 T1 ch1) (t3 : tOk T1) (t4 : chOk 1 ch1) : bsP G ad σ' n val cl so rC rK rL de le wo cg lo ak sz T ch ps lc ws al be := by
  obtain ⟨j0, jT, jL, jS, jO, ⟨jg, jgi⟩, -, jTr, jz, jto, jch, jio, jP, jps, jal, ja0⟩ := hI
  exact ⟨(fr 0 (by decide) (by decide) (by decide) (by decide) (by decide) (by omega)).trans j0, jT.up (fun i hi => fr i (by omega) (by omega) (by omega) (by omega) (by omega) (by omega)), (fr 2 (by decide) (by decide) (by decide) (by decide) (by decide) (by omega)).trans jL, (fr 3 (by decide) (by decide) (by decide) (by decide) (by decide) (by omega)).trans jS, hO, ⟨(fr 11 (by decide) (by decide) (by decide) (by decide) (by decide) (by omega)).trans jg, jgi⟩, ⟨sz1, T1, ch1, t1, t2, t3, t4⟩, jTr.up (fun i hi => fr i (by omega) (by omega) (by omega) (by omega) (by omega) (by omega)), jz, jto, jch, jio, jP.up (fun i hi => fr i (by omega) (by omega) (by omega) (by omega) (by omega) (by omega)), jps, jal, ja0⟩
end BP
/-- only the four values matter where a row comes -/
theorem kWh_a {t : Nat} {so : Nat → Nat} {a a2 : Nat → Int} (h : ∀ q, q < 4 → a q = a2 q) {T : Nat → Nat → Int} {ch : Nat → Option Nat} (hto : tOk T) (hco : chOk t ch) : ∀ f x, x < 47 → kWh t so a T ch f x = kWh t so a2 T ch f x
  | 0, _, _ => rfl
  | f + 1, x, hx => by
    obtain ⟨c, num, side, h1, h2, h3, e1, e2, e3⟩ := hto x hx
    cases hch : ch x with
    | none => rw [kWh_n hch, kWh_n hch]
    | some q =>
      obtain ⟨m, m1, m2, m3⟩ := hco x q hx hch
      subst m1
      rw [kWh_s hch e1 e2 e3, kWh_s hch e1 e2 e3, h c h1]
      exact kWh_a h hto hco f _ (by split <;> omega)
theorem as4_e (g : Nat → Int) (a b c d : Int) (q : Nat) (h : q < 4) : as4 g a b c d q = as4 (fun _ => 0) a b c d q := by
  match q, h with
  | 0, _ => rfl
  | 1, _ => rfl
  | 2, _ => rfl
  | 3, _ => rfl
def a4 (a b c d : Int) : Nat → Int := as4 (fun _ => 0) a b c d
theorem tks_a4 {so : Nat → Nat} (g : Nat → Int) (a b c d : Int) : tks so (as4 g a b c d) = tks so (a4 a b c d) := rfl
/-- a state of growing is like another, but for what lies stale in it -/
def cE (t t2 : Nat) (a b : Option Nat) : Prop := (a = none ∧ b = none) ∨ ∃ m, a = some (76 + 141 * t + 3 * m) ∧ b = some (76 + 141 * t2 + 3 * m)
def gE (t t2 : Nat) (s s2 : gS) : Prop := s.1 = s2.1 ∧ ∀ n, n < s.1 → (∀ j, 2 ≤ j → j ≤ 5 → s.2.1 n j = s2.2.1 n j) ∧ cE t t2 (s.2.2 n) (s2.2.2 n) ∧ (¬ s.2.2 n = none → ∀ j, 12 ≤ j → j ≤ 16 → s.2.1 n j = s2.2.1 n j)
theorem fBeg_e (rC : Nat → Nat) (F F2 : Nat → Int) (rows : Nat) (dep : Int) (j : Nat) (h1 : 2 ≤ j) (h2 : j ≤ 5) : fBeg rC F rows dep j = fBeg rC F2 rows dep j := by
  have h : j = 2 ∨ j = 3 ∨ j = 4 ∨ j = 5 := by omega
  rcases h with e | e | e | e <;> subst e <;> rfl
theorem fCut_e (F F2 : Nat → Int) (B : lkB) (j : Nat) (h1 : 12 ≤ j) (h2 : j ≤ 16) : fCut F B j = fCut F2 B j := by
  have h : j = 12 ∨ j = 13 ∨ j = 14 ∨ j = 15 ∨ j = 16 := by omega
  rcases h with e | e | e | e | e <;> subst e <;> rfl
theorem gE_start (rC : Nat → Nat) (t t2 : Nat) (T0 T2 : Nat → Nat → Int) (c0 c2 : Nat → Option Nat) (rows : Nat) : gE t t2 (gStart rC T0 c0 rows) (gStart rC T2 c2 rows) := by
  refine ⟨rfl, fun n hn => ?_⟩
  have hn : n < 1 := hn
  have e : n = 0 := by omega
  subst e
  refine ⟨fun j h1 h2 => ?_, Or.inl ⟨?_, ?_⟩, fun h => absurd ?_ h⟩
  · show va_up T0 0 _ 0 j = va_up T2 0 _ 0 j
    rw [va_up_self, va_up_self]
    exact fBeg_e _ _ _ _ _ _ h1 h2
  · exact va_up_self c0 0 none
  · exact va_up_self c2 0 none
  · exact va_up_self c0 0 none
theorem gE_put {rC rK : Nat → Nat} {rL : Nat → Nat → Nat} {t t2 : Nat} {s s2 : gS} (h : gE t t2 s s2) {k : Nat} (hk : k < s.1) (B : lkB) : gE t t2 (kPut rC rK rL t s k B) (kPut rC rK rL t2 s2 k B) := by
  obtain ⟨sz, T, ch⟩ := s
  obtain ⟨sz2, T2, ch2⟩ := s2
  obtain ⟨h1, h2⟩ := h
  have h1 : sz = sz2 := h1
  subst h1
  have hk : k < sz := hk
  have h2 : ∀ n, n < sz → (∀ j, 2 ≤ j → j ≤ 5 → T n j = T2 n j) ∧ cE t t2 (ch n) (ch2 n) ∧ (¬ ch n = none → ∀ j, 12 ≤ j → j ≤ 16 → T n j = T2 n j) := h2
  obtain ⟨k1, k2, k3⟩ := h2 k hk
  have e2 := k1 2 (by decide) (by decide)
  have e3 := k1 3 (by decide) (by decide)
  refine ⟨rfl, fun n hn => ?_⟩
  have hn : n < sz + 2 := hn
  show (∀ j, 2 ≤ j → j ≤ 5 → va_up (va_up (va_up T k (fCut (T k) B)) sz (fBeg rC (T sz) (kLeft rK rL (T k 2).toNat B.2.1.toNat B.2.2.1.toNat B.2.2.2.1.toNat) (T k 3 + 1))) (sz + 1) (fBeg rC (T (sz + 1)) (nd (T k 2).toNat (kLeft rK rL (T k 2).toNat B.2.1.toNat B.2.2.1.toNat B.2.2.2.1.toNat)) (T k 3 + 1)) n j = va_up (va_up (va_up T2 k (fCut (T2 k) B)) sz (fBeg rC (T2 sz) (kLeft rK rL (T2 k 2).toNat B.2.1.toNat B.2.2.1.toNat B.2.2.2.1.toNat) (T2 k 3 + 1))) (sz + 1) (fBeg rC (T2 (sz + 1)) (nd (T2 k 2).toNat (kLeft rK rL (T2 k 2).toNat B.2.1.toNat B.2.2.1.toNat B.2.2.2.1.toNat)) (T2 k 3 + 1)) n j) ∧ cE t t2 (va_up (va_up (va_up ch k (some (76 + 141 * t + 3 * sz))) sz none) (sz + 1) none n) (va_up (va_up (va_up ch2 k (some (76 + 141 * t2 + 3 * sz))) sz none) (sz + 1) none n) ∧ (¬ va_up (va_up (va_up ch k (some (76 + 141 * t + 3 * sz))) sz none) (sz + 1) none n = none → ∀ j, 12 ≤ j → j ≤ 16 → va_up (va_up (va_up T k (fCut (T k) B)) sz (fBeg rC (T sz) (kLeft rK rL (T k 2).toNat B.2.1.toNat B.2.2.1.toNat B.2.2.2.1.toNat) (T k 3 + 1))) (sz + 1) (fBeg rC (T (sz + 1)) (nd (T k 2).toNat (kLeft rK rL (T k 2).toNat B.2.1.toNat B.2.2.1.toNat B.2.2.2.1.toNat)) (T k 3 + 1)) n j = va_up (va_up (va_up T2 k (fCut (T2 k) B)) sz (fBeg rC (T2 sz) (kLeft rK rL (T2 k 2).toNat B.2.1.toNat B.2.2.1.toNat B.2.2.2.1.toNat) (T2 k 3 + 1))) (sz + 1) (fBeg rC (T2 (sz + 1)) (nd (T2 k 2).toNat (kLeft rK rL (T2 k 2).toNat B.2.1.toNat B.2.2.1.toNat B.2.2.2.1.toNat)) (T2 k 3 + 1)) n j)
  rw [← e2, ← e3]
  by_cases n1 : n = sz + 1
  · subst n1
    rw [va_up_self, va_up_self, va_up_self, va_up_self]
    exact ⟨fun j a b => fBeg_e _ _ _ _ _ _ a b, Or.inl ⟨rfl, rfl⟩, fun q => absurd rfl q⟩
  · rw [va_up_ne _ _ n1, va_up_ne _ _ n1, va_up_ne _ _ n1, va_up_ne _ _ n1]
    by_cases n2 : n = sz
    · subst n2
      rw [va_up_self, va_up_self, va_up_self, va_up_self]
      exact ⟨fun j a b => fBeg_e _ _ _ _ _ _ a b, Or.inl ⟨rfl, rfl⟩, fun q => absurd rfl q⟩
    · rw [va_up_ne _ _ n2, va_up_ne _ _ n2, va_up_ne _ _ n2, va_up_ne _ _ n2]
      by_cases n3 : n = k
      · subst n3
        rw [va_up_self, va_up_self, va_up_self, va_up_self]
        exact ⟨fun j a b => by rw [fCut_lo _ _ _ (by omega), fCut_lo _ _ _ (by omega)]; exact k1 j a b, Or.inr ⟨sz, rfl, rfl⟩, fun _ j a b => fCut_e _ _ _ _ a b⟩
      · rw [va_up_ne _ _ n3, va_up_ne _ _ n3, va_up_ne _ _ n3, va_up_ne _ _ n3]
        exact h2 n (by omega)
theorem gE_due {so rC rK : Nat → Nat} {rL : Nat → Nat → Nat} {le de wo t t2 : Nat} {s s2 : gS} (h : gE t t2 s s2) {k : Nat} (hk : k < s.1) : kDue so rC rK rL le de wo s k = kDue so rC rK rL le de wo s2 k := by
  obtain ⟨k1, -, -⟩ := h.2 k hk
  unfold kDue
  rw [k1 2 (by decide) (by decide), k1 3 (by decide) (by decide), k1 5 (by decide) (by decide), h.1]
theorem gE_itr {so rC rK : Nat → Nat} {rL : Nat → Nat → Nat} {le de wo t t2 : Nat} {s s2 : gS} (h : gE t t2 s s2) : ∀ k, gE t t2 (kItr so rC rK rL le de wo t s k) (kItr so rC rK rL le de wo t2 s2 k)
  | 0 => h
  | k + 1 => by
    have g := gE_itr (so := so) (rC := rC) (rK := rK) (rL := rL) (le := le) (de := de) (wo := wo) h k
    show gE t t2 (if k < (kItr so rC rK rL le de wo t s k).1 then kStp so rC rK rL le de wo t (kItr so rC rK rL le de wo t s k) k else kItr so rC rK rL le de wo t s k) (if k < (kItr so rC rK rL le de wo t2 s2 k).1 then kStp so rC rK rL le de wo t2 (kItr so rC rK rL le de wo t2 s2 k) k else kItr so rC rK rL le de wo t2 s2 k)
    generalize kItr so rC rK rL le de wo t s k = u at g ⊢
    generalize kItr so rC rK rL le de wo t2 s2 k = u2 at g ⊢
    by_cases hk : k < u.1
    · rw [if_pos hk, if_pos (show k < u2.1 by rw [← g.1]; exact hk)]
      unfold kStp
      rw [← gE_due g hk, ← (g.2 k hk).1 2 (by decide) (by decide)]
      split
      · exact gE_put g hk _
      · exact g
    · rw [if_neg hk, if_neg (show ¬ k < u2.1 by rw [← g.1]; exact hk)]
      exact g
theorem gE_all (so rC rK : Nat → Nat) (rL : Nat → Nat → Nat) (le de wo t t2 : Nat) (T0 T2 : Nat → Nat → Int) (c0 c2 : Nat → Option Nat) (rows : Nat) : gE t t2 (gAll so rC rK rL le de wo t T0 c0 rows) (gAll so rC rK rL le de wo t2 T2 c2 rows) := gE_itr (gE_start rC t t2 T0 T2 c0 c2 rows) 47
/-- where a row comes doesn't depend on what is stale -/
theorem gE_wh {t t2 : Nat} {s s2 : gS} (h : gE t t2 s s2) (hd : dOk t s) (so : Nat → Nat) (a : Nat → Int) : ∀ f x, x < s.1 → kWh t so a s.2.1 s.2.2 f x = kWh t2 so a s2.2.1 s2.2.2 f x ∧ kWh t so a s.2.1 s.2.2 f x < s.1
  | 0, x, hx => ⟨rfl, hx⟩
  | f + 1, x, hx => by
    obtain ⟨k1, k2, k3⟩ := h.2 x hx
    rcases k2 with ⟨c1, c2⟩ | ⟨m, c1, c2⟩
    · rw [kWh_n c1, kWh_n c2]
      exact ⟨rfl, hx⟩
    · obtain ⟨m2, m3, m4, m5, -⟩ := hd x _ hx c1
      have k3 := k3 (by rw [c1]; exact fun e => by cases e)
      have e1 : kNx t so a s.2.1 s.2.2 x = kNx t2 so a s2.2.1 s2.2.2 x := by
        unfold kNx
        rw [c1, c2, k3 12 (by decide) (by decide), k3 13 (by decide) (by decide), k3 14 (by decide) (by decide)]
        show some ((76 + 141 * t + 3 * m - (76 + 141 * t)) / 3 + _) = some ((76 + 141 * t2 + 3 * m - (76 + 141 * t2)) / 3 + _)
        rw [show (76 + 141 * t + 3 * m - (76 + 141 * t)) / 3 = m by omega, show (76 + 141 * t2 + 3 * m - (76 + 141 * t2)) / 3 = m by omega]
      have e2 : ∃ y, kNx t so a s.2.1 s.2.2 x = some y ∧ y < s.1 := by
        unfold kNx
        rw [c1]
        refine ⟨_, rfl, ?_⟩
        rw [show (76 + 141 * t + 3 * m - (76 + 141 * t)) / 3 = m by omega]
        split <;> omega
      obtain ⟨y, y1, y2⟩ := e2
      show (match kNx t so a s.2.1 s.2.2 x with | none => x | some m => kWh t so a s.2.1 s.2.2 f m) = (match kNx t2 so a s2.2.1 s2.2.2 x with | none => x | some m => kWh t2 so a s2.2.1 s2.2.2 f m) ∧ (match kNx t so a s.2.1 s.2.2 x with | none => x | some m => kWh t so a s.2.1 s.2.2 f m) < s.1
      rw [← e1, y1]
      exact gE_wh h hd so a f y y2
/-- the tree of some rows, nothing stale in it -/
noncomputable def cTr (so rC rK : Nat → Nat) (rL : Nat → Nat → Nat) (le de wo rows : Nat) : gS := gAll so rC rK rL le de wo 0 (fun _ _ => 0) (fun _ => none) rows
/-- row r is mistaken by the others' tree -/
noncomputable def kMis (val : Nat → Nat → Int) (cl so rC rK : Nat → Nat) (rL : Nat → Nat → Nat) (le de wo n r : Nat) : Int := pI (¬ (cTr so rC rK rL le de wo (nd (2 ^ n - 1) (2 ^ r))).2.1 (kWh 0 so (val r) (cTr so rC rK rL le de wo (nd (2 ^ n - 1) (2 ^ r))).2.1 (cTr so rC rK rL le de wo (nd (2 ^ n - 1) (2 ^ r))).2.2 5 0) 4 = (cl r : Int))
noncomputable def kOut (val : Nat → Nat → Int) (cl so rC rK : Nat → Nat) (rL : Nat → Nat → Nat) (le de wo n : Nat) : Nat → Int
  | 0 => 0
  | r + 1 => kOut val cl so rC rK rL le de wo n r + kMis val cl so rC rK rL le de wo n r
theorem pI_01 (p : Prop) [Decidable p] : pI p = 0 ∨ pI p = 1 := by
  unfold pI
  split
  · exact Or.inr rfl
  · exact Or.inl rfl
theorem kOut_le (val : Nat → Nat → Int) (cl so rC rK : Nat → Nat) (rL : Nat → Nat → Nat) (le de wo n : Nat) : ∀ r : Nat, 0 ≤ kOut val cl so rC rK rL le de wo n r ∧ kOut val cl so rC rK rL le de wo n r ≤ r
  | 0 => by show (0 : Int) ≤ 0 ∧ (0 : Int) ≤ 0; decide
  | r + 1 => by
    have h := kOut_le val cl so rC rK rL le de wo n r
    have h2 : kMis val cl so rC rK rL le de wo n r = 0 ∨ kMis val cl so rC rK rL le de wo n r = 1 := pI_01 _
    show 0 ≤ kOut val cl so rC rK rL le de wo n r + kMis val cl so rC rK rL le de wo n r ∧ kOut val cl so rC rK rL le de wo n r + kMis val cl so rC rK rL le de wo n r ≤ ((r + 1 : Nat) : Int)
    omega
theorem dOk_c (so rC rK : Nat → Nat) (rL : Nat → Nat → Nat) (le de wo rows : Nat) (hde : de ≤ 5) (hR : rows < 16777216) : gInv 0 (cTr so rC rK rL le de wo rows) := gInv_all hde (fun n _ => ⟨0, 0, 0, by decide, by decide, by decide, rfl, rfl, rfl⟩) (fun n q _ h => by cases h) hR
theorem kMis_e {val : Nat → Nat → Int} {cl so rC rK : Nat → Nat} {rL : Nat → Nat → Nat} {le de wo n r : Nat} (hde : de ≤ 5) (hR : nd (2 ^ n - 1) (2 ^ r) < 16777216) (t : Nat) (T0 : Nat → Nat → Int) (ch0 : Nat → Option Nat) : kMis val cl so rC rK rL le de wo n r = pI (¬ (gAll so rC rK rL le de wo t T0 ch0 (nd (2 ^ n - 1) (2 ^ r))).2.1 (kWh t so (val r) (gAll so rC rK rL le de wo t T0 ch0 (nd (2 ^ n - 1) (2 ^ r))).2.1 (gAll so rC rK rL le de wo t T0 ch0 (nd (2 ^ n - 1) (2 ^ r))).2.2 5 0) 4 = (cl r : Int)) := by
  have h := gE_all so rC rK rL le de wo 0 t (fun _ _ => 0) T0 (fun _ => none) ch0 (nd (2 ^ n - 1) (2 ^ r))
  have d := dOk_c so rC rK rL le de wo (nd (2 ^ n - 1) (2 ^ r)) hde hR
  have w := gE_wh (s := cTr so rC rK rL le de wo (nd (2 ^ n - 1) (2 ^ r))) h d.2.2.2 so (val r) 5 0 (by have := d.1.1; omega)
  unfold kMis
  have e := (h.2 _ w.2).1 4 (by decide) (by decide)
  rw [← w.1]
  unfold cTr at e ⊢
  rw [e]
theorem lkO_me {ad : Nat → Nat} {σ σ' : xF} (h : lkO ad σ) {c n s a b : Int} (hw : σ' = va_up (va_up σ 4 (eO 0 [.ref (ad 5), .int (iv c), .int (iv n), .int (iv s)])) 5 (eO 1 [.int (iv a), .int (iv b)])) : lkO ad σ' := by
  obtain ⟨B, hB⟩ := h
  exact lkI_O (lkI_tr hB hw).1
section AC
variable {so rC rK : Nat → Nat} {rL : Nat → Nat → Nat} {le n : Nat} {c num side p z : Int}
theorem aCut_t (h1 : 0 ≤ c ∧ c < 4) (h2 : (side = 0 ∨ side = 1) ∧ (p = 0 ∨ p = 1)) (h3 : (0 ≤ num ∧ kCan so rK rL (2 ^ n - 1) c.toNat num.toNat = true) ∧ kMay rK rL le (2 ^ n - 1) c.toNat num.toNat side.toNat = true) (hz : z = lowT (kAb rC rK rL (2 ^ n - 1) c.toNat num.toNat side.toNat) (kBe rK rL (2 ^ n - 1) c.toNat num.toNat side.toNat : Nat) p) : z = aCutGain so rC rK rL le n c num side p := by unfold aCutGain; rw [if_pos h1, if_pos h2, if_pos h3]; exact hz
theorem aCut_n (h1 : ¬ (0 ≤ c ∧ c < 4)) : -1 = aCutGain so rC rK rL le n c num side p := by unfold aCutGain; rw [if_neg h1]
theorem aCut_p (h1 : 0 ≤ c ∧ c < 4) (h2 : ¬ ((side = 0 ∨ side = 1) ∧ (p = 0 ∨ p = 1))) : -2 = aCutGain so rC rK rL le n c num side p := by unfold aCutGain; rw [if_pos h1, if_neg h2]
theorem aCut_u (h1 : 0 ≤ c ∧ c < 4) (h2 : (side = 0 ∨ side = 1) ∧ (p = 0 ∨ p = 1)) (h3 : ¬ ((0 ≤ num ∧ kCan so rK rL (2 ^ n - 1) c.toNat num.toNat = true) ∧ kMay rK rL le (2 ^ n - 1) c.toNat num.toNat side.toNat = true)) : -3 = aCutGain so rC rK rL le n c num side p := by unfold aCutGain; rw [if_pos h1, if_pos h2, if_neg h3]
end AC
