/-! THE WHOLE OBJECT: what its cells hold, and what 'grown' means -/
noncomputable def gStart (rC : Nat → Nat) (T0 : Nat → Nat → Int) (ch0 : Nat → Option Nat) (rows : Nat) : gS := (1, va_up T0 0 (fBeg rC (T0 0) rows 0), va_up ch0 0 none)
noncomputable def gAll (so rC rK : Nat → Nat) (rL : Nat → Nat → Nat) (le de wo t : Nat) (T0 : Nat → Nat → Int) (ch0 : Nat → Option Nat) (rows : Nat) : gS := kItr so rC rK rL le de wo t (gStart rC T0 ch0 rows) 47
theorem gAll_eq (so rC rK : Nat → Nat) (rL : Nat → Nat → Nat) (le de wo t : Nat) (T0 : Nat → Nat → Int) (ch0 : Nat → Option Nat) (rows : Nat) : kItr so rC rK rL le de wo t (1, va_up T0 0 (fBeg rC (T0 0) rows 0), va_up ch0 0 none) 47 = gAll so rC rK rL le de wo t T0 ch0 rows := by unfold gAll gStart; rfl
/-- tree 0 and the stages are those of the rows -/
def blt (so rC rK : Nat → Nat) (rL : Nat → Nat → Nat) (le de wo n sz : Nat) (T : Nat → Nat → Int) (ch : Nat → Option Nat) (ps : Nat) (lc ws al be : Nat → Int) : Prop :=
  ∃ (T0 : Nat → Nat → Int) (ch0 : Nat → Option Nat) (lc0 ws0 al0 be0 : Nat → Int) (p : Int), tOk T0 ∧ chOk 0 ch0 ∧ al0 0 = 0 ∧ be0 0 = 1 ∧ sz = (gAll so rC rK rL le de wo 0 T0 ch0 (2 ^ n - 1)).1 ∧ ch = (gAll so rC rK rL le de wo 0 T0 ch0 (2 ^ n - 1)).2.2 ∧
    kStg ch sz ((1 : Int), 0, kBg ch sz (gAll so rC rK rL le de wo 0 T0 ch0 (2 ^ n - 1)).2.1, lc0, ws0, al0, be0) 24 = (p, ps, T, lc, ws, al, be)
/-- the picture of the whole object -/
def bsP (G : xG) (ad : Nat → Nat) (σ : xF) (n : Nat) (val : Nat → Nat → Int) (cl so rC rK : Nat → Nat) (rL : Nat → Nat → Nat) (de le wo : Nat) (cg lo : Int) (ak : Nat → Int) (sz : Nat) (T : Nat → Nat → Int) (ch : Nat → Option Nat) (ps : Nat) (lc ws al be : Nat → Int) : Prop :=
  σ 0 = bsE ad cg lo ∧ pTab G ad σ n val cl so rC rK rL ∧ pLim σ de le wo ∧ pSur ad σ ∧ lkO ad σ ∧ (σ 11 = eJ G 4 ak ∧ ∀ q, ir (ak q)) ∧
  (∃ sz1 T1 ch1, sz1 ≤ 47 ∧ pTre G ad σ 1 sz1 T1 ch1 ∧ tOk T1 ∧ chOk 1 ch1) ∧
  pTre G ad σ 0 sz T ch ∧ (1 ≤ sz ∧ sz ≤ 47) ∧ tOk T ∧ chOk 0 ch ∧ iOk T ∧
  pPru G ad σ ps lc ws al be ∧ ps ≤ 24 ∧ (∀ s, s < 24 → ir (al s) ∧ ir (be s)) ∧ (al 0 = 0 ∧ be 0 = 1)
theorem pTre.up {G : xG} {ad : Nat → Nat} {σ σ' : xF} {t sz : Nat} {T : Nat → Nat → Int} {ch : Nat → Option Nat} (h : pTre G ad σ t sz T ch) (hs : ∀ i, i = 8 + t ∨ i = 18 + t ∨ (76 + 141 * t ≤ i ∧ i < 217 + 141 * t) → σ' i = σ i) : pTre G ad σ' t sz T ch := by
  obtain ⟨r1, r2, r3⟩ := h
  exact ⟨(hs _ (by omega)).trans r1, (hs _ (by omega)).trans r2, fun n hn => (r3 n hn).up (hs _ (by omega)) (hs _ (by omega)) (hs _ (by omega))⟩
theorem gInv_start {rC : Nat → Nat} {t : Nat} {T0 : Nat → Nat → Int} {ch0 : Nat → Option Nat} {rows : Nat} (h1 : tOk T0) (h2 : chOk t ch0) (hR : rows < 16777216) : gInv t (gStart rC T0 ch0 rows) := by
  obtain ⟨f1, f2, f3⟩ := fBeg_5 rC (T0 0) rows 0
  refine ⟨⟨Nat.le_refl 1, by show 1 ≤ 47; decide, fun n hn => ?_⟩, fun n hn => ?_, fun n q hn hq => ?_, fun n q hn hq => ?_⟩
  · have hn : n < 1 := hn
    have e : n = 0 := by omega
    subst e
    show gON (va_up T0 0 (fBeg rC (T0 0) rows 0) 0)
    rw [va_up_self]
    unfold gON
    rw [f1, f2]
    exact ⟨by omega, by omega, f3⟩
  · show ∃ c num side : Nat, c < 4 ∧ num ≤ 100 ∧ side ≤ 1 ∧ va_up T0 0 (fBeg rC (T0 0) rows 0) n 12 = c ∧ va_up T0 0 (fBeg rC (T0 0) rows 0) n 13 = num ∧ va_up T0 0 (fBeg rC (T0 0) rows 0) n 14 = side
    by_cases e : n = 0
    · subst e
      rw [va_up_self, fBeg_hi _ _ _ _ _ (by decide), fBeg_hi _ _ _ _ _ (by decide), fBeg_hi _ _ _ _ _ (by decide)]
      exact h1 0 hn
    · rw [va_up_ne _ _ e]
      exact h1 n hn
  · have hq : va_up ch0 0 none n = some q := hq
    by_cases e : n = 0
    · subst e; rw [va_up_self] at hq; cases hq
    · rw [va_up_ne _ _ e] at hq
      exact h2 n q hn hq
  · have hn : n < 1 := hn
    have e : n = 0 := by omega
    subst e
    have hq : va_up ch0 0 none 0 = some q := hq
    rw [va_up_self] at hq
    cases hq
theorem gInv_all {so rC rK : Nat → Nat} {rL : Nat → Nat → Nat} {le de wo t : Nat} (hde : de ≤ 5) {T0 : Nat → Nat → Int} {ch0 : Nat → Option Nat} {rows : Nat} (h1 : tOk T0) (h2 : chOk t ch0) (hR : rows < 16777216) : gInv t (gAll so rC rK rL le de wo t T0 ch0 rows) := gInv_itr hde (gInv_start h1 h2 hR) 47
theorem kPut_mid {rC rK : Nat → Nat} {rL : Nat → Nat → Nat} {t : Nat} {s : gS} {k : Nat} {B : lkB} (x j : Nat) (h6 : 5 < j) (h11 : j < 12) : (kPut rC rK rL t s k B).2.1 x j = s.2.1 x j := by
  obtain ⟨sz, T, ch⟩ := s
  show va_up (va_up (va_up T k (fCut (T k) B)) sz _) (sz + 1) _ x j = T x j
  by_cases n1 : x = sz + 1
  · subst n1; rw [va_up_self, fBeg_hi _ _ _ _ _ h6]
  · rw [va_up_ne _ _ n1]
    by_cases n2 : x = sz
    · subst n2; rw [va_up_self, fBeg_hi _ _ _ _ _ h6]
    · rw [va_up_ne _ _ n2]
      by_cases n3 : x = k
      · subst n3; rw [va_up_self, fCut_lo _ _ _ h11]
      · rw [va_up_ne _ _ n3]
theorem kItr_mid {so rC rK : Nat → Nat} {rL : Nat → Nat → Nat} {le de wo t : Nat} {s0 : gS} (x j : Nat) (h6 : 5 < j) (h11 : j < 12) : ∀ k, (kItr so rC rK rL le de wo t s0 k).2.1 x j = s0.2.1 x j
  | 0 => rfl
  | k + 1 => by
    have h := kItr_mid (so := so) (rC := rC) (rK := rK) (rL := rL) (le := le) (de := de) (wo := wo) (t := t) (s0 := s0) x j h6 h11 k
    show (if k < (kItr so rC rK rL le de wo t s0 k).1 then kStp so rC rK rL le de wo t (kItr so rC rK rL le de wo t s0 k) k else kItr so rC rK rL le de wo t s0 k).2.1 x j = _
    split
    · unfold kStp
      split
      · rw [kPut_mid x j h6 h11]; exact h
      · exact h
    · exact h
theorem gAll_iOk {so rC rK : Nat → Nat} {rL : Nat → Nat → Nat} {le de wo t : Nat} {T0 : Nat → Nat → Int} {ch0 : Nat → Option Nat} {rows : Nat} (h : iOk T0) : iOk (gAll so rC rK rL le de wo t T0 ch0 rows).2.1 := fun x hx => by
  have e : ∀ j, 5 < j → j < 12 → (gAll so rC rK rL le de wo t T0 ch0 rows).2.1 x j = T0 x j := fun j h6 h11 => by
    unfold gAll
    rw [kItr_mid x j h6 h11 47]
    show va_up T0 0 (fBeg rC (T0 0) rows 0) x j = T0 x j
    by_cases e : x = 0
    · subst e; rw [va_up_self, fBeg_hi _ _ _ _ _ h6]
    · rw [va_up_ne _ _ e]
  rw [e 8 (by decide) (by decide), e 9 (by decide) (by decide)]
  exact h x hx
theorem hi5_all {s9 : gS} (hok : gOk s9) (hdo : dOk 0 s9) : ∀ (s : Nat) (T9 : Nat → Nat → Int), zEq s9.2.1 T9 → ∀ x, x < s9.1 → ir (kSum s9.2.2 s s9.1 s9.1 T9 x 5 - kSum s9.2.2 s s9.1 s9.1 T9 x 11) ∧ ir (kSum s9.2.2 s s9.1 s9.1 T9 x 10 - 1) := by
  obtain ⟨a, b, c⟩ := s9
  exact hi5_of hok hdo
theorem tOk_z {T T' : Nat → Nat → Int} (h : tOk T) (e : zEq T T') : tOk T' := fun n hn => by
  rw [e n 12 (by decide) (by decide) (by decide) (by decide), e n 13 (by decide) (by decide) (by decide) (by decide), e n 14 (by decide) (by decide) (by decide) (by decide)]
  exact h n hn
theorem kStg_al0 {ch : Nat → Option Nat} {sz : Nat} {Z0 : zS} : ∀ k, (kStg ch sz Z0 k).2.2.2.2.2.1 0 = Z0.2.2.2.2.2.1 0 ∧ (kStg ch sz Z0 k).2.2.2.2.2.2 0 = Z0.2.2.2.2.2.2 0
  | 0 => ⟨rfl, rfl⟩
  | k + 1 => by
    have h := kStg_al0 (ch := ch) (sz := sz) (Z0 := Z0) k
    show (if (kStg ch sz Z0 k).1 = 0 then kStg ch sz Z0 k else zStep ch sz k (kStg ch sz Z0 k)).2.2.2.2.2.1 0 = _ ∧ (if (kStg ch sz Z0 k).1 = 0 then kStg ch sz Z0 k else zStep ch sz k (kStg ch sz Z0 k)).2.2.2.2.2.2 0 = _
    by_cases g : (kStg ch sz Z0 k).1 = 0
    · rw [if_pos g]; exact h
    · rw [if_neg g]
      unfold zStep
      by_cases g2 : zPar k (kStg ch sz Z0 k).2.2.1 = 1 ∧ k + 1 < 24
      · rw [if_pos g2]
        dsimp only
        rw [va_up_ne _ _ (Nat.succ_ne_zero k).symm, va_up_ne _ _ (Nat.succ_ne_zero k).symm]
        exact h
      · rw [if_neg g2]; exact h
/-- behind growing and cutting back -/
theorem bsP_grown {G : xG} {ad : Nat → Nat} {σ σ1 σ2 σ3 : xF} {n : Nat} {val : Nat → Nat → Int} {cl so rC rK : Nat → Nat} {rL : Nat → Nat → Nat} {de le wo : Nat} {cg lo : Int} {ak : Nat → Int} {sz : Nat} {T : Nat → Nat → Int} {ch : Nat → Option Nat} {ps : Nat} {lc ws al be : Nat → Int} (hI : bsP G ad σ n val cl so rC rK rL de le wo cg lo ak sz T ch ps lc ws al be) (hn : n ≤ 24) (hde : de ≤ 5)
    (g1 : gFr 0 σ σ1) (g2 : lkO ad σ1)
    {Z : zS} (hZ : Z = kStg (gAll so rC rK rL le de wo 0 T ch (2 ^ n - 1)).2.2 (gAll so rC rK rL le de wo 0 T ch (2 ^ n - 1)).1 ((1 : Int), 0, kBg (gAll so rC rK rL le de wo 0 T ch (2 ^ n - 1)).2.2 (gAll so rC rK rL le de wo 0 T ch (2 ^ n - 1)).1 (gAll so rC rK rL le de wo 0 T ch (2 ^ n - 1)).2.1, lc, ws, al, be) 24)
    (z1 : pTre G ad σ2 0 (gAll so rC rK rL le de wo 0 T ch (2 ^ n - 1)).1 Z.2.2.1 (gAll so rC rK rL le de wo 0 T ch (2 ^ n - 1)).2.2) (z2 : pPru G ad σ2 Z.2.1 Z.2.2.2.1 Z.2.2.2.2.1 Z.2.2.2.2.2.1 Z.2.2.2.2.2.2) (z3 : Z.2.1 ≤ 24) (z4 : iOk Z.2.2.1) (z5 : zFr σ1 σ2) (z6 : zEq (gAll so rC rK rL le de wo 0 T ch (2 ^ n - 1)).2.1 Z.2.2.1) (z7 : ∀ s, s < 24 → ir (Z.2.2.2.2.2.1 s) ∧ ir (Z.2.2.2.2.2.2 s))
    (e3 : σ3 = va_up σ2 0 (bsE ad 0 lo)) : bsP G ad σ3 n val cl so rC rK rL de le wo 0 lo ak (gAll so rC rK rL le de wo 0 T ch (2 ^ n - 1)).1 Z.2.2.1 (gAll so rC rK rL le de wo 0 T ch (2 ^ n - 1)).2.2 Z.2.1 Z.2.2.2.1 Z.2.2.2.2.1 Z.2.2.2.2.2.1 Z.2.2.2.2.2.2 ∧ blt so rC rK rL le de wo n (gAll so rC rK rL le de wo 0 T ch (2 ^ n - 1)).1 Z.2.2.1 (gAll so rC rK rL le de wo 0 T ch (2 ^ n - 1)).2.2 Z.2.1 Z.2.2.2.1 Z.2.2.2.2.1 Z.2.2.2.2.2.1 Z.2.2.2.2.2.2 := by
  obtain ⟨j0, jT, jL, jS, jO, ⟨jg, jgi⟩, ⟨sz1, T1, ch1, t1, t2, t3, t4⟩, jTr, jz, jto, jch, jio, jP, jps, jal, ja0, jb0⟩ := hI
  have hR : 2 ^ n - 1 < 16777216 := by have h3 : 2 ^ n ≤ 2 ^ 24 := Nat.pow_le_pow_right (by decide) hn; omega
  obtain ⟨i1, i2, i3, i4⟩ := gInv_all (so := so) (rC := rC) (rK := rK) (rL := rL) (le := le) (wo := wo) (t := 0) hde jto jch hR
  have f3 : ∀ i, i ≠ 0 → σ3 i = σ2 i := fun i h => by rw [e3, va_up_ne _ _ h]
  have fr : ∀ i, i ≠ 0 → i ≠ 4 → i ≠ 5 → i ≠ 6 → i ≠ 7 → i ≠ 8 → i ≠ 10 → (i < 20 ∨ 24 ≤ i) → (i < 52 ∨ 217 ≤ i) → σ3 i = σ i := fun i a0 a4 a5 a6 a7 a8 a10 b1 b2 => (f3 i a0).trans ((z5 i a10 b1 b2).trans (g1 i a4 a5 a6 a7 (by omega) (by omega)))
  have fO : ∀ i, 4 ≤ i → i ≤ 7 → σ3 i = σ1 i := fun i b1 b2 => (f3 i (by omega)).trans (z5 i (by omega) (by omega) (by omega))
  have k0 : Z.2.2.2.2.2.1 0 = al 0 ∧ Z.2.2.2.2.2.2 0 = be 0 := by rw [hZ]; exact kStg_al0 24
  refine ⟨⟨by rw [e3, va_up_self], jT.up (fun i hi => fr i (by omega) (by omega) (by omega) (by omega) (by omega) (by omega) (by omega) (by omega) (by omega)), (fr 2 (by decide) (by decide) (by decide) (by decide) (by decide) (by decide) (by decide) (by omega) (by omega)).trans jL, (fr 3 (by decide) (by decide) (by decide) (by decide) (by decide) (by decide) (by decide) (by omega) (by omega)).trans jS, lkO_up g2 (fO 4 (by omega) (by omega)) (fO 5 (by omega) (by omega)) (fO 6 (by omega) (by omega)) (fO 7 (by omega) (by omega)), ⟨(fr 11 (by decide) (by decide) (by decide) (by decide) (by decide) (by decide) (by decide) (by omega) (by omega)).trans jg, jgi⟩, ⟨sz1, T1, ch1, t1, t2.up (fun i hi => fr i (by omega) (by omega) (by omega) (by omega) (by omega) (by omega) (by omega) (by omega) (by omega)), t3, t4⟩, z1.up (fun i hi => f3 i (by omega)), ⟨i1.1, i1.2.1⟩, tOk_z i2 z6, i3, z4, z2.up (fun i hi => f3 i (by omega)), z3, z7, k0.1.trans ja0, k0.2.trans jb0⟩, T, ch, lc, ws, al, be, Z.1, jto, jch, ja0, jb0, rfl, rfl, hZ.symm⟩
/-- what the answers need of a grown tree -/
def bOk (sz : Nat) (T : Nat → Nat → Int) (ch : Nat → Option Nat) (ps : Nat) (lc ws al be : Nat → Int) : Prop :=
  (∀ x, x < sz → gON (T x) ∧ (0 ≤ T x 4 ∧ T x 4 < 3)) ∧
  (∀ x, x < sz → ¬ ch x = none → ∃ a b : Nat, T x 15 = a ∧ T x 16 = b ∧ 0 < b ∧ a < 2147483648 ∧ b < 2147483648) ∧
  (∀ s, s < ps → ∃ a b : Nat, al s = a ∧ be s = b ∧ 0 < b ∧ a < 2147483648 ∧ b < 2147483648) ∧
  (∀ s, s < ps → ir (lc s) ∧ ir (ws s))
def bQ (so rC rK : Nat → Nat) (rL : Nat → Nat → Nat) (le de wo n : Nat) : Prop := ∀ sz T ch ps lc ws al be, blt so rC rK rL le de wo n sz T ch ps lc ws al be → bOk sz T ch ps lc ws al be
/-- a fraction's part in lowest terms -/
def lowT (a b part : Int) : Int := (((if part = 0 then a.toNat else b.toNat) / Nat.gcd a.toNat b.toNat : Nat) : Int)
/-! the answers -/
noncomputable def aNode (sz : Nat) (T : Nat → Nat → Int) (ch : Nat → Option Nat) (k wh : Int) : Int :=
  if 0 ≤ k ∧ k < sz then (if 0 ≤ wh ∧ wh ≤ 8 then
    (if wh ≤ 4 then (match ch k.toNat with
      | none => -3
      | some q => if wh = 0 then T k.toNat 12 else if wh = 1 then T k.toNat 13 else if wh = 2 then T k.toNat 14 else if wh = 3 then (((q - 76) / 3 : Nat) : Int) else (((q - 76) / 3 + 1 : Nat) : Int))
    else if wh = 5 then T k.toNat 3 else if wh = 6 then ((cnt (T k.toNat 2).toNat : Nat) : Int) else if wh = 7 then T k.toNat 4 else T k.toNat 5) else -2) else -1
noncomputable def aCount (rC : Nat → Nat) (sz : Nat) (T : Nat → Nat → Int) (k c : Int) : Int := if (0 ≤ k ∧ k < sz) ∧ 0 ≤ c ∧ c < 3 then ((kCnt rC (T k.toNat 2).toNat c.toNat : Nat) : Int) else -1
def aGain (sz : Nat) (T : Nat → Nat → Int) (ch : Nat → Option Nat) (k p : Int) : Int := if 0 ≤ k ∧ k < sz then (if p = 0 ∨ p = 1 then (if ch k.toNat = none then -3 else lowT (T k.toNat 15) (T k.toNat 16) p) else -2) else -1
noncomputable def aCutGain (so rC rK : Nat → Nat) (rL : Nat → Nat → Nat) (le n : Nat) (c num side p : Int) : Int := if 0 ≤ c ∧ c < 4 then (if (side = 0 ∨ side = 1) ∧ (p = 0 ∨ p = 1) then (if (0 ≤ num ∧ kCan so rK rL (2 ^ n - 1) c.toNat num.toNat = true) ∧ kMay rK rL le (2 ^ n - 1) c.toNat num.toNat side.toNat = true then lowT (kAb rC rK rL (2 ^ n - 1) c.toNat num.toNat side.toNat) (kBe rK rL (2 ^ n - 1) c.toNat num.toNat side.toNat : Nat) p else -3) else -2) else -1
def aAlpha (ps : Nat) (al be : Nat → Int) (s p : Int) : Int := if 0 ≤ s ∧ s < ps then (if p = 0 ∨ p = 1 then lowT (al s.toNat) (be s.toNat) p else -2) else -1
def aStg (ps : Nat) (g : Nat → Int) (s : Int) : Int := if 0 ≤ s ∧ s < ps then g s.toNat else -1
def aState (sz : Nat) (T : Nat → Nat → Int) (ps : Nat) (s k : Int) : Int := if (0 ≤ k ∧ k < sz) ∧ 0 ≤ s ∧ s < ps then (if T k.toNat 9 ≤ s then 2 else if T k.toNat 8 ≤ s then 1 else 0) else -1
theorem aStg_t {ps : Nat} {g : Nat → Int} {s : Int} (h : 0 ≤ s ∧ s < (ps : Int)) : g s.toNat = aStg ps g s := by unfold aStg; rw [if_pos h]
theorem aStg_f {ps : Nat} {g : Nat → Int} {s : Int} (h : ¬ (0 ≤ s ∧ s < (ps : Int))) : -1 = aStg ps g s := by unfold aStg; rw [if_neg h]
theorem aState_t {sz : Nat} {T : Nat → Nat → Int} {ps : Nat} {s k z : Int} (h1 : 0 ≤ k ∧ k < (sz : Int)) (h2 : 0 ≤ s ∧ s < (ps : Int)) (hz : z = (if T k.toNat 9 ≤ s then (2 : Int) else if T k.toNat 8 ≤ s then 1 else 0)) : z = aState sz T ps s k := by unfold aState; rw [if_pos ⟨h1, h2⟩]; exact hz
theorem aState_f {sz : Nat} {T : Nat → Nat → Int} {ps : Nat} {s k : Int} (h : ¬ ((0 ≤ k ∧ k < (sz : Int)) ∧ 0 ≤ s ∧ s < (ps : Int))) : -1 = aState sz T ps s k := by unfold aState; rw [if_neg h]
theorem aCount_t {rC : Nat → Nat} {sz : Nat} {T : Nat → Nat → Int} {k c z : Int} (h1 : 0 ≤ k ∧ k < (sz : Int)) (h2 : 0 ≤ c ∧ c < 3) (hz : z = ((kCnt rC (T k.toNat 2).toNat c.toNat : Nat) : Int)) : z = aCount rC sz T k c := by unfold aCount; rw [if_pos ⟨h1, h2⟩]; exact hz
theorem aCount_f {rC : Nat → Nat} {sz : Nat} {T : Nat → Nat → Int} {k c : Int} (h : ¬ ((0 ≤ k ∧ k < (sz : Int)) ∧ 0 ≤ c ∧ c < 3)) : -1 = aCount rC sz T k c := by unfold aCount; rw [if_neg h]
theorem lowT_e {x y p z : Int} {a b : Nat} (e1 : x = a) (e2 : y = b) (hz : z = (((if p = 0 then a else b) / Nat.gcd a b : Nat) : Int)) : z = lowT x y p := by
  unfold lowT
  rw [e1, e2, Int.toNat_natCast, Int.toNat_natCast]
  exact hz
theorem aAlpha_t {ps : Nat} {al be : Nat → Int} {s p z : Int} (h1 : 0 ≤ s ∧ s < (ps : Int)) (h2 : p = 0 ∨ p = 1) (hz : z = lowT (al s.toNat) (be s.toNat) p) : z = aAlpha ps al be s p := by unfold aAlpha; rw [if_pos h1, if_pos h2]; exact hz
theorem aAlpha_n {ps : Nat} {al be : Nat → Int} {s p : Int} (h1 : ¬ (0 ≤ s ∧ s < (ps : Int))) : -1 = aAlpha ps al be s p := by unfold aAlpha; rw [if_neg h1]
theorem aAlpha_p {ps : Nat} {al be : Nat → Int} {s p : Int} (h1 : 0 ≤ s ∧ s < (ps : Int)) (h2 : ¬ (p = 0 ∨ p = 1)) : -2 = aAlpha ps al be s p := by unfold aAlpha; rw [if_pos h1, if_neg h2]
theorem aGain_t {sz : Nat} {T : Nat → Nat → Int} {ch : Nat → Option Nat} {k p z : Int} (h1 : 0 ≤ k ∧ k < (sz : Int)) (h2 : p = 0 ∨ p = 1) (h3 : ¬ ch k.toNat = none) (hz : z = lowT (T k.toNat 15) (T k.toNat 16) p) : z = aGain sz T ch k p := by unfold aGain; rw [if_pos h1, if_pos h2, if_neg h3]; exact hz
theorem aGain_n {sz : Nat} {T : Nat → Nat → Int} {ch : Nat → Option Nat} {k p : Int} (h1 : ¬ (0 ≤ k ∧ k < (sz : Int))) : -1 = aGain sz T ch k p := by unfold aGain; rw [if_neg h1]
theorem aGain_p {sz : Nat} {T : Nat → Nat → Int} {ch : Nat → Option Nat} {k p : Int} (h1 : 0 ≤ k ∧ k < (sz : Int)) (h2 : ¬ (p = 0 ∨ p = 1)) : -2 = aGain sz T ch k p := by unfold aGain; rw [if_pos h1, if_neg h2]
theorem aGain_u {sz : Nat} {T : Nat → Nat → Int} {ch : Nat → Option Nat} {k p : Int} (h1 : 0 ≤ k ∧ k < (sz : Int)) (h2 : p = 0 ∨ p = 1) (h3 : ch k.toNat = none) : -3 = aGain sz T ch k p := by unfold aGain; rw [if_pos h1, if_pos h2, if_pos h3]
theorem aNode_n {sz : Nat} {T : Nat → Nat → Int} {ch : Nat → Option Nat} {k wh : Int} (h1 : ¬ (0 ≤ k ∧ k < (sz : Int))) : -1 = aNode sz T ch k wh := by unfold aNode; rw [if_neg h1]
theorem aNode_p {sz : Nat} {T : Nat → Nat → Int} {ch : Nat → Option Nat} {k wh : Int} (h1 : 0 ≤ k ∧ k < (sz : Int)) (h2 : ¬ (0 ≤ wh ∧ wh ≤ 8)) : -2 = aNode sz T ch k wh := by unfold aNode; rw [if_pos h1, if_neg h2]
theorem aNode_o {sz : Nat} {T : Nat → Nat → Int} {ch : Nat → Option Nat} {k wh z : Int} (h1 : 0 ≤ k ∧ k < (sz : Int)) (h2 : 0 ≤ wh ∧ wh ≤ 8) (h3 : ¬ wh ≤ 4) (hz : z = (if wh = 5 then T k.toNat 3 else if wh = 6 then ((cnt (T k.toNat 2).toNat : Nat) : Int) else if wh = 7 then T k.toNat 4 else T k.toNat 5)) : z = aNode sz T ch k wh := by unfold aNode; rw [if_pos h1, if_pos h2, if_neg h3]; exact hz
theorem aNode_c {sz : Nat} {T : Nat → Nat → Int} {ch : Nat → Option Nat} {k wh z : Int} {mm : Nat} (h1 : 0 ≤ k ∧ k < (sz : Int)) (h2 : 0 ≤ wh ∧ wh ≤ 8) (h3 : wh ≤ 4) (hm : ∀ q, ch k.toNat = some q → q = 76 + 3 * mm) (hz : z = (if ch k.toNat = none then (-3 : Int) else if wh = 0 then T k.toNat 12 else if wh = 1 then T k.toNat 13 else if wh = 2 then T k.toNat 14 else if wh = 3 then (mm : Int) else ((mm + 1 : Nat) : Int))) : z = aNode sz T ch k wh := by
  unfold aNode
  rw [if_pos h1, if_pos h2, if_pos h3]
  cases hch : ch k.toNat with
  | none => rw [hz, if_pos hch]
  | some q =>
    rw [hz, if_neg (by rw [hch]; exact fun e => by cases e)]
    have e := hm q hch
    subst e
    show _ = (if wh = 0 then T k.toNat 12 else if wh = 1 then T k.toNat 13 else if wh = 2 then T k.toNat 14 else if wh = 3 then (((76 + 3 * mm - 76) / 3 : Nat) : Int) else (((76 + 3 * mm - 76) / 3 + 1 : Nat) : Int))
    rw [show (76 + 3 * mm - 76) / 3 = mm by omega]
