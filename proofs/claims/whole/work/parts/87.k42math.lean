/-! THE LAW'S INVARIANT -/
theorem gI_mono {l : Launch} {G : xG} {f0 : xF} {ad : Nat → Nat} {M : Nat} {y : MethodName} {cw : Cond} {rm : Room} {av : List Value} {σ : xF} {post post2 : Int → xF → Prop} (h : gI l G f0 ad M y cw rm av σ post) (hi : ∀ z σ', post z σ' → post2 z σ') : gI l G f0 ad M y cw rm av σ post2 := by
  intro L sz hw p e ha hc hk s m args below hf happ hP ht
  obtain ⟨k, o, h1, h2, h3, ⟨⟨r, u, e1, ⟨z, z1, z2, σ', e2, hp⟩, b⟩, hF⟩, hR⟩ := h L sz hw p e ha hc hk s m args below hf happ hP ht
  exact ⟨k, o, h1, h2, h3, ⟨⟨r, u, e1, ⟨z, z1, z2, σ', e2, hi z σ' hp⟩, b⟩, hF⟩, hR⟩
/-- the data of a run: n, values, classes, sorts, depth, least, worth -/
abbrev xD : Type := Nat × (Nat → Nat → Int) × (Nat → Nat) × (Nat → Nat) × Nat × Nat × Nat
def dGd (n : Nat) (val : Nat → Nat → Int) (cl so : Nat → Nat) (de le wo : Nat) : Prop := dTab n val cl so ∧ (1 ≤ le ∧ le ≤ 10) ∧ de ≤ 5 ∧ wo ≤ 1000
def lwC (G : xG) (ad : Nat → Nat) (σ : xF) : xD → Prop
  | (n, val, cl, so, de, le, wo) => dGd n val cl so de le wo ∧ ∃ (cg lo : Int) (ak : Nat → Int) (sz : Nat) (T : Nat → Nat → Int) (ch : Nat → Option Nat) (ps : Nat) (lc ws al be : Nat → Int), bsP G ad σ n val cl so (mC n cl) (mK n val) (mLf n val so) de le wo cg lo ak sz T ch ps lc ws al be ∧ (cg = 1 ∨ (cg = 0 ∧ blt so (mC n cl) (mK n val) (mLf n val so) le de wo n sz T ch ps lc ws al be)) ∧ (lo = -1 ∨ lo = kOut val cl so (mC n cl) (mK n val) (mLf n val so) le de wo n n)
def lwM (G : xG) (ad : Nat → Nat) (σ : xF) : xD → Prop
  | (n, val, cl, so, de, le, wo) => dGd n val cl so de le wo ∧ ∃ (S : Nat → Int) (Q : Nat → Nat → Int), pMo G ad σ n val cl so de le wo S ∧ pMa G σ Q ∧ (S 7 = 0 ∨ (S 7 = 1 ∧ moB so (mC n cl) (mK n val) (mLf n val so) le de wo n S Q))
def cPo (G : xG) (ad : Nat → Nat) (σ : xF) (P : Int → xD → Prop) : Int → xF → Prop := fun z σ' => ∃ d', P z d' ∧ lwC G ad σ' d' ∧ ∀ i, 358 ≤ i → σ' i = σ i
def mPo (G : xG) (ad : Nat → Nat) (σ : xF) (P : Int → xD → Prop) : Int → xF → Prop := fun z σ' => ∃ d', P z d' ∧ lwM G ad σ' d' ∧ ∀ i, i < 358 → σ' i = σ i
/-- the answer is A, the data are then D -/
def qA (D : xD) (A : Int) : Int → xD → Prop := fun z d' => d' = D ∧ z = A
/-- the answer is F of the number of stages -/
def qE (D : xD) (s : gS) (F : Nat → Int) : Int → xD → Prop := fun z d' => d' = D ∧ ∃ E : Nat, isE s.1 s.2.1 s.2.2 E ∧ z = F E
theorem qA_u {D : xD} {A z z2 : Int} {d d2 : xD} (h : qA D A z d) (h2 : qA D A z2 d2) : z = z2 ∧ d = d2 := ⟨h.2.trans h2.2.symm, h.1.trans h2.1.symm⟩
theorem qE_u {D : xD} {s : gS} {F : Nat → Int} {z z2 : Int} {d d2 : xD} (h : qE D s F z d) (h2 : qE D s F z2 d2) : z = z2 ∧ d = d2 := by
  obtain ⟨a, E, b, c⟩ := h
  obtain ⟨a2, E2, b2, c2⟩ := h2
  have e : E = E2 := isE_u b b2
  subst e
  exact ⟨c.trans c2.symm, a.trans a2.symm⟩
section LWI
variable {G : xG} {ad : Nat → Nat} {σ σ' : xF} {n : Nat} {val : Nat → Nat → Int} {cl so rC rK : Nat → Nat} {rL : Nat → Nat → Nat} {de le wo : Nat} {cg lo : Int} {ak : Nat → Int} {sz : Nat} {T : Nat → Nat → Int} {ch : Nat → Option Nat} {ps : Nat} {lc ws al be : Nat → Int}
theorem bTab_of (hD : dTab n val cl so) : bTab n cl so (mC n cl) (mK n val) (mLf n val so) := ⟨hD.1, hD.2.2.1, hD.2.2.2, fun _ => mk_lt24 _ hD.1, fun _ => mk_lt24 _ hD.1, fun _ _ => mk_lt24 _ hD.1⟩
theorem bsP_up (hI : bsP G ad σ n val cl so rC rK rL de le wo cg lo ak sz T ch ps lc ws al be) (fr : ∀ i, i < 358 → σ' i = σ i) : bsP G ad σ' n val cl so rC rK rL de le wo cg lo ak sz T ch ps lc ws al be := by
  obtain ⟨j0, jT, jL, jS, jO, ⟨jg, jgi⟩, ⟨sz1, T1, ch1, t1, t2, t3, t4⟩, jTr, jz, jto, jch, jio, jP, jps, jal, ja0⟩ := hI
  exact ⟨(fr 0 (by decide)).trans j0, jT.up (fun i hi => fr i (by omega)), (fr 2 (by decide)).trans jL, (fr 3 (by decide)).trans jS, lkO_up jO (fr 4 (by decide)) (fr 5 (by decide)) (fr 6 (by decide)) (fr 7 (by decide)), ⟨(fr 11 (by decide)).trans jg, jgi⟩, ⟨sz1, T1, ch1, t1, t2.up (fun i hi => fr i (by omega)), t3, t4⟩, jTr.up (fun i hi => fr i (by omega)), jz, jto, jch, jio, jP.up (fun i hi => fr i (by omega)), jps, jal, ja0⟩
theorem lwC_up : ∀ {d : xD}, lwC G ad σ d → (∀ i, i < 358 → σ' i = σ i) → lwC G ad σ' d
  | (n, val, cl, so, de, le, wo), h, fr => by
    obtain ⟨hg, cg, lo, ak, sz, T, ch, ps, lc, ws, al, be, hI, h2⟩ := h
    exact ⟨hg, cg, lo, ak, sz, T, ch, ps, lc, ws, al, be, bsP_up hI fr, h2⟩
theorem lwM_up : ∀ {d : xD}, lwM G ad σ d → (∀ i, 358 ≤ i → σ' i = σ i) → lwM G ad σ' d
  | (n, val, cl, so, de, le, wo), h, fr => by
    obtain ⟨hg, S, Q, hM, hQ, hb⟩ := h
    exact ⟨hg, S, Q, hM.up ((fr 358 (by decide)).trans hM.1) (fr 359 (by decide)) (fr 360 (by decide)) (fr 361 (by decide)), hQ.oth (fun i h1 h2 => fr i (by omega)), hb⟩
/-- the table is another, all is to be built anew -/
theorem bsP_new (hI : bsP G ad σ n val cl so rC rK rL de le wo cg lo ak sz T ch ps lc ws al be) {n2 : Nat} {val2 : Nat → Nat → Int} {cl2 so2 rC2 rK2 : Nat → Nat} {rL2 : Nat → Nat → Nat} {de2 le2 wo2 : Nat} {cg2 lo2 : Int} {ak2 : Nat → Int} (t : pTab G ad σ' n2 val2 cl2 so2 rC2 rK2 rL2) (e0 : σ' 0 = bsE ad cg2 lo2) (e2 : pLim σ' de2 le2 wo2) (e11 : σ' 11 = eJ G 4 ak2) (h2 : ∀ q, ir (ak2 q)) (fr : ∀ i, i ≠ 0 → i ≠ 2 → i ≠ 11 → i ≠ 1 → (i < 12 ∨ 17 < i) → (i < 24 ∨ 51 < i) → σ' i = σ i) : bsP G ad σ' n2 val2 cl2 so2 rC2 rK2 rL2 de2 le2 wo2 cg2 lo2 ak2 sz T ch ps lc ws al be := by
  obtain ⟨j0, jT, jL, jS, jO, ⟨jg, jgi⟩, ⟨sz1, T1, ch1, t1, t2, t3, t4⟩, jTr, jz, jto, jch, jio, jP, jps, jal, ja0⟩ := hI
  have f : ∀ i, i ≠ 0 → i ≠ 2 → i ≠ 11 → i ≠ 1 → (i < 12 ∨ 17 < i) ∧ (i < 24 ∨ 51 < i) → σ' i = σ i := fun i a b c d e => fr i a b c d e.1 e.2
  exact ⟨e0, t, e2, (f 3 (by decide) (by decide) (by decide) (by decide) (by decide)).trans jS, lkO_up jO (f 4 (by decide) (by decide) (by decide) (by decide) (by decide)) (f 5 (by decide) (by decide) (by decide) (by decide) (by decide)) (f 6 (by decide) (by decide) (by decide) (by decide) (by decide)) (f 7 (by decide) (by decide) (by decide) (by decide) (by decide)), ⟨e11, h2⟩, ⟨sz1, T1, ch1, t1, t2.up (fun i hi => f i (by omega) (by omega) (by omega) (by omega) (by omega)), t3, t4⟩, jTr.up (fun i hi => f i (by omega) (by omega) (by omega) (by omega) (by omega)), jz, jto, jch, jio, jP.up (fun i hi => f i (by omega) (by omega) (by omega) (by omega) (by omega)), jps, jal, ja0⟩
end LWI
/-! one row more -/
theorem mC_add (n : Nat) (cl : Nat → Nat) (k : Nat) : va_up (mC n cl) k (mC n cl k ||| 2 ^ n) = mC (n + 1) (va_up cl n k) := by
  funext j
  have hr : mk n (fun r => decide (va_up cl n k r = j)) = mC n cl j := mk_congr n (fun i hi => by rw [va_up_ne _ _ (show i ≠ n by omega)])
  show _ = (if decide (va_up cl n k n = j) = true then mk n (fun r => decide (va_up cl n k r = j)) ||| 2 ^ n else mk n (fun r => decide (va_up cl n k r = j)))
  rw [hr, va_up_self]
  by_cases e : j = k
  · subst e
    rw [va_up_self, if_pos (decide_eq_true rfl)]
  · rw [va_up_ne _ _ e, if_neg (by rw [decide_eq_false (fun q => e q.symm)]; decide)]
theorem tk_or {so : Nat → Nat} {a : Nat → Int} (h : tks so a = true) (x : Nat) (hx : x < 4) : a x = -1 ∨ 0 ≤ a x := by
  unfold tks at h
  simp only [Bool.and_eq_true] at h
  have key : ∀ s v, tk s v = true → v = -1 ∨ 0 ≤ v := by
    intro s v q
    unfold tk at q
    by_cases e : v = -1
    · exact Or.inl e
    · right
      simp [e] at q
      omega
  match x, hx with
  | 0, _ => exact key _ _ h.1.1.1
  | 1, _ => exact key _ _ h.1.1.2
  | 2, _ => exact key _ _ h.1.2
  | 3, _ => exact key _ _ h.2
theorem mK_add (n : Nat) (val : Nat → Nat → Int) {so : Nat → Nat} {a : Nat → Int} (ha : tks so a = true) : adK (2 ^ n) a (mK n val) 4 = mK (n + 1) (va_up val n (adV a (val n) 4)) := by
  funext x
  have hr : mk n (fun r => decide (x < 4) && decide (0 ≤ va_up val n (adV a (val n) 4) r x)) = mK n val x := mk_congr n (fun i hi => by rw [va_up_ne _ _ (show i ≠ n by omega)])
  show (if x < 4 ∧ ¬ a x = -1 then mK n val x ||| 2 ^ n else mK n val x) = (if (decide (x < 4) && decide (0 ≤ va_up val n (adV a (val n) 4) n x)) = true then mk n (fun r => decide (x < 4) && decide (0 ≤ va_up val n (adV a (val n) 4) r x)) ||| 2 ^ n else mk n (fun r => decide (x < 4) && decide (0 ≤ va_up val n (adV a (val n) 4) r x)))
  rw [hr, va_up_self]
  by_cases hx : x < 4
  · have e : adV a (val n) 4 x = a x := by unfold adV; rw [if_pos hx]
    rw [e]
    rcases tk_or ha x hx with q | q
    · rw [if_neg (fun w => w.2 q), if_neg (by rw [q]; simp)]
    · rw [if_pos ⟨hx, by omega⟩, if_pos (by simp [hx, q])]
  · rw [if_neg (fun w => hx w.1), if_neg (by simp [hx])]
theorem mLf_add (n : Nat) (val : Nat → Nat → Int) {so : Nat → Nat} {a : Nat → Int} (ha : tks so a = true) : adL so (2 ^ n) a (mLf n val so) 4 = mLf (n + 1) (va_up val n (adV a (val n) 4)) so := by
  funext x j
  have hr : mk n (fun r => decide (x < 4) && decide (j < lstN (so x)) && decide (0 ≤ va_up val n (adV a (val n) 4) r x) && lfP (so x) j (va_up val n (adV a (val n) 4) r x).toNat) = mLf n val so x j := mk_congr n (fun i hi => by rw [va_up_ne _ _ (show i ≠ n by omega)])
  show (if x < 4 ∧ ¬ a x = -1 then enL (so x) (a x).toNat (2 ^ n) (lstN (so x)) (mLf n val so x) else mLf n val so x) j = (if (decide (x < 4) && decide (j < lstN (so x)) && decide (0 ≤ va_up val n (adV a (val n) 4) n x) && lfP (so x) j (va_up val n (adV a (val n) 4) n x).toNat) = true then mk n (fun r => decide (x < 4) && decide (j < lstN (so x)) && decide (0 ≤ va_up val n (adV a (val n) 4) r x) && lfP (so x) j (va_up val n (adV a (val n) 4) r x).toNat) ||| 2 ^ n else mk n (fun r => decide (x < 4) && decide (j < lstN (so x)) && decide (0 ≤ va_up val n (adV a (val n) 4) r x) && lfP (so x) j (va_up val n (adV a (val n) 4) r x).toNat))
  rw [hr, va_up_self]
  by_cases hx : x < 4
  · have e : adV a (val n) 4 x = a x := by unfold adV; rw [if_pos hx]
    rw [e]
    rcases tk_or ha x hx with q | q
    · rw [if_neg (fun w => w.2 q), if_neg (by rw [q]; simp)]
    · rw [if_pos ⟨hx, by omega⟩]
      show (if j < lstN (so x) ∧ lfP (so x) j (a x).toNat = true then mLf n val so x j ||| 2 ^ n else mLf n val so x j) = _
      by_cases g : j < lstN (so x) ∧ lfP (so x) j (a x).toNat = true
      · rw [if_pos g, if_pos (by simp [hx, q, g.1, g.2])]
      · rw [if_neg g, if_neg (by simp only [hx, q, decide_true, Bool.true_and, Bool.and_true, Bool.and_eq_true, decide_eq_true_eq]; exact g)]
  · rw [if_neg (fun w => hx w.1), if_neg (by simp [hx])]
/-! no row -/
theorem mC_nil {n : Nat} {cl : Nat → Nat} (hcl : ∀ r, cl r < 3) : va_up (va_up (va_up (mC n cl) 0 0) 1 0) 2 0 = mC 0 cl := by
  funext j
  show _ = 0
  by_cases e2 : j = 2
  · subst e2; rw [va_up_self]
  rw [va_up_ne _ _ e2]
  by_cases e1 : j = 1
  · subst e1; rw [va_up_self]
  rw [va_up_ne _ _ e1]
  by_cases e0 : j = 0
  · subst e0; rw [va_up_self]
  rw [va_up_ne _ _ e0]
  exact mk_none n (fun i _ => decide_eq_false (by have := hcl i; omega))
theorem mK_nil {n : Nat} {val : Nat → Nat → Int} : zrN 4 (mK n val) = mK 0 val := by
  funext j
  show (if j < 4 then 0 else mK n val j) = 0
  by_cases e : j < 4
  · rw [if_pos e]
  · rw [if_neg e]; exact mk_none n (fun i _ => by simp [e])
theorem lstN_le (s : Nat) : lstN s ≤ 101 := by unfold lstN; split <;> decide
theorem mLf_nil {n : Nat} {val : Nat → Nat → Int} {so : Nat → Nat} : zrL 4 (mLf n val so) = mLf 0 val so := by
  funext x j
  show (if x < 4 then zrN 101 (mLf n val so x) else mLf n val so x) j = 0
  by_cases e : x < 4
  · rw [if_pos e]
    show (if j < 101 then 0 else mLf n val so x j) = 0
    by_cases g : j < 101
    · rw [if_pos g]
    · rw [if_neg g]; exact mk_none n (fun i _ => by have := lstN_le (so x); simp [show ¬ j < lstN (so x) by omega])
  · rw [if_neg e]; exact mk_none n (fun i _ => by simp [e])
theorem kItr_0 {so rC rK : Nat → Nat} {rL : Nat → Nat → Nat} {le de wo t : Nat} {s0 : gS} (h1 : s0.1 = 1) (h5 : s0.2.1 0 5 = 0) : ∀ k, kItr so rC rK rL le de wo t s0 k = s0
  | 0 => rfl
  | k + 1 => by
    have h := kItr_0 (so := so) (rC := rC) (rK := rK) (rL := rL) (le := le) (de := de) (wo := wo) (t := t) h1 h5 k
    show (if k < (kItr so rC rK rL le de wo t s0 k).1 then kStp so rC rK rL le de wo t (kItr so rC rK rL le de wo t s0 k) k else kItr so rC rK rL le de wo t s0 k) = s0
    rw [h]
    by_cases g : k < s0.1
    · have e : k = 0 := by omega
      subst e
      rw [if_pos g]
      unfold kStp
      rw [if_neg]
      unfold kDue
      rw [h5]
      simp
    · rw [if_neg g]
theorem cTr_0 (so rC rK : Nat → Nat) (rL : Nat → Nat → Nat) (le de wo : Nat) : cTr so rC rK rL le de wo 0 = gStart rC (fun _ _ => 0) (fun _ => none) 0 := by
  unfold cTr gAll
  refine kItr_0 rfl ?_ 47
  show ((cnt 0 : Nat) : Int) - ((kCnt rC 0 (kLab rC 0) : Nat) : Int) = 0
  unfold kCnt
  rw [Nat.zero_and, cnt_0]
  rfl
theorem moB_so {so so2 rC rK rK2 : Nat → Nat} {rL rL2 : Nat → Nat → Nat} {le de wo : Nat} {S : Nat → Int} {Q : Nat → Nat → Int} (h : moB so rC rK rL le de wo 0 S Q) : moB so2 rC rK2 rL2 le de wo 0 S Q := by
  obtain ⟨s, e, h⟩ := h
  have e1 : s = gStart rC (fun _ _ => 0) (fun _ => none) 0 := e.trans (cTr_0 so rC rK rL le de wo)
  exact ⟨s, e1.trans (cTr_0 so2 rC rK2 rL2 le de wo).symm, h⟩
theorem dTab_add {n : Nat} {val : Nat → Nat → Int} {cl so : Nat → Nat} (hD : dTab n val cl so) (hn : n < 24) {a : Nat → Int} (ha : tks so a = true) {k : Nat} (hk : k < 3) : dTab (n + 1) (va_up val n (adV a (val n) 4)) (va_up cl n k) so := by
  refine ⟨by omega, fun r hr => ?_, fun r => ?_, hD.2.2.2⟩
  · by_cases e : r = n
    · subst e
      rw [va_up_self]
      exact ha
    · rw [va_up_ne _ _ e]
      exact hD.2.1 r (by omega)
  · by_cases e : r = n
    · subst e; rw [va_up_self]; exact hk
    · rw [va_up_ne _ _ e]; exact hD.2.2.1 r
theorem dTab_nil {n : Nat} {val : Nat → Nat → Int} {cl so : Nat → Nat} (hD : dTab n val cl so) : dTab 0 val cl so := ⟨by decide, fun r hr => absurd hr (Nat.not_lt_zero r), hD.2.2.1, hD.2.2.2⟩
theorem dTab_so {val : Nat → Nat → Int} {cl so : Nat → Nat} (hD : dTab 0 val cl so) (c : Nat) {s : Nat} (hs : s < 2) : dTab 0 val cl (va_up so c s) := ⟨by decide, fun r hr => absurd hr (Nat.not_lt_zero r), hD.2.2.1, fun x => by
  by_cases e : x = c
  · subst e; rw [va_up_self]; exact hs
  · rw [va_up_ne _ _ e]; exact hD.2.2.2 x⟩
theorem moB_S {so rC rK : Nat → Nat} {rL : Nat → Nat → Nat} {le de wo n : Nat} {S Sv : Nat → Int} {Q : Nat → Nat → Int} (e : ∀ i, i ≠ 8 → i ≠ 9 → Sv i = S i) (h : S 7 = 0 ∨ (S 7 = 1 ∧ moB so rC rK rL le de wo n S Q)) : Sv 7 = 0 ∨ (Sv 7 = 1 ∧ moB so rC rK rL le de wo n Sv Q) := by
  rcases h with h | ⟨h, s, e1, a, b, k, c, d⟩
  · exact Or.inl ((e 7 (by decide) (by decide)).trans h)
  · exact Or.inr ⟨(e 7 (by decide) (by decide)).trans h, s, e1, (e 15 (by decide) (by decide)).trans a, b, k, (e 26 (by decide) (by decide)).trans c, d⟩
