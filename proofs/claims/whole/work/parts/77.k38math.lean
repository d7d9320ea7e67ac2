/-! FROM THE CLASS'S GROWN TREE TO THE ANSWERS -/
def cAl (s : gS) : Nat → Int := fun j => if j = 0 then 0 else (yA s.2.2 s.1 s.2.1 (j - 1)).1
def cBe (s : gS) : Nat → Int := fun j => if j = 0 then 1 else (yA s.2.2 s.1 s.2.1 (j - 1)).2
/-- the class's numbers are those of the tree s -/
def bCan (s : gS) (sz : Nat) (T : Nat → Nat → Int) (ch : Nat → Option Nat) (ps : Nat) (lc ws al be : Nat → Int) : Prop :=
  sz = s.1 ∧ (∀ x, x < sz → ch x = s.2.2 x ∧ (∀ j, 2 ≤ j → j ≤ 5 → T x j = s.2.1 x j) ∧ (¬ ch x = none → ∀ j, 12 ≤ j → j ≤ 16 → T x j = s.2.1 x j)) ∧ isE s.1 s.2.1 s.2.2 ps ∧
  (∀ j x : Nat, j < ps → x < sz → stF T (j : Int) x = stF (yT s.2.2 s.1 s.2.1 j) (j : Int) x) ∧ (∀ j, j < ps → lc j = yU s.2.2 s.1 s.2.1 j 0 10 ∧ ws j = yU s.2.2 s.1 s.2.1 j 0 11 ∧ al j = cAl s j ∧ be j = cBe s j)
theorem blt_can {n : Nat} {val : Nat → Nat → Int} {cl so : Nat → Nat} {le de wo : Nat} (hde : de ≤ 5) (hn : n ≤ 24) (hcl : ∀ r, cl r < 3) (hle : 1 ≤ le) {sz : Nat} {T : Nat → Nat → Int} {ch : Nat → Option Nat} {ps : Nat} {lc ws al be : Nat → Int} (h : blt so (mC n cl) (mK n val) (mLf n val so) le de wo n sz T ch ps lc ws al be) : bCan (cTr so (mC n cl) (mK n val) (mLf n val so) le de wo (2 ^ n - 1)) sz T ch ps lc ws al be := by
  have hr : 2 ^ n - 1 < 2 ^ n := by have h2 : 0 < 2 ^ n := Nat.two_pow_pos n; omega
  obtain ⟨T0, ch0, lc0, ws0, al0, be0, p, t1, t2, a0, b0, e1, e2, e3⟩ := h
  obtain ⟨g, hg⟩ : ∃ g, g = gAll so (mC n cl) (mK n val) (mLf n val so) le de wo 0 T0 ch0 (2 ^ n - 1) := ⟨_, rfl⟩
  rw [← hg] at e1 e2 e3
  obtain ⟨c, hc⟩ : ∃ c, c = cTr so (mC n cl) (mK n val) (mLf n val so) le de wo (2 ^ n - 1) := ⟨_, rfl⟩
  rw [← hc]
  have hE2 : gE 0 0 g c := by rw [hg, hc]; exact gE_all so (mC n cl) (mK n val) (mLf n val so) le de wo 0 0 T0 tZ ch0 cZ (2 ^ n - 1)
  have htg := trO_all hde hn hcl hle t1 t2 hr hg
  have htc := cTr_t hde hn hcl hle hr hc
  subst e1 e2
  obtain ⟨gs, gr⟩ := hE2
  have gch : ∀ x, x < g.1 → g.2.2 x = c.2.2 x := fun x hx => by
    rcases (gr x hx).2.1 with ⟨q1, q2⟩ | ⟨m, q1, q2⟩
    · rw [q1, q2]
    · rw [q1, q2]
  have g5 : ∀ x, x < g.1 → g.2.1 x 5 = c.2.1 x 5 := fun x hx => (gr x hx).1 5 (by decide) (by decide)
  obtain ⟨E, hEg⟩ := isE_ex htg
  obtain ⟨Z, hZ, z2, z3, z4, z5, z6⟩ := kStg_end (lc0 := lc0) (ws0 := ws0) (al0 := al0) (be0 := be0) htg hEg
  rw [e3] at hZ
  subst hZ
  have z2 : ps = E := z2
  have z3 : T = yU g.2.2 g.1 g.2.1 (E - 1) := z3
  have z4 : ∀ j, j < E → lc j = yU g.2.2 g.1 g.2.1 j 0 10 ∧ ws j = yU g.2.2 g.1 g.2.1 j 0 11 := z4
  have z5 : al 0 = al0 0 ∧ be 0 = be0 0 := z5
  have z6 : ∀ j, j + 1 < E → al (j + 1) = (yA g.2.2 g.1 g.2.1 j).1 ∧ be (j + 1) = (yA g.2.2 g.1 g.2.1 j).2 := z6
  rw [a0, b0] at z5
  have hd := htg.2.1
  have s1 := htg.1.1
  have zT : zEq g.2.1 T := by
    rw [z3]
    exact zEq_sum (yT_sI htg (E - 1) (by have := hEg.1; have := hEg.2.1; omega)).1 _ _ _ _
  have sc : ∀ k (j : Int) x, x < g.1 → stR (yT g.2.2 g.1 g.2.1 k x) j = stR (yT c.2.2 g.1 c.2.1 k x) j := fun k j x hx => stR_c hd gch g5 k j hx
  have hEc : isE g.1 c.2.1 c.2.2 E := by
    obtain ⟨q1, q2, q3, q4⟩ := hEg
    exact ⟨q1, q2, fun j hj => by rw [← sc j _ 0 (by omega)]; exact q3 j hj, by rw [← sc _ _ 0 (by omega)]; exact q4⟩
  have uc := fun k => yU_c hd gch g5 k 0 (by omega)
  have ac := fun k => yA_c hd gch g5 k
  subst z2
  refine ⟨gs, fun x hx => ⟨gch x hx, fun j h2 h5 => ?_, fun hne j h12 h16 => ?_⟩, ?_, fun j x hj hx => ?_, fun j hj => ⟨?_, ?_, ?_, ?_⟩⟩
  · rw [zT x j (by omega) (by omega) (by omega) (by omega)]
    exact (gr x hx).1 j h2 h5
  · rw [zT x j (by omega) (by omega) (by omega) (by omega)]
    exact (gr x hx).2.2 hne j h12 h16
  · rw [← gs]; exact hEc
  · rw [← gs]
    have a1 : stF T (j : Int) x = stR (yT g.2.2 g.1 g.2.1 (ps - 1) x) (j : Int) := by
      rw [z3]
      show stR (yU g.2.2 g.1 g.2.1 (ps - 1) x) (j : Int) = _
      unfold stR
      have e8 : yU g.2.2 g.1 g.2.1 (ps - 1) x 8 = yT g.2.2 g.1 g.2.1 (ps - 1) x 8 := kSum_hi _ _ _ _ _ _ (by decide) _
      have e9 : yU g.2.2 g.1 g.2.1 (ps - 1) x 9 = yT g.2.2 g.1 g.2.1 (ps - 1) x 9 := kSum_hi _ _ _ _ _ _ (by decide) _
      rw [e8, e9]
    rw [a1]
    have a2 := yT_stR htg x j (ps - 1 - j)
    rw [show j + (ps - 1 - j) = ps - 1 by omega] at a2
    rw [a2]
    exact sc j _ x hx
  · rw [← gs, (z4 j hj).1]; exact (uc j).2.2.2.1
  · rw [← gs, (z4 j hj).2]; exact (uc j).2.2.2.2
  · unfold cAl
    rw [← gs]
    by_cases q : j = 0
    · rw [if_pos q, q]; exact z5.1
    · rw [if_neg q, ← ac]
      have := (z6 (j - 1) (by omega)).1
      rw [show j - 1 + 1 = j by omega] at this
      exact this
  · unfold cBe
    rw [← gs]
    by_cases q : j = 0
    · rw [if_pos q, q]; exact z5.2
    · rw [if_neg q, ← ac]
      have := (z6 (j - 1) (by omega)).2
      rw [show j - 1 + 1 = j by omega] at this
      exact this
/-- what the answers need -/
theorem bQ_of {n : Nat} {val : Nat → Nat → Int} {cl so : Nat → Nat} {le de wo : Nat} (hde : de ≤ 5) (hn : n ≤ 24) (hcl : ∀ r, cl r < 3) (hle : 1 ≤ le) : bQ so (mC n cl) (mK n val) (mLf n val so) le de wo n := fun sz T ch ps lc ws al be hb => by
  have hr : 2 ^ n - 1 < 2 ^ n := by have h2 : 0 < 2 ^ n := Nat.two_pow_pos n; omega
  have hc := blt_can hde hn hcl hle hb
  obtain ⟨c, hcc⟩ : ∃ c, c = cTr so (mC n cl) (mK n val) (mLf n val so) le de wo (2 ^ n - 1) := ⟨_, rfl⟩
  rw [← hcc] at hc
  have gi : gInv 0 c := by rw [hcc]; exact cTr_g hde hn hr
  have ni : nIv n so (mC n cl) (mK n val) (mLf n val so) le wo 0 c 47 := by rw [hcc]; exact cTr_n hn hcl hle hr
  have ht := cTr_t hde hn hcl hle hr hcc
  obtain ⟨rfl, hx, hE, -, hs⟩ := hc
  refine ⟨fun x hx1 => ?_, fun x hx1 hne => ?_, fun s hs1 => ?_, fun s hs1 => ?_⟩
  · obtain ⟨-, e, -⟩ := hx x hx1
    unfold gON
    rw [e 2 (by decide) (by decide), e 3 (by decide) (by decide), e 5 (by decide) (by decide), e 4 (by decide) (by decide), (ni.1 x hx1).2.2.1]
    have := kLab_lt (mC n cl) (c.2.1 x 2).toNat
    exact ⟨gi.1.2.2 x hx1, by omega⟩
  · obtain ⟨ec, -, e⟩ := hx x hx1
    have e := e hne
    cases hch : c.2.2 x with
    | none => exact absurd (ec.trans hch) hne
    | some q =>
      obtain ⟨c1, n1, s1, m1, -, -, -, -, hm, -, -, -, v15, v16, -⟩ := ni.2.2.2 x q hx1 hch
      obtain ⟨⟨ga0, ga1⟩, gb0, gb1⟩ := kGa (rC := mC n cl) hle hm
      refine ⟨(kAb (mC n cl) (mK n val) (mLf n val so) (c.2.1 x 2).toNat c1 n1 s1).toNat, kBe (mK n val) (mLf n val so) (c.2.1 x 2).toNat c1 n1 s1, ?_, ?_, gb0, by omega, gb1⟩
      · rw [e 15 (by decide) (by decide), v15]; omega
      · rw [e 16 (by decide) (by decide), v16]
  · obtain ⟨k, hk⟩ : ∃ k, ps = k + 1 := ⟨ps - 1, by have := hE.1; omega⟩
    subst hk
    obtain ⟨a, b, ea, eb, -, hb0, ha1, hb1⟩ := yA_ok gi ht hE (st := s) (by omega)
    obtain ⟨-, -, e3, e4⟩ := hs s hs1
    exact ⟨a, b, e3.trans ea, e4.trans eb, hb0, ha1, by omega⟩
  · obtain ⟨e1, e2, -, -⟩ := hs s hs1
    have h24 := hE.2.1
    have hsi := yT_sI ht s (by omega)
    obtain ⟨⟨u1, u2⟩, ⟨u3, u4⟩, -, u5⟩ := U_ok gi ht hsi.1 (s : Int) (x := 0) (by have := ht.1.1; omega)
    rw [e1, e2]
    unfold yU ir
    omega
/-- the class's label of the others' leaf is in range -/
theorem hLr_of {n : Nat} {val : Nat → Nat → Int} {cl so : Nat → Nat} {le de wo : Nat} (hde : de ≤ 5) (hn : n ≤ 24) (hcl : ∀ r, cl r < 3) (hle : 1 ≤ le) (r : Nat) (T1 : Nat → Nat → Int) (ch1 : Nat → Option Nat) (h1 : tOk T1) (h2 : chOk 1 ch1) : ir ((gAll so (mC n cl) (mK n val) (mLf n val so) le de wo 1 T1 ch1 (nd (2 ^ n - 1) (2 ^ r))).2.1 (kWh 1 so (val r) (gAll so (mC n cl) (mK n val) (mLf n val so) le de wo 1 T1 ch1 (nd (2 ^ n - 1) (2 ^ r))).2.1 (gAll so (mC n cl) (mK n val) (mLf n val so) le de wo 1 T1 ch1 (nd (2 ^ n - 1) (2 ^ r))).2.2 5 0) 4) := by
  have hr : nd (2 ^ n - 1) (2 ^ r) < 2 ^ n := Nat.lt_of_le_of_lt (nd_le _ _) (by have h2 : 0 < 2 ^ n := Nat.two_pow_pos n; omega)
  have hr24 : nd (2 ^ n - 1) (2 ^ r) < 16777216 := Nat.lt_of_lt_of_le hr (Nat.pow_le_pow_right (by decide) hn : 2 ^ n ≤ 2 ^ 24)
  obtain ⟨g, hg⟩ : ∃ g, g = gAll so (mC n cl) (mK n val) (mLf n val so) le de wo 1 T1 ch1 (nd (2 ^ n - 1) (2 ^ r)) := ⟨_, rfl⟩
  have gi : gInv 1 g := by rw [hg]; exact gInv_all hde h1 h2 hr24
  have ni : nIv n so (mC n cl) (mK n val) (mLf n val so) le wo 1 g 47 := by rw [hg]; exact nIv_all hn hcl hle T1 ch1 hr
  rw [← hg]
  have w := (gE_wh (s2 := g) ⟨rfl, fun n9 h9 => ⟨fun _ _ _ => rfl, (by
    cases hc : g.2.2 n9 with
    | none => exact Or.inl ⟨rfl, rfl⟩
    | some q => obtain ⟨m, e, -⟩ := gi.2.2.2 n9 q h9 hc; subst e; exact Or.inr ⟨m, rfl, rfl⟩), fun _ _ _ _ => rfl⟩⟩ gi.2.2.2 so (val r) 5 0 (by have := gi.1.1; omega)).2
  rw [(ni.1 _ w).2.2.1]
  have := kLab_lt (mC n cl) (g.2.1 (kWh 1 so (val r) g.2.1 g.2.2 5 0) 2).toNat
  exact ir_n (by omega)
/-! the answers in the tree's own numbers -/
section ANS
variable {s : gS} {sz : Nat} {T : Nat → Nat → Int} {ch : Nat → Option Nat} {ps : Nat} {lc ws al be : Nat → Int}
theorem an_node (h : bCan s sz T ch ps lc ws al be) (k wh : Int) : aNode sz T ch k wh = aNode s.1 s.2.1 s.2.2 k wh := by
  obtain ⟨e, hx, -⟩ := h
  subst e
  unfold aNode
  by_cases q : 0 ≤ k ∧ k < (s.1 : Int)
  · rw [if_pos q, if_pos q]
    obtain ⟨ec, e5, e16⟩ := hx k.toNat (by omega)
    rw [e5 2 (by decide) (by decide), e5 3 (by decide) (by decide), e5 4 (by decide) (by decide), e5 5 (by decide) (by decide)]
    cases hch : ch k.toNat with
    | none => rw [ec] at hch; rw [hch]
    | some q2 =>
      have e16 := e16 (by rw [hch]; exact fun e => by cases e)
      rw [ec] at hch
      rw [hch]
      dsimp only
      rw [e16 12 (by decide) (by decide), e16 13 (by decide) (by decide), e16 14 (by decide) (by decide)]
  · rw [if_neg q, if_neg q]
theorem an_count (h : bCan s sz T ch ps lc ws al be) (rC : Nat → Nat) (k c : Int) : aCount rC sz T k c = aCount rC s.1 s.2.1 k c := by
  obtain ⟨e, hx, -⟩ := h
  subst e
  unfold aCount
  by_cases q : (0 ≤ k ∧ k < (s.1 : Int)) ∧ 0 ≤ c ∧ c < 3
  · rw [if_pos q, if_pos q, (hx k.toNat (by omega)).2.1 2 (by decide) (by decide)]
  · rw [if_neg q, if_neg q]
theorem an_gain (h : bCan s sz T ch ps lc ws al be) (k p : Int) : aGain sz T ch k p = aGain s.1 s.2.1 s.2.2 k p := by
  obtain ⟨e, hx, -⟩ := h
  subst e
  unfold aGain
  by_cases q : 0 ≤ k ∧ k < (s.1 : Int)
  · rw [if_pos q, if_pos q]
    obtain ⟨ec, -, e16⟩ := hx k.toNat (by omega)
    by_cases qp : p = 0 ∨ p = 1
    · rw [if_pos qp, if_pos qp]
      by_cases q2 : ch k.toNat = none
      · rw [if_pos q2, if_pos (by rw [← ec]; exact q2)]
      · rw [if_neg q2, if_neg (by rw [← ec]; exact q2), e16 q2 15 (by decide) (by decide), e16 q2 16 (by decide) (by decide)]
    · rw [if_neg qp, if_neg qp]
  · rw [if_neg q, if_neg q]
theorem an_wh (h : bCan s sz T ch ps lc ws al be) (gi : gInv 0 s) (so : Nat → Nat) (a : Nat → Int) : kWh 0 so a T ch 5 0 = kWh 0 so a s.2.1 s.2.2 5 0 := by
  obtain ⟨e, hx, -⟩ := h
  have w := gE_wh (t := 0) (t2 := 0) (s := s) (s2 := (sz, T, ch)) ⟨e.symm, fun n hn => ⟨fun j h2 h5 => ((hx n (by omega)).2.1 j h2 h5).symm, (by
    have ec := (hx n (by omega)).1
    show cE 0 0 (s.2.2 n) (ch n)
    rw [ec]
    cases hc : s.2.2 n with
    | none => exact Or.inl ⟨rfl, rfl⟩
    | some q => obtain ⟨m, e, -⟩ := gi.2.2.2 n q hn hc; subst e; exact Or.inr ⟨m, rfl, rfl⟩), fun hne j h12 h16 => ((hx n (by omega)).2.2 (by rw [(hx n (by omega)).1]; exact hne) j h12 h16).symm⟩⟩ gi.2.2.2 so a 5 0 (by have := gi.1.1; omega)
  exact w.1.symm
theorem an_alpha (h : bCan s sz T ch ps lc ws al be) (st p : Int) : aAlpha ps al be st p = aAlpha ps (cAl s) (cBe s) st p := by
  obtain ⟨-, -, -, -, hs⟩ := h
  unfold aAlpha
  by_cases q : 0 ≤ st ∧ st < (ps : Int)
  · rw [if_pos q, if_pos q, (hs st.toNat (by omega)).2.2.1, (hs st.toNat (by omega)).2.2.2]
  · rw [if_neg q, if_neg q]
theorem an_lc (h : bCan s sz T ch ps lc ws al be) (st : Int) : aStg ps lc st = aStg ps (fun j => yU s.2.2 s.1 s.2.1 j 0 10) st := by
  obtain ⟨-, -, -, -, hs⟩ := h
  unfold aStg
  by_cases q : 0 ≤ st ∧ st < (ps : Int)
  · rw [if_pos q, if_pos q, (hs st.toNat (by omega)).1]
  · rw [if_neg q, if_neg q]
theorem an_ws (h : bCan s sz T ch ps lc ws al be) (st : Int) : aStg ps ws st = aStg ps (fun j => yU s.2.2 s.1 s.2.1 j 0 11) st := by
  obtain ⟨-, -, -, -, hs⟩ := h
  unfold aStg
  by_cases q : 0 ≤ st ∧ st < (ps : Int)
  · rw [if_pos q, if_pos q, (hs st.toNat (by omega)).2.1]
  · rw [if_neg q, if_neg q]
theorem an_state (h : bCan s sz T ch ps lc ws al be) (st x : Int) : aState sz T ps st x = aStateY s.1 s.2.1 s.2.2 ps st x := by
  obtain ⟨e, -, -, hst, -⟩ := h
  subst e
  unfold aState aStateY
  by_cases q : (0 ≤ x ∧ x < (s.1 : Int)) ∧ 0 ≤ st ∧ st < (ps : Int)
  · rw [if_pos q, if_pos q, ← hst st.toNat x.toNat (by omega) (by omega)]
    unfold stF
    rw [show ((st.toNat : Nat) : Int) = st by omega]
  · rw [if_neg q, if_neg q]
end ANS
