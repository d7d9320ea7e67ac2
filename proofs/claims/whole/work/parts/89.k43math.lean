/-! THE OBJECT AT OTHER ADDRESSES: where the cells that it has keep theirs -/
section ADL
variable {G : xG} {ad ad' : Nat → Nat} {σ : xF} {n : Nat} {val : Nat → Nat → Int} {cl so rC rK : Nat → Nat} {rL : Nat → Nat → Nat} {de le wo : Nat} {cg lo : Int} {ak : Nat → Int} {sz : Nat} {T : Nat → Nat → Int} {ch : Nat → Option Nat} {ps : Nat} {lc ws al be : Nat → Int}
theorem pTre_L {t : Nat} (ht : t ≤ 1) (hc : chOk t ch) (e : ∀ i, i < 358 → ad' i = ad i) (h : pTre G ad σ t sz T ch) : pTre G ad' σ t sz T ch := by
  obtain ⟨a1, a2, a3⟩ := h
  have e0 : (fun n => if n < 47 then some (ad (76 + 141 * t + 3 * n)) else none) = (fun n => if n < 47 then some (ad' (76 + 141 * t + 3 * n)) else none) := by
    funext n
    by_cases q : n < 47
    · rw [if_pos q, if_pos q, e (76 + 141 * t + 3 * n) (by omega)]
    · rw [if_neg q, if_neg q]
  refine ⟨?_, by rw [a2, e0], fun n hn => ?_⟩
  · rw [e 1 (by decide), e 2 (by decide), e 3 (by decide), e (18 + t) (by omega), e (76 + 141 * t) (by omega)]
    exact a1
  · obtain ⟨b1, b2, b3⟩ := a3 n hn
    refine ⟨?_, ?_, b3⟩
    · rw [b1]
      unfold nodE
      rw [e (76 + 141 * t + 3 * n + 1) (by omega)]
      cases hq : ch n with
      | none => rfl
      | some q =>
        obtain ⟨m, m1, m2, m3⟩ := hc n q hn hq
        have x1 : lC ad' (some q) = lC ad (some q) := by
          show Value.ref (ad' q) = Value.ref (ad q)
          rw [e q (by omega)]
        have x2 : lC ad' ((some q).map (fun q => q + 3)) = lC ad ((some q).map (fun q => q + 3)) := by
          show Value.ref (ad' (q + 3)) = Value.ref (ad (q + 3))
          rw [e (q + 3) (by omega)]
        rw [x1, x2]
    · unfold pCut
      rw [e (76 + 141 * t + 3 * n + 2) (by omega)]
      exact b2
theorem bsP_ne (hI : bsP G ad σ n val cl so rC rK rL de le wo cg lo ak sz T ch ps lc ws al be) (i : Nat) (hi : i < 358) : σ i ≠ fNo := by
  obtain ⟨j0, jT, jL, jS, ⟨B, jO1, ⟨c0, n0, s0, jO2⟩, ⟨x0, y0, jO3⟩, jO4, jO5, jO6⟩, ⟨jg, jgi⟩, ⟨sz1, T1, ch1, t1, t2, t3, t4⟩, jTr, jz, jto, jch, jio, jP, jps, jal, ja0⟩ := hI
  by_cases q0 : i = 0
  · rw [q0, j0]; exact eO_ne (by decide)
  by_cases q1 : i = 1 ∨ (12 ≤ i ∧ i ≤ 17) ∨ (24 ≤ i ∧ i ≤ 51)
  · exact pTab_ne jT q1
  by_cases q2 : i = 2
  · rw [q2, jL]; exact eO_ne (by decide)
  by_cases q3 : i = 3
  · rw [q3, jS]; exact eO_ne (by decide)
  by_cases q4 : i = 4
  · rw [q4, jO2]; exact eO_ne (by decide)
  by_cases q5 : i = 5
  · rw [q5, jO3]; exact eO_ne (by decide)
  by_cases q6 : i = 6
  · rw [q6, jO4]; exact eO_ne (by decide)
  by_cases q7 : i = 7
  · rw [q7, jO5]; exact eO_ne (by decide)
  by_cases q8 : i = 8 + 0 ∨ i = 18 + 0 ∨ (76 + 141 * 0 ≤ i ∧ i < 217 + 141 * 0)
  · exact pTre_ne (by decide) jTr q8
  by_cases q9 : i = 8 + 1 ∨ i = 18 + 1 ∨ (76 + 141 * 1 ≤ i ∧ i < 217 + 141 * 1)
  · exact pTre_ne (by decide) t2 q9
  by_cases q10 : i = 10 ∨ (20 ≤ i ∧ i ≤ 23) ∨ (52 ≤ i ∧ i ≤ 75)
  · exact pPru_ne jP q10
  have q11 : i = 11 := by omega
  rw [q11, jg]; exact eJ_ne
theorem bsP_ad (hI : bsP G ad σ n val cl so rC rK rL de le wo cg lo ak sz T ch ps lc ws al be) (hx : exA σ ad ad') : bsP G ad' σ n val cl so rC rK rL de le wo cg lo ak sz T ch ps lc ws al be := by
  have e : ∀ i, i < 358 → ad' i = ad i := fun i hi => hx i (by omega) (bsP_ne hI i hi)
  have n8 := bsP_ne hI 8 (by decide)
  obtain ⟨j0, jT, jL, jS, ⟨B, jO1, ⟨c0, n0, s0, jO2⟩, ⟨x0, y0, jO3⟩, jO4, jO5, jO6⟩, ⟨jg, jgi⟩, ⟨sz1, T1, ch1, t1, t2, t3, t4⟩, jTr, jz, jto, jch, jio, jP, jps, jal, ja0⟩ := hI
  refine ⟨?_, pTab_ad jT hx, jL, ?_, ⟨B, jO1, ⟨c0, n0, s0, ?_⟩, ⟨x0, y0, jO3⟩, ?_, jO5, jO6⟩, ⟨jg, jgi⟩, ⟨sz1, T1, ch1, t1, pTre_L (by decide) t4 e t2, t3, t4⟩, pTre_L (by decide) jch e jTr, jz, jto, jch, jio, pPru_ad jP hx n8, jps, jal, ja0⟩
  · rw [j0]
    unfold bsE
    rw [e 1 (by decide), e 2 (by decide), e 3 (by decide), e 8 (by decide), e 9 (by decide), e 10 (by decide), e 11 (by decide)]
  · unfold pSur; rw [e 4 (by decide), e 6 (by decide), e 1 (by decide), e 2 (by decide)]; exact jS
  · unfold pCut; rw [e 5 (by decide)]; exact jO2
  · unfold pCut; rw [e 7 (by decide)]; exact jO4
end ADL
theorem lwC_0 {G : xG} {ad : Nat → Nat} {σ : xF} : ∀ {d : xD}, lwC G ad σ d → ∃ fs, σ 0 = eO 8 fs
  | (n, val, cl, so, de, le, wo), h => by
    obtain ⟨-, cg, lo, ak, sz, T, ch, ps, lc, ws, al, be, hI, -⟩ := h
    exact ⟨_, hI.1⟩
theorem lwM_0 {G : xG} {ad : Nat → Nat} {σ : xF} : ∀ {d : xD}, lwM G ad σ d → ∃ fs, σ 358 = eO 9 fs
  | (n, val, cl, so, de, le, wo), h => by
    obtain ⟨-, S, Q, hM, -⟩ := h
    exact ⟨_, hM.1⟩
/-- the data of a new object -/
def dZ : xD := (0, (fun _ _ => 0), (fun _ => 0), (fun _ => 0), 3, 1, 0)
theorem dZ_gd : dGd 0 (fun _ _ => 0) (fun _ => 0) (fun _ => 0) 3 1 0 := ⟨⟨by decide, fun r h => absurd h (Nat.not_lt_zero r), fun _ => (show 0 < 3 by decide), fun _ => (show 0 < 2 by decide)⟩, ⟨by decide, by decide⟩, by decide, by decide⟩
/-! THE LAW'S START: the classes and the arrays that the tables tell of -/
theorem kn_of {own : String} {idx ci N : Nat} {fs : List Value} (h : NewA own idx ci N fs) {args : Array Value} {s : State} (hts : ∀ w ∈ zT, w.before args s = true) : ∃ (cC : ClassId) (iS : Nat → Nat), ∀ q : vw_C, zCl[ci]? = some q → u_Kn s q.1 q.2.1 q.2.2 cC iS := by
  obtain ⟨C, T, ty0, h1, h2, h3, h4, h5, h6, h7, h8⟩ := h
  obtain ⟨cC, iS, hk⟩ := u_known hts h3 (hts _ h7)
  refine ⟨cC, iS, fun q hq => ?_⟩
  rw [h1] at hq
  cases hq
  exact hk
theorem cls_of {args : Array Value} {s : State} (hts : ∀ w ∈ zT, w.before args s = true) : ∃ (dC : Nat → ClassId) (dI : Nat → Nat → Nat), ∀ (k : Nat) (q : vw_C), zCl[k]? = some q → u_Kn s q.1 q.2.1 q.2.2 (dC k) (dI k) := by
  have key : ∀ k : Nat, ∃ x : ClassId × (Nat → Nat), ∀ q : vw_C, zCl[k]? = some q → u_Kn s q.1 q.2.1 q.2.2 x.1 x.2 := by
    have one : ∀ {own : String} {idx ci N : Nat} {fs : List Value}, NewA own idx ci N fs → ∃ x : ClassId × (Nat → Nat), ∀ q : vw_C, zCl[ci]? = some q → u_Kn s q.1 q.2.1 q.2.2 x.1 x.2 := fun h => by
      obtain ⟨a, b, c⟩ := kn_of h hts
      exact ⟨(a, b), c⟩
    intro k
    match k with
    | 0 => exact one nw_Sur_9
    | 1 => exact one nw_Cut_7
    | 2 => exact one nw_Bs_16
    | 3 => exact one nw_Tre_9
    | 4 => exact one nw_Bs_44
    | 5 => exact one nw_Bs_23
    | 6 => exact one nw_Bs_9
    | 7 => exact one nw_Bs_32
    | 8 => exact one nw_Law_7
    | 9 => exact one nw_Law_10
    | k + 10 =>
      obtain ⟨x, -⟩ := one nw_Law_10
      exact ⟨x, fun q hq => by
        have : zCl[k + 10]? = none := List.getElem?_eq_none (by show 10 ≤ k + 10; omega)
        rw [this] at hq
        cases hq⟩
  exact ⟨fun k => (Classical.choose (key k)).1, fun k => (Classical.choose (key k)).2, fun k => Classical.choose_spec (key k)⟩
theorem arr_of {args : Array Value} {s : State} (hts : ∀ w ∈ zT, w.before args s = true) (hN : ∀ w ∈ zN, va_Nw w s) : ∃ g : Nat → ClassId, ∀ (D : va_G) (k : Nat) (q : ClassId × FieldType), (xt (D, g))[k]? = some q → ArrOfT s q.1 q.2 ∧ va_RA s q.1 q.2 := by
  obtain ⟨c0, k0, p0, a1, a2, a3⟩ := Cond.arrayClass_spec (hts (.arrayClass .int) (mT 97 (by decide +kernel) rfl))
  obtain ⟨c4, k4, p4, b1, b2, b3⟩ := Cond.arrayClass_spec (hts (.arrayClass .long) (mT 757 (by decide +kernel) rfl))
  obtain ⟨p1, c1, k1, d1, d2, d3, d4, d5⟩ := aoA_spec (hN (.arrayOver (.array .int)) (mN 1 rfl))
  obtain ⟨p2, c2, k2, e1, e2, e3, e4, e5⟩ := Cond.arrayOver_spec (hN (.arrayOver (.object "BestSplits$Node")) (mN 5 rfl))
  obtain ⟨p3, c3, k3, f1, f2, f3, f4, f5⟩ := Cond.arrayOver_spec (hN (.arrayOver (.object "BestSplits$Fraction")) (mN 8 rfl))
  refine ⟨fun i => if i = 0 then c0 else if i = 1 then c1 else if i = 2 then c2 else if i = 3 then c3 else c4, fun D k q hq => ?_⟩
  match k, hq with
  | 0, hq => cases hq; exact ⟨fun n z => ⟨fun k h => (by cases h), k0, a2, p0, a3⟩, a1⟩
  | 1, hq => cases hq; exact ⟨fun n z => ⟨fun k h => (by cases h), k1, d3, p1, d4⟩, d5⟩
  | 2, hq => cases hq; exact ⟨fun n z => ⟨fun k h => (by cases h), k2, e3, p2, e4⟩, k2, p2, e3, e4, e1, e5⟩
  | 3, hq => cases hq; exact ⟨fun n z => ⟨fun k h => (by cases h), k3, f3, p3, f4⟩, k3, p3, f3, f4, f1, f5⟩
  | 4, hq => cases hq; exact ⟨fun n z => ⟨fun k h => (by cases h), k4, b2, p4, b3⟩, b1⟩
  | k + 5, hq => cases hq
theorem zN_bare {args : Array Value} {s : State} (h : ∀ w ∈ zN, w.before args s = true) : ∀ w ∈ zN, va_Nw w s := by
  intro w hw
  have h0 := h w hw
  unfold zN at hw
  simp only [List.mem_cons, List.not_mem_nil, or_false] at hw
  rcases hw with rfl | rfl | rfl | rfl | rfl | rfl | rfl | rfl | rfl | rfl | rfl | rfl
  all_goals exact h0
/-! the script -/
def lwX (X : xT) (b L : Nat) (xs : Nat → Int32) : Prop := match X with
  | (p, l, e, R, s, m, args, below, meth, c, A, H0, n0, Q) => va_X b L xs s H0 ∧ b < H0.size ∧ ¬ A b
section LWV
variable {G : xG} {X : xT} {kc ks pc : Nat} {lv : List (Nat × Value)} {st : List Value} {f : xF} {cc : ByteArray} {y : MethodName} {nL : Nat} {rm : Room}
theorem iv_back (x : Int32) : iv x.toInt = x := by unfold iv; exact Int32.ofInt_toInt x
theorem ir_back (x : Int32) : ir x.toInt := ⟨Int32.le_toInt x, by have := Int32.toInt_lt x; omega⟩
theorem v_sld (h : xOk G X cc y nL rm) {b L : Nat} {xs : Nat → Int32} (hS : lwX X b L xs) (hL : L ≤ 3072) {z : Int} (i : Nat) (hz : z = i) (hi : i < L) (hdg : decode cc pc = .ok (.iaload, 1)) (k : vV G X kc ks (pc + 1) lv (.int (iv (xs i).toInt) :: st) f) : vV G X kc ks pc lv (.int (iv z) :: .ref b :: st) f := by
  obtain ⟨p, l, e, R, s, m, args, below, meth, c, A, H0, n0, Q⟩ := X
  obtain ⟨hx, hb, rfl, hml, hown, hts, hN, hK, hA, hR, hnm⟩ := h
  obtain ⟨x1, x2, x3⟩ := hS
  intro L2 H locs ls h1 h2 h3 h4 h5
  obtain ⟨b1, b2⟩ := iv_in hz hi (by omega)
  have k2 := k L2 H locs ls h1 h2 h3 h4 h5
  rw [iv_back] at k2
  exact va_sld hx hb x1 x2 x3 h4 b1 hdg (by rw [b2]; exact k2)
theorem v_slen (h : xOk G X cc y nL rm) {b L : Nat} {xs : Nat → Int32} (hS : lwX X b L xs) (hdg : decode cc pc = .ok (.arraylength, 1)) (k : vV G X kc ks (pc + 1) lv (.int (iv (L : Int)) :: st) f) : vV G X kc ks pc lv (.ref b :: st) f := by
  obtain ⟨p, l, e, R, s, m, args, below, meth, c, A, H0, n0, Q⟩ := X
  obtain ⟨hx, hb, rfl, hml, hown, hts, hN, hK, hA, hR, hnm⟩ := h
  obtain ⟨x1, x2, x3⟩ := hS
  intro L2 H locs ls h1 h2 h3 h4 h5
  have k2 := k L2 H locs ls h1 h2 h3 h4 h5
  rw [iv_nat] at k2
  exact va_slen hx hb x1 x2 x3 h4 hdg k2
end LWV
theorem iv_bits (x : Int32) : x = iv ((x.toBitVec.toNat : Nat) : Int) := by
  unfold iv
  refine Int32.toBitVec_inj.mp ?_
  simp
theorem and31 (x : Int32) : ∃ z : Int, x &&& iv 31 = iv z ∧ 0 ≤ z ∧ z ≤ 31 := by
  refine ⟨((x.toBitVec.toNat &&& 31 : Nat) : Int), ?_, by omega, ?_⟩
  · have h := iv_and x.toBitVec.toNat 31
    rw [← iv_bits x] at h
    exact h
  · have : x.toBitVec.toNat &&& 31 ≤ 31 := Nat.and_le_right
    omega
