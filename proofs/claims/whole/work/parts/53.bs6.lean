/-! ROWS COME TO LEAVES, one CUT's GAIN, each ROW left out; by program -/
set_option maxHeartbeats 1000000 in
set_option maxRecDepth 100000 in
theorem m_Bs_leaf {G : xG} {f0 : xF} {ad : Nat → Nat} (hj : adOk ad 400) {σ : xF} {n : Nat} {val : Nat → Nat → Int} {cl so rC rK : Nat → Nat} {rL : Nat → Nat → Nat} {de le wo : Nat} {cg lo : Int} {ak : Nat → Int} {sz9 : Nat} {T9 : Nat → Nat → Int} {ch9 : Nat → Option Nat} {ps9 : Nat} {lc9 ws9 al9 be9 : Nat → Int} (hI : bsP G ad σ n val cl so rC rK rL de le wo cg lo ak sz9 T9 ch9 ps9 lc9 ws9 al9 be9) (hB : bTab n cl so rC rK rL) (hle : le ≤ 10) (hwo : wo ≤ 1000) (hde : de ≤ 5) (hcg : cg = 1 ∨ (cg = 0 ∧ blt so rC rK rL le de wo n sz9 T9 ch9 ps9 lc9 ws9 al9 be9)) (a b c d : Int) (ha : ir a) (hb : ir b) (hc : ir c) (hd : ir d) : ∀ l, gI l G f0 ad 400 y_Bs_leaf (.code y_Bs_leaf c_Bs_leaf 5 (some (.int))) rm_Bs_leaf [.ref (ad 0), .int (iv (a)), .int (iv (b)), .int (iv (c)), .int (iv (d))] σ (fun z σ' => (¬ tks so (a4 a b c d) = true ∧ z = -2 ∧ bsP G ad σ' n val cl so rC rK rL de le wo cg lo (as4 ak a b c d) sz9 T9 ch9 ps9 lc9 ws9 al9 be9 ∧ (∀ i, 358 ≤ i → σ' i = σ i)) ∨ (tks so (a4 a b c d) = true ∧ ∃ sz T ch ps lc ws al be, bsP G ad σ' n val cl so rC rK rL de le wo 0 lo (as4 ak a b c d) sz T ch ps lc ws al be ∧ blt so rC rK rL le de wo n sz T ch ps lc ws al be ∧ (∀ i, 358 ≤ i → σ' i = σ i) ∧ z = ((kWh 0 so (a4 a b c d) T ch 5 0 : Nat) : Int))) := by
  intro l
  refine mI_of (rt := .int) (by decide) (Nat.le_of_ble_eq_true rfl) (fun X hX hret => ?_)
  show vV G X 0 0 0 [(0, .ref (ad 0)), (1, .int (iv (a))), (2, .int (iv (b))), (3, .int (iv (c))), (4, .int (iv (d)))] [] (ov f0 ad 400 σ)
  obtain ⟨j0, jT, jL, jS, jO, ⟨jg, jgi⟩, j1, jTr, jz, jto, jch, jio, jP, jps, jal, ja0⟩ := id hI
  have hir : ∀ q, ir ((as4 ak a b c d) q) := fun q => as4_ir jgi ha hb hc hd q
  refine v_aload_n hX d_Bs_leaf_0 0 rfl ?_
  refine v_iload_n hX d_Bs_leaf_1 1 rfl ?_
  refine v_iload_n hX d_Bs_leaf_2 2 rfl ?_
  refine v_iload_n hX d_Bs_leaf_3 3 rfl ?_
  refine v_iload hX d_Bs_leaf_4 4 rfl ?_
  refine g_callVV (As := [.int (iv (a)), .int (iv (b)), .int (iv (c)), .int (iv (d))]) (st := []) hX hj (i := 0) (by omega) j0 (m_Bs_ask hj cg lo j0 ak jg a b c d) cl_Bs_79 d_Bs_leaf_6 rfl ⟨by decide, by decide⟩ ⟨by decide, by decide⟩ (Nat.le_of_ble_eq_true rfl) (fun σ2 hp4 => ?_)
  have hask := hp4
  have hI1 := bsP_ask hI hp4 hir
  obtain ⟨k0, kT, kL, kS, kO, ⟨kg, kgi⟩, k1, kTr, kz, kto, kch, kio, kP, kps, kal, ka0⟩ := id hI1
  refine v_aload_n hX d_Bs_leaf_9 0 rfl ?_
  refine g_get (i := 0) hX hj fl_Bs_12 d_Bs_leaf_10 (by omega) k0 rfl ?_
  refine v_aload_n hX d_Bs_leaf_13 0 rfl ?_
  refine g_get (i := 0) hX hj fl_Bs_53 d_Bs_leaf_14 (by omega) k0 rfl ?_
  refine g_callVI (As := [.ref (ad 11)]) (st := []) hX hj (i := 1) (by omega) kT.1 (m_Tab_takes hj kT hB 11 (by decide) (as4 ak a b c d) kg hir) cl_Bs_83 d_Bs_leaf_17 rfl ⟨by decide, by decide⟩ ⟨by decide, by decide⟩ (Nat.le_of_ble_eq_true rfl) (fun z5 σ6 hz7 hp8 => ?_)
  obtain ⟨he9, hv10⟩ := hp8
  rw [he9]
  by_cases qt : tks so (as4 ak a b c d) = true
  · have z5e : z5 = 1 := hv10.trans (if_pos qt)
    subst z5e
    refine v_if_ne (tgt := 26) hX d_Bs_leaf_20 (by decide) (by first | assumption | (unfold ir at *; omega)) (fun c9 => ?_) (fun c9 => absurd c9 (by omega))
    refine v_aload_n hX d_Bs_leaf_26 0 rfl ?_
    refine g_callVV (As := []) (st := []) hX hj (i := 0) (by omega) k0 (m_Bs_growIfChanged hj hI1 hB hle hwo hde hcg) cl_Bs_107 d_Bs_leaf_27 rfl ⟨by decide, by decide⟩ ⟨by decide, by decide⟩ (Nat.le_of_ble_eq_true rfl) (fun σ12 hp14 => ?_)
    obtain ⟨sz, T, ch, ps, lc, ws, al, be, hJ, hb, hfr⟩ := hp14
    obtain ⟨i0, iT, iL, iS, iO, ⟨ig, igi⟩, i1, iTr, iz, ito, ich, iio, iP, ips, ial, ia0⟩ := id hJ
    obtain ⟨iz1, iz2⟩ := id iz
    refine v_aload_n hX d_Bs_leaf_30 0 rfl ?_
    refine g_get (i := 0) hX hj fl_Bs_37 d_Bs_leaf_31 (by omega) i0 rfl ?_
    refine v_aload_n hX d_Bs_leaf_34 0 rfl ?_
    refine g_get (i := 0) hX hj fl_Bs_53 d_Bs_leaf_35 (by omega) i0 rfl ?_
    refine g_callVR (As := [.ref (ad 11)]) (st := []) hX hj (i := 8) (by omega) iTr.1 (m_Tre_whereComes hj iT hB 0 (by decide) sz iz2 T ch iTr ito ich (11) (by omega) (as4 ak a b c d) ig qt) cl_Bs_152 d_Bs_leaf_38 rfl ⟨by decide, by decide⟩ ⟨by decide, by decide⟩ (Nat.le_of_ble_eq_true rfl) (fun z15 σ16 hp18 => ?_)
    obtain ⟨he19, hre, hw47⟩ := hp18
    rw [he19]
    subst hre
    obtain ⟨kw, hkw⟩ : ∃ kw, kw = (kWh 0 so (as4 ak a b c d) T ch 5 0) := ⟨_, rfl⟩
    rw [← hkw] at hw47 ⊢
    refine v_eq (st' := [.ref (ad (76 + 3 * kw))]) (by show va_rf (some (ad (76 + 141 * 0 + 3 * kw))) :: _ = _; rw [show 76 + 141 * 0 + 3 * kw = 76 + 3 * kw by omega]; rfl) ?_
    have hn : pNod ad σ12 (76 + 3 * kw) kw (T kw) (ch kw) := iTr.2.2 kw hw47
    refine g_get (i := 76 + 3 * kw) hX hj fl_Bs_156 d_Bs_leaf_41 (by omega) hn.1 rfl ?_
    exact hret _ _ _ _ d_Bs_leaf_44 (by unfold ir; omega) ⟨_, rfl, Or.inr ⟨qt, sz, T, ch, ps, lc, ws, al, be, hJ, hb, (fun i hi => by rw [hfr i hi, hask, va_up_ne _ _ (by omega)]), congrArg (fun q : Nat => (q : Int)) (hkw.trans (kWh_a (as4_e ak a b c d) ito ich 5 0 (by decide)))⟩⟩ rfl
  · have z5e : z5 = 0 := hv10.trans (if_neg qt)
    subst z5e
    refine v_if_ne (tgt := 26) hX d_Bs_leaf_20 (by decide) (by first | assumption | (unfold ir at *; omega)) (fun c9 => absurd c9 (by omega)) (fun c9 => ?_)
    refine v_bipush hX (-2) d_Bs_leaf_23 rfl ?_
    exact hret _ _ _ _ d_Bs_leaf_25 (by unfold ir; omega) ⟨_, rfl, Or.inl ⟨qt, rfl, hI1, fun i hi => by rw [hask, va_up_ne _ _ (by omega)]⟩⟩ rfl

set_option maxHeartbeats 1000000 in
set_option maxRecDepth 100000 in
theorem m_Bs_leafOf {G : xG} {f0 : xF} {ad : Nat → Nat} (hj : adOk ad 400) {σ : xF} {n : Nat} {val : Nat → Nat → Int} {cl so rC rK : Nat → Nat} {rL : Nat → Nat → Nat} {de le wo : Nat} {cg lo : Int} {ak : Nat → Int} {sz9 : Nat} {T9 : Nat → Nat → Int} {ch9 : Nat → Option Nat} {ps9 : Nat} {lc9 ws9 al9 be9 : Nat → Int} (hI : bsP G ad σ n val cl so rC rK rL de le wo cg lo ak sz9 T9 ch9 ps9 lc9 ws9 al9 be9) (hB : bTab n cl so rC rK rL) (hle : le ≤ 10) (hwo : wo ≤ 1000) (hde : de ≤ 5) (hcg : cg = 1 ∨ (cg = 0 ∧ blt so rC rK rL le de wo n sz9 T9 ch9 ps9 lc9 ws9 al9 be9)) (hV : ∀ r, r < n → tks so (val r) = true) (r : Int) (hr : ir r) : ∀ l, gI l G f0 ad 400 y_Bs_leafOf (.code y_Bs_leafOf c_Bs_leafOf 2 (some (.int))) rm_Bs_leafOf [.ref (ad 0), .int (iv (r))] σ (fun z σ' => (¬ (0 ≤ r ∧ r < (n : Int)) ∧ z = -1 ∧ σ' = σ) ∨ ((0 ≤ r ∧ r < (n : Int)) ∧ ∃ sz T ch ps lc ws al be, bsP G ad σ' n val cl so rC rK rL de le wo 0 lo ak sz T ch ps lc ws al be ∧ blt so rC rK rL le de wo n sz T ch ps lc ws al be ∧ (∀ i, 358 ≤ i → σ' i = σ i) ∧ z = ((kWh 0 so (val r.toNat) T ch 5 0 : Nat) : Int))) := by
  intro l
  refine mI_of (rt := .int) (by decide) (Nat.le_of_ble_eq_true rfl) (fun X hX hret => ?_)
  show vV G X 0 0 0 [(0, .ref (ad 0)), (1, .int (iv (r)))] [] (ov f0 ad 400 σ)
  obtain ⟨j0, jT, jL, jS, jO, ⟨jg, jgi⟩, j1, jTr, jz, jto, jch, jio, jP, jps, jal, ja0⟩ := id hI
  have hn24 := hB.1
  refine v_aload_n hX d_Bs_leafOf_0 0 rfl ?_
  refine g_get (i := 0) hX hj fl_Bs_12 d_Bs_leafOf_1 (by omega) j0 rfl ?_
  refine v_iload_n hX d_Bs_leafOf_4 1 rfl ?_
  refine g_callVI (As := [.int (iv (r))]) (st := []) hX hj (i := 1) (by omega) jT.1 (m_Tab_has hj jT hB r (by first | assumption | (unfold ir at *; omega))) cl_Bs_159 d_Bs_leafOf_5 rfl ⟨by decide, by decide⟩ ⟨by decide, by decide⟩ (Nat.le_of_ble_eq_true rfl) (fun z1 σ2 hz3 hp4 => ?_)
  obtain ⟨he5, hv6⟩ := hp4
  rw [he5]
  by_cases qz1 : 0 ≤ r ∧ r < (n : Int)
  · have z1e : z1 = 1 := hv6.trans (if_pos qz1)
    subst z1e
    refine v_if_ne (tgt := 13) hX d_Bs_leafOf_8 (by decide) (by first | assumption | (unfold ir at *; omega)) (fun c9 => ?_) (fun c9 => absurd c9 (by omega))
    refine v_aload_n hX d_Bs_leafOf_13 0 rfl ?_
    refine g_callVV (As := []) (st := []) hX hj (i := 0) (by omega) j0 (m_Bs_growIfChanged hj hI hB hle hwo hde hcg) cl_Bs_107 d_Bs_leafOf_14 rfl ⟨by decide, by decide⟩ ⟨by decide, by decide⟩ (Nat.le_of_ble_eq_true rfl) (fun σ8 hp10 => ?_)
    obtain ⟨sz, T, ch, ps, lc, ws, al, be, hJ, hb, hfr⟩ := hp10
    obtain ⟨i0, iT, iL, iS, iO, ⟨ig, igi⟩, i1, iTr, iz, ito, ich, iio, iP, ips, ial, ia0⟩ := id hJ
    obtain ⟨iz1, iz2⟩ := id iz
    refine v_aload_n hX d_Bs_leafOf_17 0 rfl ?_
    refine g_get (i := 0) hX hj fl_Bs_37 d_Bs_leafOf_18 (by omega) i0 rfl ?_
    refine v_aload_n hX d_Bs_leafOf_21 0 rfl ?_
    refine g_get (i := 0) hX hj fl_Bs_12 d_Bs_leafOf_22 (by omega) i0 rfl ?_
    refine g_get (i := 1) hX hj fl_Bs_162 d_Bs_leafOf_25 (by omega) iT.1 rfl ?_
    refine v_iload_n hX d_Bs_leafOf_28 1 rfl ?_
    have hn24 := hB.1
    refine g_aaldA (i := 12) hX hj d_Bs_leafOf_29 (by omega) iT.2.1 rfl (by decide) (Int.toNat (r)) (by omega) (by omega) (if_pos (by omega)) ?_
    refine g_callVR (As := [.ref (ad (28 + Int.toNat (r)))]) (st := []) hX hj (i := 8) (by omega) iTr.1 (m_Tre_whereComes hj iT hB 0 (by decide) sz iz2 T ch iTr ito ich (28 + r.toNat) (by omega) (val r.toNat) (iT.2.2.2.2.2.2.2.2 r.toNat (by have := hB.1; omega)) (hV r.toNat (by omega))) cl_Bs_152 d_Bs_leafOf_30 rfl ⟨by decide, by decide⟩ ⟨by decide, by decide⟩ (Nat.le_of_ble_eq_true rfl) (fun z11 σ12 hp14 => ?_)
    obtain ⟨he15, hre, hw47⟩ := hp14
    rw [he15]
    subst hre
    obtain ⟨kw, hkw⟩ : ∃ kw, kw = (kWh 0 so (val r.toNat) T ch 5 0) := ⟨_, rfl⟩
    rw [← hkw] at hw47 ⊢
    refine v_eq (st' := [.ref (ad (76 + 3 * kw))]) (by show va_rf (some (ad (76 + 141 * 0 + 3 * kw))) :: _ = _; rw [show 76 + 141 * 0 + 3 * kw = 76 + 3 * kw by omega]; rfl) ?_
    have hn : pNod ad σ8 (76 + 3 * kw) kw (T kw) (ch kw) := iTr.2.2 kw hw47
    refine g_get (i := 76 + 3 * kw) hX hj fl_Bs_156 d_Bs_leafOf_33 (by omega) hn.1 rfl ?_
    exact hret _ _ _ _ d_Bs_leafOf_36 (by unfold ir; omega) ⟨_, rfl, Or.inr ⟨by assumption, sz, T, ch, ps, lc, ws, al, be, hJ, hb, hfr, congrArg (fun q : Nat => (q : Int)) hkw⟩⟩ rfl
  · have z1e : z1 = 0 := hv6.trans (if_neg qz1)
    subst z1e
    refine v_if_ne (tgt := 13) hX d_Bs_leafOf_8 (by decide) (by first | assumption | (unfold ir at *; omega)) (fun c9 => absurd c9 (by omega)) (fun c9 => ?_)
    refine v_iconst hX (-1) d_Bs_leafOf_11 ?_
    exact hret _ _ _ _ d_Bs_leafOf_12 (by unfold ir; omega) ⟨_, rfl, Or.inl ⟨by assumption, rfl, rfl⟩⟩ rfl

set_option maxHeartbeats 1000000 in
set_option maxRecDepth 100000 in
theorem m_Bs_cutGain {G : xG} {f0 : xF} {ad : Nat → Nat} (hj : adOk ad 400) {σ : xF} {n : Nat} {val : Nat → Nat → Int} {cl so rC rK : Nat → Nat} {rL : Nat → Nat → Nat} {de le wo : Nat} {cg lo : Int} {ak : Nat → Int} {sz9 : Nat} {T9 : Nat → Nat → Int} {ch9 : Nat → Option Nat} {ps9 : Nat} {lc9 ws9 al9 be9 : Nat → Int} (hI : bsP G ad σ n val cl so rC rK rL de le wo cg lo ak sz9 T9 ch9 ps9 lc9 ws9 al9 be9) (hB : bTab n cl so rC rK rL) (hle : le ≤ 10) (hwo : wo ≤ 1000) (hde : de ≤ 5) (hGa : ∀ c num side, c < 4 → num ≤ 100 → side ≤ 1 → kMay rK rL le (2 ^ n - 1) c num side = true → (0 ≤ kAb rC rK rL (2 ^ n - 1) c num side ∧ kAb rC rK rL (2 ^ n - 1) c num side < 2147483648) ∧ 0 < kBe rK rL (2 ^ n - 1) c num side ∧ kBe rK rL (2 ^ n - 1) c num side < 2147483648) (c num side p : Int) (hc : ir c) (hnum : ir num) (hside : ir side) (hp : ir p) : ∀ l, gI l G f0 ad 400 y_Bs_cutGain (.code y_Bs_cutGain c_Bs_cutGain 6 (some (.int))) rm_Bs_cutGain [.ref (ad 0), .int (iv (c)), .int (iv (num)), .int (iv (side)), .int (iv (p))] σ (fun z σ' => z = aCutGain so rC rK rL le n c num side p ∧ bsP G ad σ' n val cl so rC rK rL de le wo cg lo ak sz9 T9 ch9 ps9 lc9 ws9 al9 be9 ∧ (∀ i, 358 ≤ i → σ' i = σ i)) := by
  intro l
  refine mI_of (rt := .int) (by decide) (Nat.le_of_ble_eq_true rfl) (fun X hX hret => ?_)
  show vV G X 0 0 0 [(0, .ref (ad 0)), (1, .int (iv (c))), (2, .int (iv (num))), (3, .int (iv (side))), (4, .int (iv (p)))] [] (ov f0 ad 400 σ)
  obtain ⟨j0, jT, jL, jS, jO, ⟨jg, jgi⟩, j1, jTr, jz, jto, jch, jio, jP, jps, jal, ja0⟩ := id hI
  have hR : 2 ^ n - 1 < 16777216 := by have h3 : 2 ^ n ≤ 2 ^ 24 := Nat.pow_le_pow_right (by decide) hB.1; omega
  obtain ⟨B9, l1, ⟨x0, x1, x2, hc4⟩, ⟨u, v, hf5⟩, -⟩ := id jO
  refine v_iload_n hX d_Bs_cutGain_0 1 rfl ?_
  refine g_callSI (As := [.int (iv (c))]) (st := []) hX (k0_Bs_isColumn (c) (by first | assumption | (unfold ir at *; omega))) cl_Bs_65 d_Bs_cutGain_1 rfl ⟨by decide, by decide⟩ ⟨by decide, by decide⟩ (Nat.le_of_ble_eq_true rfl) (fun z1 hz2 hp3 => ?_)
  by_cases qz1 : 0 ≤ c ∧ c < 4
  · have z1e : z1 = 1 := hp3.trans (if_pos qz1)
    subst z1e
    refine v_if_ne (tgt := 9) hX d_Bs_cutGain_4 (by decide) (by first | assumption | (unfold ir at *; omega)) (fun c9 => ?_) (fun c9 => absurd c9 (by omega))
    refine v_iload_n hX d_Bs_cutGain_9 3 rfl ?_
    refine v_if_eq (tgt := 18) hX d_Bs_cutGain_10 (by decide) (by first | assumption | (unfold ir at *; omega)) (fun c10_2 => ?_) (fun c10_2 => ?_)
    · refine v_iload hX d_Bs_cutGain_18 4 rfl ?_
      refine g_callSI (As := [.int (iv (p))]) (st := []) hX (k0_Bs_isPart (p) (by first | assumption | (unfold ir at *; omega))) cl_Bs_130 d_Bs_cutGain_20 rfl ⟨by decide, by decide⟩ ⟨by decide, by decide⟩ (Nat.le_of_ble_eq_true rfl) (fun z4 hz5 hp6 => ?_)
      by_cases qz4 : p = 0 ∨ p = 1
      · have z4e : z4 = 1 := hp6.trans (if_pos qz4)
        subst z4e
        refine v_if_ne (tgt := 29) hX d_Bs_cutGain_23 (by decide) (by first | assumption | (unfold ir at *; omega)) (fun c9 => ?_) (fun c9 => absurd c9 (by omega))
        refine v_aload_n hX d_Bs_cutGain_29 0 rfl ?_
        refine g_get (i := 0) hX hj fl_Bs_12 d_Bs_cutGain_30 (by omega) j0 rfl ?_
        refine g_callVI (As := []) (st := []) hX hj (i := 1) (by omega) jT.1 (m_Tab_allRows hj jT hB ) cl_Bs_166 d_Bs_cutGain_33 rfl ⟨by decide, by decide⟩ ⟨by decide, by decide⟩ (Nat.le_of_ble_eq_true rfl) (fun z7 σ8 hz9 hp10 => ?_)
        obtain ⟨he11, hv12⟩ := hp10
        rw [he11]
        subst hv12
        refine v_istore (lv' := [(5, .int (iv ((((2 ^ n - 1) : Nat) : Int)))), (0, .ref (ad 0)), (1, .int (iv (c))), (2, .int (iv (num))), (3, .int (iv (side))), (4, .int (iv (p)))]) hX d_Bs_cutGain_36 (by decide) rfl ?_
        refine v_aload_n hX d_Bs_cutGain_38 1 rfl ?_
        refine g_get (i := 0) hX hj fl_Bs_12 d_Bs_cutGain_39 (by omega) j0 rfl ?_
        refine v_iload hX d_Bs_cutGain_42 0 rfl ?_
        refine v_iload_n hX d_Bs_cutGain_44 2 rfl ?_
        refine v_iload_n hX d_Bs_cutGain_45 3 rfl ?_
        refine v_eq (st' := [.int (iv (num)), .int (iv (((c.toNat : Nat) : Int))), .int (iv ((((2 ^ n - 1) : Nat) : Int))), .ref (ad 1)]) (by rw [show ((c.toNat : Nat) : Int) = c by omega]) ?_
        refine g_callVI (As := [.int (iv ((((2 ^ n - 1) : Nat) : Int))), .int (iv (((c.toNat : Nat) : Int))), .int (iv (num))]) (st := []) hX hj (i := 1) (by omega) jT.1 (m_Tab_canCut hj jT hB (2 ^ n - 1) c.toNat num hR (by omega) hnum) cl_Bs_172 d_Bs_cutGain_46 rfl ⟨by decide, by decide⟩ ⟨by decide, by decide⟩ (Nat.le_of_ble_eq_true rfl) (fun z13 σ14 hz15 hp16 => ?_)
        obtain ⟨he17, hv18⟩ := hp16
        rw [he17]
        by_cases qk : 0 ≤ num ∧ kCan so rK rL (2 ^ n - 1) c.toNat num.toNat = true
        · have z13e : z13 = 1 := hv18.trans (if_pos qk)
          subst z13e
          have hn100 : num.toNat ≤ 100 := by rcases kCan_or qk.2 with q | q <;> omega
          refine v_if_eq (tgt := 67) hX d_Bs_cutGain_49 (by decide) (by first | assumption | (unfold ir at *; omega)) (fun c9 => absurd c9 (by omega)) (fun c9 => ?_)
          refine v_aload_n hX d_Bs_cutGain_52 1 rfl ?_
          refine g_get (i := 0) hX hj fl_Bs_28 d_Bs_cutGain_53 (by omega) j0 rfl ?_
          refine v_iload hX d_Bs_cutGain_56 0 rfl ?_
          refine v_iload_n hX d_Bs_cutGain_58 2 rfl ?_
          refine v_iload_n hX d_Bs_cutGain_59 3 rfl ?_
          refine v_iload_n hX d_Bs_cutGain_60 4 rfl ?_
          refine v_eq (st' := [.int (iv (((side.toNat : Nat) : Int))), .int (iv (((num.toNat : Nat) : Int))), .int (iv (((c.toNat : Nat) : Int))), .int (iv ((((2 ^ n - 1) : Nat) : Int))), .ref (ad 3)]) (by rw [show ((side.toNat : Nat) : Int) = side by omega, show ((num.toNat : Nat) : Int) = num by omega, show ((c.toNat : Nat) : Int) = c by omega]) ?_
          refine g_callVI (As := [.int (iv ((((2 ^ n - 1) : Nat) : Int))), .int (iv (((c.toNat : Nat) : Int))), .int (iv (((num.toNat : Nat) : Int))), .int (iv (((side.toNat : Nat) : Int)))]) (st := []) hX hj (i := 3) (by omega) jS (m_Sur_measure hj jT hB jS jL hle x0 x1 x2 u v hc4 hf5 (2 ^ n - 1) c.toNat num.toNat side.toNat hR (by omega) hn100 (by omega)) cl_Bs_176 d_Bs_cutGain_61 rfl ⟨by decide, by decide⟩ ⟨by decide, by decide⟩ (Nat.le_of_ble_eq_true rfl) (fun z19 σ20 hz21 hp22 => ?_)
          rcases hp22 with ⟨m1, m2, m3⟩ | ⟨m1, m2, m3⟩
          · subst m2
            have q0 : σ20 0 = bsE ad cg lo := by rw [m3, va_up_ne _ _ (by decide), va_up_ne _ _ (by decide)]; exact j0
            have q3 : pSur ad σ20 := by unfold pSur; rw [m3, va_up_ne _ _ (by decide), va_up_ne _ _ (by decide)]; exact jS
            have q4 : pCut ad σ20 4 5 c.toNat num.toNat side.toNat := by unfold pCut; rw [m3, va_up_ne _ _ (by decide), va_up_self]
            have q5 : pFra σ20 5 (kAb rC rK rL (2 ^ n - 1) c.toNat num.toNat side.toNat) ((kBe rK rL (2 ^ n - 1) c.toNat num.toNat side.toNat) : Nat) := by unfold pFra; rw [m3, va_up_self]
            obtain ⟨ka, kb0, kb1⟩ := hGa c.toNat num.toNat side.toNat (by omega) hn100 (by omega) m1
            obtain ⟨aa, haa⟩ : ∃ aa : Nat, (kAb rC rK rL (2 ^ n - 1) c.toNat num.toNat side.toNat) = aa := ⟨(kAb rC rK rL (2 ^ n - 1) c.toNat num.toNat side.toNat).toNat, by omega⟩
            refine v_if_ne (tgt := 70) hX d_Bs_cutGain_64 (by decide) (by first | assumption | (unfold ir at *; omega)) (fun c9 => ?_) (fun c9 => absurd c9 (by omega))
            refine v_aload_n hX d_Bs_cutGain_70 1 rfl ?_
            refine g_get (i := 0) hX hj fl_Bs_28 d_Bs_cutGain_71 (by omega) q0 rfl ?_
            refine g_get (i := 3) hX hj fl_Bs_180 d_Bs_cutGain_74 (by omega) q3 rfl ?_
            refine g_get (i := 4) hX hj fl_Bs_141 d_Bs_cutGain_77 (by omega) q4 rfl ?_
            refine v_iload hX d_Bs_cutGain_80 5 rfl ?_
            refine g_callVI (As := [.int (iv (p))]) (st := []) hX hj (i := 5) (by omega) q5 (m_Fra_inLowestTerms hj 5 (by decide) aa (kBe rK rL (2 ^ n - 1) c.toNat num.toNat side.toNat) (by rw [← haa]; exact q5) (by omega) kb1 kb0 p (by assumption)) cl_Bs_147 d_Bs_cutGain_82 rfl ⟨by decide, by decide⟩ ⟨by decide, by decide⟩ (Nat.le_of_ble_eq_true rfl) (fun z23 σ24 hz25 hp26 => ?_)
            obtain ⟨he27, hv28⟩ := hp26
            rw [he27]
            have hO2 : lkO ad σ20 := lkO_me jO m3
            exact hret _ _ _ _ d_Bs_cutGain_85 hz25 ⟨_, rfl, aCut_t (by assumption) ⟨by omega, by assumption⟩ ⟨qk, m1⟩ (lowT_e haa rfl hv28), bsP_sur hI (fun i i4 i5 i6 i7 => by rw [m3, va_up_ne _ _ i5, va_up_ne _ _ i4]) hO2, fun i hi => by rw [m3, va_up_ne _ _ (by omega), va_up_ne _ _ (by omega)]⟩ rfl
          · subst m2
            rw [m3]
            refine v_if_ne (tgt := 70) hX d_Bs_cutGain_64 (by decide) (by first | assumption | (unfold ir at *; omega)) (fun c9 => absurd c9 (by omega)) (fun c9 => ?_)
            refine v_bipush hX (-3) d_Bs_cutGain_67 rfl ?_
            exact hret _ _ _ _ d_Bs_cutGain_69 (by unfold ir; omega) ⟨_, rfl, aCut_u (by assumption) ⟨by omega, by assumption⟩ (fun q => by first | exact qk q.1 | exact m1 q.2), hI, fun _ _ => rfl⟩ rfl
        · have z13e : z13 = 0 := hv18.trans (if_neg qk)
          subst z13e
          refine v_if_eq (tgt := 67) hX d_Bs_cutGain_49 (by decide) (by first | assumption | (unfold ir at *; omega)) (fun c9 => ?_) (fun c9 => absurd c9 (by omega))
          refine v_bipush hX (-3) d_Bs_cutGain_67 rfl ?_
          exact hret _ _ _ _ d_Bs_cutGain_69 (by unfold ir; omega) ⟨_, rfl, aCut_u (by assumption) ⟨by omega, by assumption⟩ (fun q => by first | exact qk q.1 | exact m1 q.2), hI, fun _ _ => rfl⟩ rfl
      · have z4e : z4 = 0 := hp6.trans (if_neg qz4)
        subst z4e
        refine v_if_ne (tgt := 29) hX d_Bs_cutGain_23 (by decide) (by first | assumption | (unfold ir at *; omega)) (fun c9 => absurd c9 (by omega)) (fun c9 => ?_)
        refine v_bipush hX (-2) d_Bs_cutGain_26 rfl ?_
        exact hret _ _ _ _ d_Bs_cutGain_28 (by unfold ir; omega) ⟨_, rfl, aCut_p (by assumption) (fun q => by first | omega | exact absurd q.2 (by assumption)), hI, fun _ _ => rfl⟩ rfl
    · refine v_iload_n hX d_Bs_cutGain_13 3 rfl ?_
      refine v_iconst hX (1) d_Bs_cutGain_14 ?_
      refine v_icmp_ne (tgt := 26) hX d_Bs_cutGain_15 (by decide) (by first | assumption | (unfold ir at *; omega)) (by first | assumption | (unfold ir at *; omega)) (fun c15_9 => ?_) (fun c15_9 => ?_)
      · refine v_bipush hX (-2) d_Bs_cutGain_26 rfl ?_
        exact hret _ _ _ _ d_Bs_cutGain_28 (by unfold ir; omega) ⟨_, rfl, aCut_p (by assumption) (fun q => by first | omega | exact absurd q.2 (by assumption)), hI, fun _ _ => rfl⟩ rfl
      · refine v_iload hX d_Bs_cutGain_18 4 rfl ?_
        refine g_callSI (As := [.int (iv (p))]) (st := []) hX (k0_Bs_isPart (p) (by first | assumption | (unfold ir at *; omega))) cl_Bs_130 d_Bs_cutGain_20 rfl ⟨by decide, by decide⟩ ⟨by decide, by decide⟩ (Nat.le_of_ble_eq_true rfl) (fun z29 hz30 hp31 => ?_)
        by_cases qz29 : p = 0 ∨ p = 1
        · have z29e : z29 = 1 := hp31.trans (if_pos qz29)
          subst z29e
          refine v_if_ne (tgt := 29) hX d_Bs_cutGain_23 (by decide) (by first | assumption | (unfold ir at *; omega)) (fun c9 => ?_) (fun c9 => absurd c9 (by omega))
          refine v_aload_n hX d_Bs_cutGain_29 0 rfl ?_
          refine g_get (i := 0) hX hj fl_Bs_12 d_Bs_cutGain_30 (by omega) j0 rfl ?_
          refine g_callVI (As := []) (st := []) hX hj (i := 1) (by omega) jT.1 (m_Tab_allRows hj jT hB ) cl_Bs_166 d_Bs_cutGain_33 rfl ⟨by decide, by decide⟩ ⟨by decide, by decide⟩ (Nat.le_of_ble_eq_true rfl) (fun z32 σ33 hz34 hp35 => ?_)
          obtain ⟨he36, hv37⟩ := hp35
          rw [he36]
          subst hv37
          refine v_istore (lv' := [(5, .int (iv ((((2 ^ n - 1) : Nat) : Int)))), (0, .ref (ad 0)), (1, .int (iv (c))), (2, .int (iv (num))), (3, .int (iv (side))), (4, .int (iv (p)))]) hX d_Bs_cutGain_36 (by decide) rfl ?_
          refine v_aload_n hX d_Bs_cutGain_38 1 rfl ?_
          refine g_get (i := 0) hX hj fl_Bs_12 d_Bs_cutGain_39 (by omega) j0 rfl ?_
          refine v_iload hX d_Bs_cutGain_42 0 rfl ?_
          refine v_iload_n hX d_Bs_cutGain_44 2 rfl ?_
          refine v_iload_n hX d_Bs_cutGain_45 3 rfl ?_
          refine v_eq (st' := [.int (iv (num)), .int (iv (((c.toNat : Nat) : Int))), .int (iv ((((2 ^ n - 1) : Nat) : Int))), .ref (ad 1)]) (by rw [show ((c.toNat : Nat) : Int) = c by omega]) ?_
          refine g_callVI (As := [.int (iv ((((2 ^ n - 1) : Nat) : Int))), .int (iv (((c.toNat : Nat) : Int))), .int (iv (num))]) (st := []) hX hj (i := 1) (by omega) jT.1 (m_Tab_canCut hj jT hB (2 ^ n - 1) c.toNat num hR (by omega) hnum) cl_Bs_172 d_Bs_cutGain_46 rfl ⟨by decide, by decide⟩ ⟨by decide, by decide⟩ (Nat.le_of_ble_eq_true rfl) (fun z38 σ39 hz40 hp41 => ?_)
          obtain ⟨he42, hv43⟩ := hp41
          rw [he42]
          by_cases qk : 0 ≤ num ∧ kCan so rK rL (2 ^ n - 1) c.toNat num.toNat = true
          · have z38e : z38 = 1 := hv43.trans (if_pos qk)
            subst z38e
            have hn100 : num.toNat ≤ 100 := by rcases kCan_or qk.2 with q | q <;> omega
            refine v_if_eq (tgt := 67) hX d_Bs_cutGain_49 (by decide) (by first | assumption | (unfold ir at *; omega)) (fun c9 => absurd c9 (by omega)) (fun c9 => ?_)
            refine v_aload_n hX d_Bs_cutGain_52 1 rfl ?_
            refine g_get (i := 0) hX hj fl_Bs_28 d_Bs_cutGain_53 (by omega) j0 rfl ?_
            refine v_iload hX d_Bs_cutGain_56 0 rfl ?_
            refine v_iload_n hX d_Bs_cutGain_58 2 rfl ?_
            refine v_iload_n hX d_Bs_cutGain_59 3 rfl ?_
            refine v_iload_n hX d_Bs_cutGain_60 4 rfl ?_
            refine v_eq (st' := [.int (iv (((side.toNat : Nat) : Int))), .int (iv (((num.toNat : Nat) : Int))), .int (iv (((c.toNat : Nat) : Int))), .int (iv ((((2 ^ n - 1) : Nat) : Int))), .ref (ad 3)]) (by rw [show ((side.toNat : Nat) : Int) = side by omega, show ((num.toNat : Nat) : Int) = num by omega, show ((c.toNat : Nat) : Int) = c by omega]) ?_
            refine g_callVI (As := [.int (iv ((((2 ^ n - 1) : Nat) : Int))), .int (iv (((c.toNat : Nat) : Int))), .int (iv (((num.toNat : Nat) : Int))), .int (iv (((side.toNat : Nat) : Int)))]) (st := []) hX hj (i := 3) (by omega) jS (m_Sur_measure hj jT hB jS jL hle x0 x1 x2 u v hc4 hf5 (2 ^ n - 1) c.toNat num.toNat side.toNat hR (by omega) hn100 (by omega)) cl_Bs_176 d_Bs_cutGain_61 rfl ⟨by decide, by decide⟩ ⟨by decide, by decide⟩ (Nat.le_of_ble_eq_true rfl) (fun z44 σ45 hz46 hp47 => ?_)
            rcases hp47 with ⟨m1, m2, m3⟩ | ⟨m1, m2, m3⟩
            · subst m2
              have q0 : σ45 0 = bsE ad cg lo := by rw [m3, va_up_ne _ _ (by decide), va_up_ne _ _ (by decide)]; exact j0
              have q3 : pSur ad σ45 := by unfold pSur; rw [m3, va_up_ne _ _ (by decide), va_up_ne _ _ (by decide)]; exact jS
              have q4 : pCut ad σ45 4 5 c.toNat num.toNat side.toNat := by unfold pCut; rw [m3, va_up_ne _ _ (by decide), va_up_self]
              have q5 : pFra σ45 5 (kAb rC rK rL (2 ^ n - 1) c.toNat num.toNat side.toNat) ((kBe rK rL (2 ^ n - 1) c.toNat num.toNat side.toNat) : Nat) := by unfold pFra; rw [m3, va_up_self]
              obtain ⟨ka, kb0, kb1⟩ := hGa c.toNat num.toNat side.toNat (by omega) hn100 (by omega) m1
              obtain ⟨aa, haa⟩ : ∃ aa : Nat, (kAb rC rK rL (2 ^ n - 1) c.toNat num.toNat side.toNat) = aa := ⟨(kAb rC rK rL (2 ^ n - 1) c.toNat num.toNat side.toNat).toNat, by omega⟩
              refine v_if_ne (tgt := 70) hX d_Bs_cutGain_64 (by decide) (by first | assumption | (unfold ir at *; omega)) (fun c9 => ?_) (fun c9 => absurd c9 (by omega))
              refine v_aload_n hX d_Bs_cutGain_70 1 rfl ?_
              refine g_get (i := 0) hX hj fl_Bs_28 d_Bs_cutGain_71 (by omega) q0 rfl ?_
              refine g_get (i := 3) hX hj fl_Bs_180 d_Bs_cutGain_74 (by omega) q3 rfl ?_
              refine g_get (i := 4) hX hj fl_Bs_141 d_Bs_cutGain_77 (by omega) q4 rfl ?_
              refine v_iload hX d_Bs_cutGain_80 5 rfl ?_
              refine g_callVI (As := [.int (iv (p))]) (st := []) hX hj (i := 5) (by omega) q5 (m_Fra_inLowestTerms hj 5 (by decide) aa (kBe rK rL (2 ^ n - 1) c.toNat num.toNat side.toNat) (by rw [← haa]; exact q5) (by omega) kb1 kb0 p (by assumption)) cl_Bs_147 d_Bs_cutGain_82 rfl ⟨by decide, by decide⟩ ⟨by decide, by decide⟩ (Nat.le_of_ble_eq_true rfl) (fun z48 σ49 hz50 hp51 => ?_)
              obtain ⟨he52, hv53⟩ := hp51
              rw [he52]
              have hO2 : lkO ad σ45 := lkO_me jO m3
              exact hret _ _ _ _ d_Bs_cutGain_85 hz50 ⟨_, rfl, aCut_t (by assumption) ⟨by omega, by assumption⟩ ⟨qk, m1⟩ (lowT_e haa rfl hv53), bsP_sur hI (fun i i4 i5 i6 i7 => by rw [m3, va_up_ne _ _ i5, va_up_ne _ _ i4]) hO2, fun i hi => by rw [m3, va_up_ne _ _ (by omega), va_up_ne _ _ (by omega)]⟩ rfl
            · subst m2
              rw [m3]
              refine v_if_ne (tgt := 70) hX d_Bs_cutGain_64 (by decide) (by first | assumption | (unfold ir at *; omega)) (fun c9 => absurd c9 (by omega)) (fun c9 => ?_)
              refine v_bipush hX (-3) d_Bs_cutGain_67 rfl ?_
              exact hret _ _ _ _ d_Bs_cutGain_69 (by unfold ir; omega) ⟨_, rfl, aCut_u (by assumption) ⟨by omega, by assumption⟩ (fun q => by first | exact qk q.1 | exact m1 q.2), hI, fun _ _ => rfl⟩ rfl
          · have z38e : z38 = 0 := hv43.trans (if_neg qk)
            subst z38e
            refine v_if_eq (tgt := 67) hX d_Bs_cutGain_49 (by decide) (by first | assumption | (unfold ir at *; omega)) (fun c9 => ?_) (fun c9 => absurd c9 (by omega))
            refine v_bipush hX (-3) d_Bs_cutGain_67 rfl ?_
            exact hret _ _ _ _ d_Bs_cutGain_69 (by unfold ir; omega) ⟨_, rfl, aCut_u (by assumption) ⟨by omega, by assumption⟩ (fun q => by first | exact qk q.1 | exact m1 q.2), hI, fun _ _ => rfl⟩ rfl
        · have z29e : z29 = 0 := hp31.trans (if_neg qz29)
          subst z29e
          refine v_if_ne (tgt := 29) hX d_Bs_cutGain_23 (by decide) (by first | assumption | (unfold ir at *; omega)) (fun c9 => absurd c9 (by omega)) (fun c9 => ?_)
          refine v_bipush hX (-2) d_Bs_cutGain_26 rfl ?_
          exact hret _ _ _ _ d_Bs_cutGain_28 (by unfold ir; omega) ⟨_, rfl, aCut_p (by assumption) (fun q => by first | omega | exact absurd q.2 (by assumption)), hI, fun _ _ => rfl⟩ rfl
  · have z1e : z1 = 0 := hp3.trans (if_neg qz1)
    subst z1e
    refine v_if_ne (tgt := 9) hX d_Bs_cutGain_4 (by decide) (by first | assumption | (unfold ir at *; omega)) (fun c9 => absurd c9 (by omega)) (fun c9 => ?_)
    refine v_iconst hX (-1) d_Bs_cutGain_7 ?_
    exact hret _ _ _ _ d_Bs_cutGain_8 (by unfold ir; omega) ⟨_, rfl, aCut_n (by assumption), hI, fun _ _ => rfl⟩ rfl

set_option maxHeartbeats 1000000 in
set_option maxRecDepth 100000 in
theorem m_Bs_isMistakenByOthers {G : xG} {f0 : xF} {ad : Nat → Nat} (hj : adOk ad 400) {σ : xF} {n : Nat} {val : Nat → Nat → Int} {cl so rC rK : Nat → Nat} {rL : Nat → Nat → Nat} {de le wo : Nat} {cg lo : Int} {ak : Nat → Int} {sz9 : Nat} {T9 : Nat → Nat → Int} {ch9 : Nat → Option Nat} {ps9 : Nat} {lc9 ws9 al9 be9 : Nat → Int} (hI : bsP G ad σ n val cl so rC rK rL de le wo cg lo ak sz9 T9 ch9 ps9 lc9 ws9 al9 be9) (hB : bTab n cl so rC rK rL) (hle : le ≤ 10) (hwo : wo ≤ 1000) (hde : de ≤ 5) (hV : ∀ r, r < n → tks so (val r) = true) (r : Nat) (hr : r < n) (hLr : ∀ T1 ch1, tOk T1 → chOk 1 ch1 → ir ((gAll so rC rK rL le de wo 1 T1 ch1 (nd (2 ^ n - 1) (2 ^ r))).2.1 (kWh 1 so (val r) (gAll so rC rK rL le de wo 1 T1 ch1 (nd (2 ^ n - 1) (2 ^ r))).2.1 (gAll so rC rK rL le de wo 1 T1 ch1 (nd (2 ^ n - 1) (2 ^ r))).2.2 5 0) 4)) : ∀ l, gI l G f0 ad 400 y_Bs_isMistakenByOthers (.code y_Bs_isMistakenByOthers c_Bs_isMistakenByOthers 2 (some (.boolean))) rm_Bs_isMistakenByOthers [.ref (ad 0), .int (iv (((r : Nat) : Int)))] σ (fun z σ' => z = kMis val cl so rC rK rL le de wo n r ∧ bsP G ad σ' n val cl so rC rK rL de le wo cg lo ak sz9 T9 ch9 ps9 lc9 ws9 al9 be9 ∧ (∀ i, 358 ≤ i → σ' i = σ i)) := by
  intro l
  refine mI_of (rt := .boolean) (by decide) (Nat.le_of_ble_eq_true rfl) (fun X hX hret => ?_)
  show vV G X 0 0 0 [(0, .ref (ad 0)), (1, .int (iv (((r : Nat) : Int))))] [] (ov f0 ad 400 σ)
  obtain ⟨j0, jT, jL, jS, jO, ⟨jg, jgi⟩, j1, jTr, jz, jto, jch, jio, jP, jps, jal, ja0⟩ := id hI
  have hR : 2 ^ n - 1 < 16777216 := by have h3 : 2 ^ n ≤ 2 ^ 24 := Nat.pow_le_pow_right (by decide) hB.1; omega
  have hn24 := hB.1
  have hN2 : (nd (2 ^ n - 1) (2 ^ r)) < 16777216 := Nat.lt_of_le_of_lt (nd_le _ _) hR
  obtain ⟨sz1, T1, ch1, t1, t2, t3, t4⟩ := id j1
  refine v_aload_n hX d_Bs_isMistakenByOthers_0 0 rfl ?_
  refine g_get (i := 0) hX hj fl_Bs_12 d_Bs_isMistakenByOthers_1 (by omega) j0 rfl ?_
  refine v_iload_n hX d_Bs_isMistakenByOthers_4 1 rfl ?_
  refine g_callVI (As := [.int (iv (((r : Nat) : Int)))]) (st := []) hX hj (i := 1) (by omega) jT.1 (m_Tab_has hj jT hB ((r : Nat) : Int) (ir_n (by omega))) cl_Bs_159 d_Bs_isMistakenByOthers_5 rfl ⟨by decide, by decide⟩ ⟨by decide, by decide⟩ (Nat.le_of_ble_eq_true rfl) (fun z1 σ2 hz3 hp4 => ?_)
  obtain ⟨he0, hv0⟩ := hp4
  rw [he0]
  have z1e : z1 = 1 := hv0.trans (if_pos ⟨by omega, by omega⟩)
  subst z1e
  refine v_if_ne (tgt := 13) hX d_Bs_isMistakenByOthers_8 (by decide) (by first | assumption | (have := hB.2.1 r; unfold ir at *; omega)) (fun c9 => ?_) (fun c9 => absurd c9 (by omega))
  refine v_aload_n hX d_Bs_isMistakenByOthers_13 0 rfl ?_
  refine g_get (i := 0) hX hj fl_Bs_41 d_Bs_isMistakenByOthers_14 (by omega) j0 rfl ?_
  refine v_aload_n hX d_Bs_isMistakenByOthers_17 0 rfl ?_
  refine g_get (i := 0) hX hj fl_Bs_12 d_Bs_isMistakenByOthers_18 (by omega) j0 rfl ?_
  refine g_callVI (As := []) (st := [.ref (ad 9)]) hX hj (i := 1) (by omega) jT.1 (m_Tab_allRows hj jT hB ) cl_Bs_166 d_Bs_isMistakenByOthers_21 rfl ⟨by decide, by decide⟩ ⟨by decide, by decide⟩ (Nat.le_of_ble_eq_true rfl) (fun z5 σ6 hz7 hp8 => ?_)
  obtain ⟨he9, hv10⟩ := hp8
  rw [he9]
  subst hv10
  refine v_iconst hX (1) d_Bs_isMistakenByOthers_24 ?_
  refine v_iload_n hX d_Bs_isMistakenByOthers_25 1 rfl ?_
  refine v_ishl (z := (((2 ^ r) : Nat) : Int)) hX d_Bs_isMistakenByOthers_26 (iv_shl1 (r) (by omega)) ?_
  refine v_iconst hX (-1) d_Bs_isMistakenByOthers_27 ?_
  refine v_ixor (z := (-1 - (((2 ^ r) : Nat) : Int))) hX d_Bs_isMistakenByOthers_28 (iv_not ((2 ^ r))) ?_
  refine v_iand (z := (((nd (2 ^ n - 1) (2 ^ r)) : Nat) : Int)) hX d_Bs_isMistakenByOthers_29 (iv_andnot ((2 ^ n - 1)) ((2 ^ r))) ?_
  refine g_callVV (As := [.int (iv ((((nd (2 ^ n - 1) (2 ^ r)) : Nat) : Int)))]) (st := []) hX hj (i := 9) (by omega) t2.1 (m_Tre_grow hj jT hB jS jL hle hwo hde jO 1 (by decide) sz1 t1 T1 ch1 t2 (nd (2 ^ n - 1) (2 ^ r)) hN2) cl_Bs_201 d_Bs_isMistakenByOthers_30 rfl ⟨by decide, by decide⟩ ⟨by decide, by decide⟩ (Nat.le_of_ble_eq_true rfl) (fun σ12 hp14 => ?_)
  obtain ⟨g1, g2, g3, g4⟩ := hp14
  rw [gAll_eq] at g4
  obtain ⟨v1, v2, v3, v4⟩ := gInv_all (so := so) (rC := rC) (rK := rK) (rL := rL) (le := le) (wo := wo) (t := 1) hde t3 t4 hN2
  have hJ : bsP G ad σ12 n val cl so rC rK rL de le wo cg lo ak sz9 T9 ch9 ps9 lc9 ws9 al9 be9 := bsP_oth hI g1 g2 v1.2.1 g4 v2 v3
  obtain ⟨i0, iT, iR⟩ := id hJ
  refine v_aload_n hX d_Bs_isMistakenByOthers_33 0 rfl ?_
  refine g_get (i := 0) hX hj fl_Bs_41 d_Bs_isMistakenByOthers_34 (by omega) i0 rfl ?_
  refine v_aload_n hX d_Bs_isMistakenByOthers_37 0 rfl ?_
  refine g_get (i := 0) hX hj fl_Bs_12 d_Bs_isMistakenByOthers_38 (by omega) i0 rfl ?_
  refine g_get (i := 1) hX hj fl_Bs_162 d_Bs_isMistakenByOthers_41 (by omega) iT.1 rfl ?_
  refine v_iload_n hX d_Bs_isMistakenByOthers_44 1 rfl ?_
  refine g_aaldA (i := 12) hX hj d_Bs_isMistakenByOthers_45 (by omega) iT.2.1 rfl (by decide) (r) rfl (by omega) (if_pos (by omega)) ?_
  refine g_callVR (As := [.ref (ad (28 + r))]) (st := []) hX hj (i := 9) (by omega) g4.1 (m_Tre_whereComes hj iT hB 1 (by decide) (gAll so rC rK rL le de wo 1 T1 ch1 (nd (2 ^ n - 1) (2 ^ r))).1 v1.2.1 (gAll so rC rK rL le de wo 1 T1 ch1 (nd (2 ^ n - 1) (2 ^ r))).2.1 (gAll so rC rK rL le de wo 1 T1 ch1 (nd (2 ^ n - 1) (2 ^ r))).2.2 g4 v2 v3 (28 + r) (by omega) (val r) (iT.2.2.2.2.2.2.2.2 r (by omega)) (hV r hr)) cl_Bs_152 d_Bs_isMistakenByOthers_46 rfl ⟨by decide, by decide⟩ ⟨by decide, by decide⟩ (Nat.le_of_ble_eq_true rfl) (fun z15 σ16 hp18 => ?_)
  obtain ⟨he19, hre, hw47⟩ := hp18
  rw [he19]
  subst hre
  obtain ⟨kw, hkw⟩ : ∃ kw, kw = kWh 1 so (val r) (gAll so rC rK rL le de wo 1 T1 ch1 (nd (2 ^ n - 1) (2 ^ r))).2.1 (gAll so rC rK rL le de wo 1 T1 ch1 (nd (2 ^ n - 1) (2 ^ r))).2.2 5 0 := ⟨_, rfl⟩
  rw [← hkw] at hw47 ⊢
  refine v_eq (st' := [.ref (ad (217 + 3 * kw))]) (by show va_rf (some (ad (76 + 141 * 1 + 3 * kw))) :: _ = _; rw [show 76 + 141 * 1 + 3 * kw = 217 + 3 * kw by omega]; rfl) ?_
  have hn : pNod ad σ12 (217 + 3 * kw) kw ((gAll so rC rK rL le de wo 1 T1 ch1 (nd (2 ^ n - 1) (2 ^ r))).2.1 kw) ((gAll so rC rK rL le de wo 1 T1 ch1 (nd (2 ^ n - 1) (2 ^ r))).2.2 kw) := g4.2.2 kw hw47
  obtain ⟨lb, hlb⟩ : ∃ lb, lb = (gAll so rC rK rL le de wo 1 T1 ch1 (nd (2 ^ n - 1) (2 ^ r))).2.1 kw 4 := ⟨_, rfl⟩
  refine g_get (i := 217 + 3 * kw) hX hj fl_Bs_205 d_Bs_isMistakenByOthers_49 (by omega) hn.1 rfl ?_
  have hlr : ir lb := by rw [hlb, hkw]; exact hLr T1 ch1 t3 t4
  refine v_eq (st' := [.int (iv (lb))]) (by rw [hlb]) ?_
  refine v_aload_n hX d_Bs_isMistakenByOthers_52 0 rfl ?_
  refine g_get (i := 0) hX hj fl_Bs_12 d_Bs_isMistakenByOthers_53 (by omega) i0 rfl ?_
  refine g_get (i := 1) hX hj fl_Bs_208 d_Bs_isMistakenByOthers_56 (by omega) iT.1 rfl ?_
  refine v_iload_n hX d_Bs_isMistakenByOthers_59 1 rfl ?_
  refine g_iald (i := 13) hX hj d_Bs_isMistakenByOthers_60 (by omega) iT.2.2.1 (by decide) (r) rfl (by omega) ?_
  refine v_icmp_eq (tgt := 68) hX d_Bs_isMistakenByOthers_61 (by decide) (by first | assumption | (have := hB.2.1 r; unfold ir at *; omega)) (by first | assumption | (have := hB.2.1 r; unfold ir at *; omega)) (fun c61_2 => ?_) (fun c61_2 => ?_)
  · refine v_iconst hX (0) d_Bs_isMistakenByOthers_68 ?_
    exact hret _ _ _ _ d_Bs_isMistakenByOthers_69 (by unfold ir; omega) ⟨_, rfl, (by rw [kMis_e hde hN2 1 T1 ch1, ← hkw, ← hlb]; exact pI_f (by omega)), hJ, fun i hi => g1 i (by omega) (by omega) (by omega) (by omega) (by omega) (by omega)⟩ rfl
  · refine v_iconst hX (1) d_Bs_isMistakenByOthers_64 ?_
    refine v_goto (tgt := 69) hX d_Bs_isMistakenByOthers_65 (by decide) ?_
    exact hret _ _ _ _ d_Bs_isMistakenByOthers_69 (by unfold ir; omega) ⟨_, rfl, (by rw [kMis_e hde hN2 1 T1 ch1, ← hkw, ← hlb]; exact pI_t (by omega)), hJ, fun i hi => g1 i (by omega) (by omega) (by omega) (by omega) (by omega) (by omega)⟩ rfl

set_option maxHeartbeats 1000000 in
set_option maxRecDepth 100000 in
theorem m_Bs_leftOut {G : xG} {f0 : xF} {ad : Nat → Nat} (hj : adOk ad 400) {σ : xF} {n : Nat} {val : Nat → Nat → Int} {cl so rC rK : Nat → Nat} {rL : Nat → Nat → Nat} {de le wo : Nat} {cg lo : Int} {ak : Nat → Int} {sz9 : Nat} {T9 : Nat → Nat → Int} {ch9 : Nat → Option Nat} {ps9 : Nat} {lc9 ws9 al9 be9 : Nat → Int} (hI : bsP G ad σ n val cl so rC rK rL de le wo cg lo ak sz9 T9 ch9 ps9 lc9 ws9 al9 be9) (hB : bTab n cl so rC rK rL) (hle : le ≤ 10) (hwo : wo ≤ 1000) (hde : de ≤ 5) (hV : ∀ r, r < n → tks so (val r) = true) (hLr : ∀ r T1 ch1, r < n → tOk T1 → chOk 1 ch1 → ir ((gAll so rC rK rL le de wo 1 T1 ch1 (nd (2 ^ n - 1) (2 ^ r))).2.1 (kWh 1 so (val r) (gAll so rC rK rL le de wo 1 T1 ch1 (nd (2 ^ n - 1) (2 ^ r))).2.1 (gAll so rC rK rL le de wo 1 T1 ch1 (nd (2 ^ n - 1) (2 ^ r))).2.2 5 0) 4)) (hlo : lo = -1 ∨ lo = (kOut val cl so rC rK rL le de wo n n)) (hlr : ir lo) : ∀ l, gI l G f0 ad 400 y_Bs_leftOut (.code y_Bs_leftOut c_Bs_leftOut 2 (some (.int))) rm_Bs_leftOut [.ref (ad 0)] σ (fun z σ' => z = (kOut val cl so rC rK rL le de wo n n) ∧ bsP G ad σ' n val cl so rC rK rL de le wo cg (kOut val cl so rC rK rL le de wo n n) ak sz9 T9 ch9 ps9 lc9 ws9 al9 be9 ∧ (∀ i, 358 ≤ i → σ' i = σ i)) := by
  intro l
  refine mI_of (rt := .int) (by decide) (Nat.le_of_ble_eq_true rfl) (fun X hX hret => ?_)
  show vV G X 0 0 0 [(0, .ref (ad 0))] [] (ov f0 ad 400 σ)
  obtain ⟨j0, jT, jL, jS, jO, ⟨jg, jgi⟩, j1, jTr, jz, jto, jch, jio, jP, jps, jal, ja0⟩ := id hI
  have hn24 := hB.1
  refine v_aload_n hX d_Bs_leftOut_0 0 rfl ?_
  refine g_get (i := 0) hX hj fl_Bs_61 d_Bs_leftOut_1 (by omega) j0 rfl ?_
  refine v_iconst hX (-1) d_Bs_leftOut_4 ?_
  refine v_icmp_ne (tgt := 54) hX d_Bs_leftOut_5 (by decide) (by first | assumption | (unfold ir at *; omega)) (by first | assumption | (unfold ir at *; omega)) (fun c5_1 => ?_) (fun c5_1 => ?_)
  · refine v_aload_n hX d_Bs_leftOut_54 0 rfl ?_
    refine g_get (i := 0) hX hj fl_Bs_61 d_Bs_leftOut_55 (by omega) j0 rfl ?_
    have el : lo = (kOut val cl so rC rK rL le de wo n n) := by omega
    exact hret _ _ _ _ d_Bs_leftOut_58 (by assumption) ⟨_, rfl, el, by rw [← el]; exact hI, fun _ _ => rfl⟩ rfl
  · refine v_aload_n hX d_Bs_leftOut_8 0 rfl ?_
    refine v_iconst hX (0) d_Bs_leftOut_9 ?_
    refine g_put (i := 0) (fs' := [.ref (ad 1), .ref (ad 2), .ref (ad 3), .ref (ad 8), .ref (ad 9), .ref (ad 10), .ref (ad 11), .int (iv (cg)), .int (iv (0))]) hX hj pf_Bs_61 d_Bs_leftOut_10 (by omega) j0 rfl rfl (Nat.le_of_ble_eq_true rfl) rfl ?_
    obtain ⟨σ1, hs2⟩ : ∃ s9, s9 = va_up σ (0) (eO 8 [.ref (ad 1), .ref (ad 2), .ref (ad 3), .ref (ad 8), .ref (ad 9), .ref (ad 10), .ref (ad 11), .int (iv (cg)), .int (iv (0))]) := ⟨_, rfl⟩
    rw [← hs2]
    have hf4 := (show σ1 (1) = σ (1) by rw [hs2, va_up_ne _ _ (by omega)]).trans jT.1
    have hf5 : σ1 (0) = (eO 8 [.ref (ad 1), .ref (ad 2), .ref (ad 3), .ref (ad 8), .ref (ad 9), .ref (ad 10), .ref (ad 11), .int (iv (cg)), .int (iv (0))]) := by rw [hs2, va_up_self]
    refine v_iconst hX (0) d_Bs_leftOut_13 ?_
    refine v_istore_n (lv' := [(1, .int (iv (0))), (0, .ref (ad 0))]) hX d_Bs_leftOut_14 rfl (by decide) rfl ?_
    have LOOP : ∀ (fuel : Nat) (r : Nat) (σv : xF), n - r < fuel → (r ≤ n) → (bsP G ad σv n val cl so rC rK rL de le wo cg (kOut val cl so rC rK rL le de wo n r) ak sz9 T9 ch9 ps9 lc9 ws9 al9 be9) → (∀ i, 358 ≤ i → σv i = σ i) → vV G X 0 0 15 [(0, .ref (ad 0)), (1, .int (iv (((r : Nat) : Int))))] [] (ov f0 ad 400 σv) := by
      intro fuel
      induction fuel with
      | zero => intro r σv hm; exact absurd hm (Nat.not_lt_zero _)
      | succ fuel ih_LOOP =>
        intro r σv hm hr hv9 hfv
        obtain ⟨v0, vT, vR⟩ := id hv9
        have ko := kOut_le val cl so rC rK rL le de wo n r
        refine v_iload_n hX d_Bs_leftOut_15 1 rfl ?_
        refine v_aload_n hX d_Bs_leftOut_16 0 rfl ?_
        refine g_get (i := 0) hX hj fl_Bs_12 d_Bs_leftOut_17 (by omega) v0 rfl ?_
        refine g_get (i := 1) hX hj fl_Bs_69 d_Bs_leftOut_20 (by omega) vT.1 rfl ?_
        refine v_icmp_ge (tgt := 54) hX d_Bs_leftOut_23 (by decide) (by first | assumption | (unfold ir at *; omega)) (by first | assumption | (unfold ir at *; omega)) (fun c23_2 => ?_) (fun c23_2 => ?_)
        · refine v_aload_n hX d_Bs_leftOut_54 0 rfl ?_
          refine g_get (i := 0) hX hj fl_Bs_61 d_Bs_leftOut_55 (by omega) v0 rfl ?_
          have er : r = n := by omega
          rw [er] at hv9 ko ⊢
          exact hret _ _ _ _ d_Bs_leftOut_58 (by unfold ir; omega) ⟨_, rfl, rfl, hv9, hfv⟩ rfl
        · refine v_aload_n hX d_Bs_leftOut_26 0 rfl ?_
          refine v_dup hX d_Bs_leftOut_27 rfl ?_
          refine g_get (i := 0) hX hj fl_Bs_61 d_Bs_leftOut_28 (by omega) v0 rfl ?_
          refine v_aload_n hX d_Bs_leftOut_31 0 rfl ?_
          refine v_iload_n hX d_Bs_leftOut_32 1 rfl ?_
          refine g_callVI (As := [.int (iv (((r : Nat) : Int)))]) (st := [.int (iv ((kOut val cl so rC rK rL le de wo n r))), .ref (ad 0)]) hX hj (i := 0) (by omega) v0 (m_Bs_isMistakenByOthers hj hv9 hB hle hwo hde hV r (by omega) (fun T1 ch1 => hLr r T1 ch1 (by omega))) cl_Bs_198 d_Bs_leftOut_33 rfl ⟨by decide, by decide⟩ ⟨by decide, by decide⟩ (Nat.le_of_ble_eq_true rfl) (fun z6 σ7 hz8 hp9 => ?_)
          obtain ⟨m1, m2, mfr⟩ := hp9
          obtain ⟨w0, wT, wR⟩ := id m2
          have mz : z6 = 0 ∨ z6 = 1 := by rw [m1]; exact pI_01 _
          refine v_if_eq (tgt := 43) hX d_Bs_leftOut_36 (by decide) (by first | assumption | (unfold ir at *; omega)) (fun c36_3 => ?_) (fun c36_3 => ?_)
          · refine v_iconst hX (0) d_Bs_leftOut_43 ?_
            refine v_iadd hX d_Bs_leftOut_44 ?_
            refine g_put (i := 0) (fs' := [.ref (ad 1), .ref (ad 2), .ref (ad 3), .ref (ad 8), .ref (ad 9), .ref (ad 10), .ref (ad 11), .int (iv (cg)), .int (iv (((kOut val cl so rC rK rL le de wo n r) + 0)))]) hX hj pf_Bs_61 d_Bs_leftOut_45 (by omega) w0 rfl rfl (Nat.le_of_ble_eq_true rfl) rfl ?_
            obtain ⟨σ10, hs11⟩ : ∃ s9, s9 = va_up σ7 (0) (eO 8 [.ref (ad 1), .ref (ad 2), .ref (ad 3), .ref (ad 8), .ref (ad 9), .ref (ad 10), .ref (ad 11), .int (iv (cg)), .int (iv (((kOut val cl so rC rK rL le de wo n r) + 0)))]) := ⟨_, rfl⟩
            rw [← hs11]
            have hf13 := (show σ10 (1) = σ7 (1) by rw [hs11, va_up_ne _ _ (by omega)]).trans wT.1
            have hf14 : σ10 (0) = (eO 8 [.ref (ad 1), .ref (ad 2), .ref (ad 3), .ref (ad 8), .ref (ad 9), .ref (ad 10), .ref (ad 11), .int (iv (cg)), .int (iv (((kOut val cl so rC rK rL le de wo n r) + 0)))]) := by rw [hs11, va_up_self]
            refine v_iincN (a := r) (n := 1) (lv' := [(1, .int (iv ((((r + 1) : Nat) : Int)))), (0, .ref (ad 0))]) hX d_Bs_leftOut_48 rfl 1 rfl (by decide) rfl ?_
            refine v_goto (tgt := 15) hX d_Bs_leftOut_51 (by decide) ?_
            refine v_lv [1, 0] rfl ?_
            exact ih_LOOP (r + 1) (σ10) (by omega) (by omega) (bsP_own m2 (hs11.trans (congrArg (fun q => va_up _ 0 (bsE ad cg q)) (by show _ = (kOut val cl so rC rK rL le de wo n r) + kMis val cl so rC rK rL le de wo n r; rw [← m1]; omega)))) (fun i hi => by rw [hs11, va_up_ne _ _ (by omega), mfr i hi]; exact hfv i hi)
          · refine v_iconst hX (1) d_Bs_leftOut_39 ?_
            refine v_goto (tgt := 44) hX d_Bs_leftOut_40 (by decide) ?_
            refine v_iadd hX d_Bs_leftOut_44 ?_
            refine g_put (i := 0) (fs' := [.ref (ad 1), .ref (ad 2), .ref (ad 3), .ref (ad 8), .ref (ad 9), .ref (ad 10), .ref (ad 11), .int (iv (cg)), .int (iv (((kOut val cl so rC rK rL le de wo n r) + 1)))]) hX hj pf_Bs_61 d_Bs_leftOut_45 (by omega) w0 rfl rfl (Nat.le_of_ble_eq_true rfl) rfl ?_
            obtain ⟨σ15, hs16⟩ : ∃ s9, s9 = va_up σ7 (0) (eO 8 [.ref (ad 1), .ref (ad 2), .ref (ad 3), .ref (ad 8), .ref (ad 9), .ref (ad 10), .ref (ad 11), .int (iv (cg)), .int (iv (((kOut val cl so rC rK rL le de wo n r) + 1)))]) := ⟨_, rfl⟩
            rw [← hs16]
            have hf18 := (show σ15 (1) = σ7 (1) by rw [hs16, va_up_ne _ _ (by omega)]).trans wT.1
            have hf19 : σ15 (0) = (eO 8 [.ref (ad 1), .ref (ad 2), .ref (ad 3), .ref (ad 8), .ref (ad 9), .ref (ad 10), .ref (ad 11), .int (iv (cg)), .int (iv (((kOut val cl so rC rK rL le de wo n r) + 1)))]) := by rw [hs16, va_up_self]
            refine v_iincN (a := r) (n := 1) (lv' := [(1, .int (iv ((((r + 1) : Nat) : Int)))), (0, .ref (ad 0))]) hX d_Bs_leftOut_48 rfl 1 rfl (by decide) rfl ?_
            refine v_goto (tgt := 15) hX d_Bs_leftOut_51 (by decide) ?_
            refine v_lv [1, 0] rfl ?_
            exact ih_LOOP (r + 1) (σ15) (by omega) (by omega) (bsP_own m2 (hs16.trans (congrArg (fun q => va_up _ 0 (bsE ad cg q)) (by show _ = (kOut val cl so rC rK rL le de wo n r) + kMis val cl so rC rK rL le de wo n r; rw [← m1]; omega)))) (fun i hi => by rw [hs16, va_up_ne _ _ (by omega), mfr i hi]; exact hfv i hi)
    refine v_lv [1, 0] rfl ?_
    exact LOOP _ (0) (σ1) (Nat.lt_succ_self _) (Nat.zero_le _) (bsP_own hI hs2) (fun i hi => by rw [hs2, va_up_ne _ _ (by omega)])
