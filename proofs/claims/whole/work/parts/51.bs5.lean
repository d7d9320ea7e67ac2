/-! THE GROWN TREE, asked; by program -/
set_option maxHeartbeats 1000000 in
set_option maxRecDepth 100000 in
theorem m_Bs_growIfChanged {G : xG} {f0 : xF} {ad : Nat → Nat} (hj : adOk ad 400) {σ : xF} {n : Nat} {val : Nat → Nat → Int} {cl so rC rK : Nat → Nat} {rL : Nat → Nat → Nat} {de le wo : Nat} {cg lo : Int} {ak : Nat → Int} {sz9 : Nat} {T9 : Nat → Nat → Int} {ch9 : Nat → Option Nat} {ps9 : Nat} {lc9 ws9 al9 be9 : Nat → Int} (hI : bsP G ad σ n val cl so rC rK rL de le wo cg lo ak sz9 T9 ch9 ps9 lc9 ws9 al9 be9) (hB : bTab n cl so rC rK rL) (hle : le ≤ 10) (hwo : wo ≤ 1000) (hde : de ≤ 5) (hcg : cg = 1 ∨ (cg = 0 ∧ blt so rC rK rL le de wo n sz9 T9 ch9 ps9 lc9 ws9 al9 be9)) : ∀ l, gVo l G f0 ad 400 y_Bs_growIfChanged (.code y_Bs_growIfChanged c_Bs_growIfChanged 1 none) rm_Bs_growIfChanged [.ref (ad 0)] σ (fun σ' => ∃ sz T ch ps lc ws al be, bsP G ad σ' n val cl so rC rK rL de le wo 0 lo ak sz T ch ps lc ws al be ∧ blt so rC rK rL le de wo n sz T ch ps lc ws al be ∧ (∀ i, 358 ≤ i → σ' i = σ i)) := by
  intro l
  refine mV_of (by decide) (Nat.le_of_ble_eq_true rfl) (fun X hX hret => ?_)
  show vV G X 0 0 0 [(0, .ref (ad 0))] [] (ov f0 ad 400 σ)
  obtain ⟨j0, jT, jL, jS, jO, ⟨jg, jgi⟩, j1, jTr, jz, jto, jch, jio, jP, jps, jal, ja0⟩ := id hI
  have hR : 2 ^ n - 1 < 16777216 := by have h3 : 2 ^ n ≤ 2 ^ 24 := Nat.pow_le_pow_right (by decide) hB.1; omega
  have irc : ir cg := by
    unfold ir
    rcases hcg with q | q
    · omega
    · omega
  refine v_aload_n hX d_Bs_growIfChanged_0 0 rfl ?_
  refine g_get (i := 0) hX hj fl_Bs_57 d_Bs_growIfChanged_1 (by omega) j0 rfl ?_
  refine v_if_eq (tgt := 33) hX d_Bs_growIfChanged_4 (by decide) irc (fun c4_1 => ?_) (fun c4_1 => ?_)
  · rcases hcg with q1 | ⟨q0, hb⟩
    · omega
    · exact hret _ _ _ d_Bs_growIfChanged_33 ⟨_, rfl, sz9, T9, ch9, ps9, lc9, ws9, al9, be9, by rw [← q0]; exact hI, hb, fun _ _ => rfl⟩
  · refine v_aload_n hX d_Bs_growIfChanged_7 0 rfl ?_
    refine g_get (i := 0) hX hj fl_Bs_37 d_Bs_growIfChanged_8 (by omega) j0 rfl ?_
    refine v_aload_n hX d_Bs_growIfChanged_11 0 rfl ?_
    refine g_get (i := 0) hX hj fl_Bs_12 d_Bs_growIfChanged_12 (by omega) j0 rfl ?_
    refine g_callVI (As := []) (st := [.ref (ad 8)]) hX hj (i := 1) (by omega) jT.1 (m_Tab_allRows hj jT hB ) cl_Bs_166 d_Bs_growIfChanged_15 rfl ⟨by decide, by decide⟩ ⟨by decide, by decide⟩ (Nat.le_of_ble_eq_true rfl) (fun z1 σ2 hz3 hp4 => ?_)
    obtain ⟨he5, hv6⟩ := hp4
    rw [he5]
    subst hv6
    refine g_callVV (As := [.int (iv ((((2 ^ n - 1) : Nat) : Int)))]) (st := []) hX hj (i := 8) (by omega) jTr.1 (m_Tre_grow hj jT hB jS jL hle hwo hde jO 0 (by decide) sz9 jz.2 T9 ch9 jTr (2 ^ n - 1) hR) cl_Bs_201 d_Bs_growIfChanged_18 rfl ⟨by decide, by decide⟩ ⟨by decide, by decide⟩ (Nat.le_of_ble_eq_true rfl) (fun σ8 hp10 => ?_)
    obtain ⟨g1, g2, g3, g4⟩ := hp10
    rw [gAll_eq] at g4
    have hP1 : pPru G ad σ8 ps9 lc9 ws9 al9 be9 := jP.up (fun i hi => g1 i (by omega) (by omega) (by omega) (by omega) (by omega) (by omega))
    have h01 : σ8 0 = bsE ad cg lo := (g1 0 (by decide) (by decide) (by decide) (by decide) (by decide) (by omega)).trans j0
    obtain ⟨v1, v2, v3, v4⟩ := gInv_all (so := so) (rC := rC) (rK := rK) (rL := rL) (le := le) (wo := wo) (t := 0) hde jto jch hR
    refine v_aload_n hX d_Bs_growIfChanged_21 0 rfl ?_
    refine g_get (i := 0) hX hj fl_Bs_49 d_Bs_growIfChanged_22 (by omega) h01 rfl ?_
    refine g_callVV (As := []) (st := []) hX hj (i := 10) (by omega) hP1.1 (m_Pru_cutBackToRoot hj hP1 jps (gAll so rC rK rL le de wo 0 T9 ch9 (2 ^ n - 1)).1 v1.2.1 v1.1 (gAll so rC rK rL le de wo 0 T9 ch9 (2 ^ n - 1)).2.1 (gAll so rC rK rL le de wo 0 T9 ch9 (2 ^ n - 1)).2.2 g4 v3 (gAll_iOk (so := so) (rC := rC) (rK := rK) (rL := rL) (le := le) (de := de) (wo := wo) (t := 0) (T0 := T9) (ch0 := ch9) (rows := 2 ^ n - 1) jio) jal (hi5_all v1 v4)) cl_Bs_211 d_Bs_growIfChanged_25 rfl ⟨by decide, by decide⟩ ⟨by decide, by decide⟩ (Nat.le_of_ble_eq_true rfl) (fun σ12 hp14 => ?_)
    obtain ⟨Z, hZ, z1, z2, z3, z4, z5, z6, z7⟩ := hp14
    have h02 : σ12 0 = bsE ad cg lo := (z5 0 (by decide) (by omega) (by omega)).trans h01
    refine v_aload_n hX d_Bs_growIfChanged_28 0 rfl ?_
    refine v_iconst hX (0) d_Bs_growIfChanged_29 ?_
    refine g_put (i := 0) (fs' := [.ref (ad 1), .ref (ad 2), .ref (ad 3), .ref (ad 8), .ref (ad 9), .ref (ad 10), .ref (ad 11), .int (iv (0)), .int (iv (lo))]) hX hj pf_Bs_57 d_Bs_growIfChanged_30 (by omega) h02 rfl rfl (Nat.le_of_ble_eq_true rfl) rfl ?_
    obtain ⟨σ15, hs16⟩ : ∃ s9, s9 = va_up σ12 (0) (eO 8 [.ref (ad 1), .ref (ad 2), .ref (ad 3), .ref (ad 8), .ref (ad 9), .ref (ad 10), .ref (ad 11), .int (iv (0)), .int (iv (lo))]) := ⟨_, rfl⟩
    rw [← hs16]
    have hf18 : σ15 (0) = (eO 8 [.ref (ad 1), .ref (ad 2), .ref (ad 3), .ref (ad 8), .ref (ad 9), .ref (ad 10), .ref (ad 11), .int (iv (0)), .int (iv (lo))]) := by rw [hs16, va_up_self]
    obtain ⟨y1, y2⟩ := bsP_grown hI hB.1 hde g1 g2 hZ z1 z2 z3 z4 z5 z6 z7 hs16
    exact hret _ _ _ d_Bs_growIfChanged_33 ⟨_, rfl, _, _, _, _, _, _, _, _, y1, y2, fun i hi => by rw [hs16, va_up_ne _ _ (by omega), z5 i (by omega) (by omega) (by omega), g1 i (by omega) (by omega) (by omega) (by omega) (by omega) (by omega)]⟩

set_option maxHeartbeats 1000000 in
set_option maxRecDepth 100000 in
theorem m_Bs_nodes {G : xG} {f0 : xF} {ad : Nat → Nat} (hj : adOk ad 400) {σ : xF} {n : Nat} {val : Nat → Nat → Int} {cl so rC rK : Nat → Nat} {rL : Nat → Nat → Nat} {de le wo : Nat} {cg lo : Int} {ak : Nat → Int} {sz9 : Nat} {T9 : Nat → Nat → Int} {ch9 : Nat → Option Nat} {ps9 : Nat} {lc9 ws9 al9 be9 : Nat → Int} (hI : bsP G ad σ n val cl so rC rK rL de le wo cg lo ak sz9 T9 ch9 ps9 lc9 ws9 al9 be9) (hB : bTab n cl so rC rK rL) (hle : le ≤ 10) (hwo : wo ≤ 1000) (hde : de ≤ 5) (hcg : cg = 1 ∨ (cg = 0 ∧ blt so rC rK rL le de wo n sz9 T9 ch9 ps9 lc9 ws9 al9 be9))  : ∀ l, gI l G f0 ad 400 y_Bs_nodes (.code y_Bs_nodes c_Bs_nodes 1 (some (.int))) rm_Bs_nodes [.ref (ad 0)] σ (fun z σ' => ∃ sz T ch ps lc ws al be, bsP G ad σ' n val cl so rC rK rL de le wo 0 lo ak sz T ch ps lc ws al be ∧ blt so rC rK rL le de wo n sz T ch ps lc ws al be ∧ (∀ i, 358 ≤ i → σ' i = σ i) ∧ z = (sz : Int)) := by
  intro l
  refine mI_of (rt := .int) (by decide) (Nat.le_of_ble_eq_true rfl) (fun X hX hret => ?_)
  show vV G X 0 0 0 [(0, .ref (ad 0))] [] (ov f0 ad 400 σ)
  obtain ⟨j0, jT, jL, jS, jO, ⟨jg, jgi⟩, j1, jTr, jz, jto, jch, jio, jP, jps, jal, ja0⟩ := id hI
  refine v_aload_n hX d_Bs_nodes_0 0 rfl ?_
  refine g_callVV (As := []) (st := []) hX hj (i := 0) (by omega) j0 (m_Bs_growIfChanged hj hI hB hle hwo hde hcg) cl_Bs_107 d_Bs_nodes_1 rfl ⟨by decide, by decide⟩ ⟨by decide, by decide⟩ (Nat.le_of_ble_eq_true rfl) (fun σ2 hp4 => ?_)
  obtain ⟨sz, T, ch, ps, lc, ws, al, be, hJ, hb, hfr⟩ := hp4
  obtain ⟨i0, iT, iL, iS, iO, ⟨ig, igi⟩, i1, iTr, iz, ito, ich, iio, iP, ips, ial, ia0⟩ := id hJ
  obtain ⟨iz1, iz2⟩ := id iz
  refine v_aload_n hX d_Bs_nodes_4 0 rfl ?_
  refine g_get (i := 0) hX hj fl_Bs_37 d_Bs_nodes_5 (by omega) i0 rfl ?_
  refine g_get (i := 8) hX hj fl_Bs_110 d_Bs_nodes_8 (by omega) iTr.1 rfl ?_
  exact hret _ _ _ _ d_Bs_nodes_11 (by unfold ir; omega) ⟨_, rfl, sz, T, ch, ps, lc, ws, al, be, hJ, hb, hfr, rfl⟩ rfl

set_option maxHeartbeats 1000000 in
set_option maxRecDepth 100000 in
theorem m_Bs_stages {G : xG} {f0 : xF} {ad : Nat → Nat} (hj : adOk ad 400) {σ : xF} {n : Nat} {val : Nat → Nat → Int} {cl so rC rK : Nat → Nat} {rL : Nat → Nat → Nat} {de le wo : Nat} {cg lo : Int} {ak : Nat → Int} {sz9 : Nat} {T9 : Nat → Nat → Int} {ch9 : Nat → Option Nat} {ps9 : Nat} {lc9 ws9 al9 be9 : Nat → Int} (hI : bsP G ad σ n val cl so rC rK rL de le wo cg lo ak sz9 T9 ch9 ps9 lc9 ws9 al9 be9) (hB : bTab n cl so rC rK rL) (hle : le ≤ 10) (hwo : wo ≤ 1000) (hde : de ≤ 5) (hcg : cg = 1 ∨ (cg = 0 ∧ blt so rC rK rL le de wo n sz9 T9 ch9 ps9 lc9 ws9 al9 be9))  : ∀ l, gI l G f0 ad 400 y_Bs_stages (.code y_Bs_stages c_Bs_stages 1 (some (.int))) rm_Bs_stages [.ref (ad 0)] σ (fun z σ' => ∃ sz T ch ps lc ws al be, bsP G ad σ' n val cl so rC rK rL de le wo 0 lo ak sz T ch ps lc ws al be ∧ blt so rC rK rL le de wo n sz T ch ps lc ws al be ∧ (∀ i, 358 ≤ i → σ' i = σ i) ∧ z = (ps : Int)) := by
  intro l
  refine mI_of (rt := .int) (by decide) (Nat.le_of_ble_eq_true rfl) (fun X hX hret => ?_)
  show vV G X 0 0 0 [(0, .ref (ad 0))] [] (ov f0 ad 400 σ)
  obtain ⟨j0, jT, jL, jS, jO, ⟨jg, jgi⟩, j1, jTr, jz, jto, jch, jio, jP, jps, jal, ja0⟩ := id hI
  refine v_aload_n hX d_Bs_stages_0 0 rfl ?_
  refine g_callVV (As := []) (st := []) hX hj (i := 0) (by omega) j0 (m_Bs_growIfChanged hj hI hB hle hwo hde hcg) cl_Bs_107 d_Bs_stages_1 rfl ⟨by decide, by decide⟩ ⟨by decide, by decide⟩ (Nat.le_of_ble_eq_true rfl) (fun σ2 hp4 => ?_)
  obtain ⟨sz, T, ch, ps, lc, ws, al, be, hJ, hb, hfr⟩ := hp4
  obtain ⟨i0, iT, iL, iS, iO, ⟨ig, igi⟩, i1, iTr, iz, ito, ich, iio, iP, ips, ial, ia0⟩ := id hJ
  obtain ⟨iz1, iz2⟩ := id iz
  refine v_aload_n hX d_Bs_stages_4 0 rfl ?_
  refine g_get (i := 0) hX hj fl_Bs_49 d_Bs_stages_5 (by omega) i0 rfl ?_
  refine g_get (i := 10) hX hj fl_Bs_183 d_Bs_stages_8 (by omega) iP.1 rfl ?_
  exact hret _ _ _ _ d_Bs_stages_11 (by unfold ir; omega) ⟨_, rfl, sz, T, ch, ps, lc, ws, al, be, hJ, hb, hfr, rfl⟩ rfl

set_option maxHeartbeats 1000000 in
set_option maxRecDepth 100000 in
theorem m_Bs_leaves {G : xG} {f0 : xF} {ad : Nat → Nat} (hj : adOk ad 400) {σ : xF} {n : Nat} {val : Nat → Nat → Int} {cl so rC rK : Nat → Nat} {rL : Nat → Nat → Nat} {de le wo : Nat} {cg lo : Int} {ak : Nat → Int} {sz9 : Nat} {T9 : Nat → Nat → Int} {ch9 : Nat → Option Nat} {ps9 : Nat} {lc9 ws9 al9 be9 : Nat → Int} (hI : bsP G ad σ n val cl so rC rK rL de le wo cg lo ak sz9 T9 ch9 ps9 lc9 ws9 al9 be9) (hB : bTab n cl so rC rK rL) (hle : le ≤ 10) (hwo : wo ≤ 1000) (hde : de ≤ 5) (hcg : cg = 1 ∨ (cg = 0 ∧ blt so rC rK rL le de wo n sz9 T9 ch9 ps9 lc9 ws9 al9 be9)) (hQ : bQ so rC rK rL le de wo n) (s : Int) (hs : ir s) : ∀ l, gI l G f0 ad 400 y_Bs_leaves (.code y_Bs_leaves c_Bs_leaves 2 (some (.int))) rm_Bs_leaves [.ref (ad 0), .int (iv (s))] σ (fun z σ' => ∃ sz T ch ps lc ws al be, bsP G ad σ' n val cl so rC rK rL de le wo 0 lo ak sz T ch ps lc ws al be ∧ blt so rC rK rL le de wo n sz T ch ps lc ws al be ∧ (∀ i, 358 ≤ i → σ' i = σ i) ∧ z = aStg ps lc s) := by
  intro l
  refine mI_of (rt := .int) (by decide) (Nat.le_of_ble_eq_true rfl) (fun X hX hret => ?_)
  show vV G X 0 0 0 [(0, .ref (ad 0)), (1, .int (iv (s)))] [] (ov f0 ad 400 σ)
  obtain ⟨j0, jT, jL, jS, jO, ⟨jg, jgi⟩, j1, jTr, jz, jto, jch, jio, jP, jps, jal, ja0⟩ := id hI
  refine v_aload_n hX d_Bs_leaves_0 0 rfl ?_
  refine g_callVV (As := []) (st := []) hX hj (i := 0) (by omega) j0 (m_Bs_growIfChanged hj hI hB hle hwo hde hcg) cl_Bs_107 d_Bs_leaves_1 rfl ⟨by decide, by decide⟩ ⟨by decide, by decide⟩ (Nat.le_of_ble_eq_true rfl) (fun σ2 hp4 => ?_)
  obtain ⟨sz, T, ch, ps, lc, ws, al, be, hJ, hb, hfr⟩ := hp4
  obtain ⟨i0, iT, iL, iS, iO, ⟨ig, igi⟩, i1, iTr, iz, ito, ich, iio, iP, ips, ial, ia0⟩ := id hJ
  obtain ⟨iz1, iz2⟩ := id iz
  obtain ⟨o1, o2, o3, o4⟩ := hQ _ _ _ _ _ _ _ _ hb
  refine v_aload_n hX d_Bs_leaves_4 0 rfl ?_
  refine g_get (i := 0) hX hj fl_Bs_49 d_Bs_leaves_5 (by omega) i0 rfl ?_
  refine v_iload_n hX d_Bs_leaves_8 1 rfl ?_
  refine g_callVI (As := [.int (iv (s))]) (st := []) hX hj (i := 10) (by omega) iP.1 (m_Pru_has hj iP ips s (by first | assumption | (unfold ir at *; omega))) cl_Bs_184 d_Bs_leaves_9 rfl ⟨by decide, by decide⟩ ⟨by decide, by decide⟩ (Nat.le_of_ble_eq_true rfl) (fun z5 σ6 hz7 hp8 => ?_)
  obtain ⟨he9, hv10⟩ := hp8
  rw [he9]
  by_cases qz5 : 0 ≤ s ∧ s < (ps : Int)
  · have z5e : z5 = 1 := hv10.trans (if_pos qz5)
    subst z5e
    refine v_if_eq (tgt := 27) hX d_Bs_leaves_12 (by decide) (by first | assumption | (unfold ir at *; omega)) (fun c9 => absurd c9 (by omega)) (fun c9 => ?_)
    refine v_aload_n hX d_Bs_leaves_15 0 rfl ?_
    refine g_get (i := 0) hX hj fl_Bs_49 d_Bs_leaves_16 (by omega) i0 rfl ?_
    refine g_get (i := 10) hX hj fl_Bs_189 d_Bs_leaves_19 (by omega) iP.1 rfl ?_
    refine v_iload_n hX d_Bs_leaves_22 1 rfl ?_
    refine g_iald (i := 21) hX hj d_Bs_leaves_23 (by omega) iP.2.2.1 (by decide) (Int.toNat (s)) (by omega) (by omega) ?_
    refine v_goto (tgt := 28) hX d_Bs_leaves_24 (by decide) ?_
    exact hret _ _ _ _ d_Bs_leaves_28 (o4 s.toNat (by omega)).1 ⟨_, rfl, sz, T, ch, ps, lc, ws, al, be, hJ, hb, hfr, aStg_t (by assumption)⟩ rfl
  · have z5e : z5 = 0 := hv10.trans (if_neg qz5)
    subst z5e
    refine v_if_eq (tgt := 27) hX d_Bs_leaves_12 (by decide) (by first | assumption | (unfold ir at *; omega)) (fun c9 => ?_) (fun c9 => absurd c9 (by omega))
    refine v_iconst hX (-1) d_Bs_leaves_27 ?_
    exact hret _ _ _ _ d_Bs_leaves_28 (by unfold ir; omega) ⟨_, rfl, sz, T, ch, ps, lc, ws, al, be, hJ, hb, hfr, aStg_f (by assumption)⟩ rfl

set_option maxHeartbeats 1000000 in
set_option maxRecDepth 100000 in
theorem m_Bs_wrong {G : xG} {f0 : xF} {ad : Nat → Nat} (hj : adOk ad 400) {σ : xF} {n : Nat} {val : Nat → Nat → Int} {cl so rC rK : Nat → Nat} {rL : Nat → Nat → Nat} {de le wo : Nat} {cg lo : Int} {ak : Nat → Int} {sz9 : Nat} {T9 : Nat → Nat → Int} {ch9 : Nat → Option Nat} {ps9 : Nat} {lc9 ws9 al9 be9 : Nat → Int} (hI : bsP G ad σ n val cl so rC rK rL de le wo cg lo ak sz9 T9 ch9 ps9 lc9 ws9 al9 be9) (hB : bTab n cl so rC rK rL) (hle : le ≤ 10) (hwo : wo ≤ 1000) (hde : de ≤ 5) (hcg : cg = 1 ∨ (cg = 0 ∧ blt so rC rK rL le de wo n sz9 T9 ch9 ps9 lc9 ws9 al9 be9)) (hQ : bQ so rC rK rL le de wo n) (s : Int) (hs : ir s) : ∀ l, gI l G f0 ad 400 y_Bs_wrong (.code y_Bs_wrong c_Bs_wrong 2 (some (.int))) rm_Bs_wrong [.ref (ad 0), .int (iv (s))] σ (fun z σ' => ∃ sz T ch ps lc ws al be, bsP G ad σ' n val cl so rC rK rL de le wo 0 lo ak sz T ch ps lc ws al be ∧ blt so rC rK rL le de wo n sz T ch ps lc ws al be ∧ (∀ i, 358 ≤ i → σ' i = σ i) ∧ z = aStg ps ws s) := by
  intro l
  refine mI_of (rt := .int) (by decide) (Nat.le_of_ble_eq_true rfl) (fun X hX hret => ?_)
  show vV G X 0 0 0 [(0, .ref (ad 0)), (1, .int (iv (s)))] [] (ov f0 ad 400 σ)
  obtain ⟨j0, jT, jL, jS, jO, ⟨jg, jgi⟩, j1, jTr, jz, jto, jch, jio, jP, jps, jal, ja0⟩ := id hI
  refine v_aload_n hX d_Bs_wrong_0 0 rfl ?_
  refine g_callVV (As := []) (st := []) hX hj (i := 0) (by omega) j0 (m_Bs_growIfChanged hj hI hB hle hwo hde hcg) cl_Bs_107 d_Bs_wrong_1 rfl ⟨by decide, by decide⟩ ⟨by decide, by decide⟩ (Nat.le_of_ble_eq_true rfl) (fun σ2 hp4 => ?_)
  obtain ⟨sz, T, ch, ps, lc, ws, al, be, hJ, hb, hfr⟩ := hp4
  obtain ⟨i0, iT, iL, iS, iO, ⟨ig, igi⟩, i1, iTr, iz, ito, ich, iio, iP, ips, ial, ia0⟩ := id hJ
  obtain ⟨iz1, iz2⟩ := id iz
  obtain ⟨o1, o2, o3, o4⟩ := hQ _ _ _ _ _ _ _ _ hb
  refine v_aload_n hX d_Bs_wrong_4 0 rfl ?_
  refine g_get (i := 0) hX hj fl_Bs_49 d_Bs_wrong_5 (by omega) i0 rfl ?_
  refine v_iload_n hX d_Bs_wrong_8 1 rfl ?_
  refine g_callVI (As := [.int (iv (s))]) (st := []) hX hj (i := 10) (by omega) iP.1 (m_Pru_has hj iP ips s (by first | assumption | (unfold ir at *; omega))) cl_Bs_184 d_Bs_wrong_9 rfl ⟨by decide, by decide⟩ ⟨by decide, by decide⟩ (Nat.le_of_ble_eq_true rfl) (fun z5 σ6 hz7 hp8 => ?_)
  obtain ⟨he9, hv10⟩ := hp8
  rw [he9]
  by_cases qz5 : 0 ≤ s ∧ s < (ps : Int)
  · have z5e : z5 = 1 := hv10.trans (if_pos qz5)
    subst z5e
    refine v_if_eq (tgt := 27) hX d_Bs_wrong_12 (by decide) (by first | assumption | (unfold ir at *; omega)) (fun c9 => absurd c9 (by omega)) (fun c9 => ?_)
    refine v_aload_n hX d_Bs_wrong_15 0 rfl ?_
    refine g_get (i := 0) hX hj fl_Bs_49 d_Bs_wrong_16 (by omega) i0 rfl ?_
    refine g_get (i := 10) hX hj fl_Bs_192 d_Bs_wrong_19 (by omega) iP.1 rfl ?_
    refine v_iload_n hX d_Bs_wrong_22 1 rfl ?_
    refine g_iald (i := 22) hX hj d_Bs_wrong_23 (by omega) iP.2.2.2.1 (by decide) (Int.toNat (s)) (by omega) (by omega) ?_
    refine v_goto (tgt := 28) hX d_Bs_wrong_24 (by decide) ?_
    exact hret _ _ _ _ d_Bs_wrong_28 (o4 s.toNat (by omega)).2 ⟨_, rfl, sz, T, ch, ps, lc, ws, al, be, hJ, hb, hfr, aStg_t (by assumption)⟩ rfl
  · have z5e : z5 = 0 := hv10.trans (if_neg qz5)
    subst z5e
    refine v_if_eq (tgt := 27) hX d_Bs_wrong_12 (by decide) (by first | assumption | (unfold ir at *; omega)) (fun c9 => ?_) (fun c9 => absurd c9 (by omega))
    refine v_iconst hX (-1) d_Bs_wrong_27 ?_
    exact hret _ _ _ _ d_Bs_wrong_28 (by unfold ir; omega) ⟨_, rfl, sz, T, ch, ps, lc, ws, al, be, hJ, hb, hfr, aStg_f (by assumption)⟩ rfl

set_option maxHeartbeats 1000000 in
set_option maxRecDepth 100000 in
theorem m_Bs_state {G : xG} {f0 : xF} {ad : Nat → Nat} (hj : adOk ad 400) {σ : xF} {n : Nat} {val : Nat → Nat → Int} {cl so rC rK : Nat → Nat} {rL : Nat → Nat → Nat} {de le wo : Nat} {cg lo : Int} {ak : Nat → Int} {sz9 : Nat} {T9 : Nat → Nat → Int} {ch9 : Nat → Option Nat} {ps9 : Nat} {lc9 ws9 al9 be9 : Nat → Int} (hI : bsP G ad σ n val cl so rC rK rL de le wo cg lo ak sz9 T9 ch9 ps9 lc9 ws9 al9 be9) (hB : bTab n cl so rC rK rL) (hle : le ≤ 10) (hwo : wo ≤ 1000) (hde : de ≤ 5) (hcg : cg = 1 ∨ (cg = 0 ∧ blt so rC rK rL le de wo n sz9 T9 ch9 ps9 lc9 ws9 al9 be9)) (hQ : bQ so rC rK rL le de wo n) (s k : Int) (hs : ir s) (hk : ir k) : ∀ l, gI l G f0 ad 400 y_Bs_state (.code y_Bs_state c_Bs_state 4 (some (.int))) rm_Bs_state [.ref (ad 0), .int (iv (s)), .int (iv (k))] σ (fun z σ' => ∃ sz T ch ps lc ws al be, bsP G ad σ' n val cl so rC rK rL de le wo 0 lo ak sz T ch ps lc ws al be ∧ blt so rC rK rL le de wo n sz T ch ps lc ws al be ∧ (∀ i, 358 ≤ i → σ' i = σ i) ∧ z = aState sz T ps s k) := by
  intro l
  refine mI_of (rt := .int) (by decide) (Nat.le_of_ble_eq_true rfl) (fun X hX hret => ?_)
  show vV G X 0 0 0 [(0, .ref (ad 0)), (1, .int (iv (s))), (2, .int (iv (k)))] [] (ov f0 ad 400 σ)
  obtain ⟨j0, jT, jL, jS, jO, ⟨jg, jgi⟩, j1, jTr, jz, jto, jch, jio, jP, jps, jal, ja0⟩ := id hI
  refine v_aload_n hX d_Bs_state_0 0 rfl ?_
  refine g_callVV (As := []) (st := []) hX hj (i := 0) (by omega) j0 (m_Bs_growIfChanged hj hI hB hle hwo hde hcg) cl_Bs_107 d_Bs_state_1 rfl ⟨by decide, by decide⟩ ⟨by decide, by decide⟩ (Nat.le_of_ble_eq_true rfl) (fun σ2 hp4 => ?_)
  obtain ⟨sz, T, ch, ps, lc, ws, al, be, hJ, hb, hfr⟩ := hp4
  obtain ⟨i0, iT, iL, iS, iO, ⟨ig, igi⟩, i1, iTr, iz, ito, ich, iio, iP, ips, ial, ia0⟩ := id hJ
  obtain ⟨iz1, iz2⟩ := id iz
  obtain ⟨o1, o2, o3, o4⟩ := hQ _ _ _ _ _ _ _ _ hb
  refine v_aload_n hX d_Bs_state_4 0 rfl ?_
  refine g_get (i := 0) hX hj fl_Bs_37 d_Bs_state_5 (by omega) i0 rfl ?_
  refine v_iload_n hX d_Bs_state_8 2 rfl ?_
  refine g_callVR (As := [.int (iv (k))]) (st := []) hX hj (i := 8) (by omega) iTr.1 (m_Tre_find hj 0 (by decide) sz iz2 T ch iTr k (by first | assumption | (unfold ir at *; omega))) cl_Bs_111 d_Bs_state_9 rfl ⟨by decide, by decide⟩ ⟨by decide, by decide⟩ (Nat.le_of_ble_eq_true rfl) (fun z5 σ6 hp8 => ?_)
  obtain ⟨he9, hv10⟩ := hp8
  rw [he9]
  by_cases qf : 0 ≤ k ∧ k < (sz : Int)
  · have hv10e : z5 = some (ad (76 + 141 * 0 + 3 * k.toNat)) := by rw [hv10, if_pos qf]
    subst hv10e
    refine v_eq (st' := [.ref (ad (76 + 3 * k.toNat))]) (by show va_rf (some (ad (76 + 141 * 0 + 3 * k.toNat))) :: _ = _; rw [show 76 + 141 * 0 + 3 * k.toNat = 76 + 3 * k.toNat by omega]; rfl) ?_
    have hx : k.toNat < sz := by omega
    have hn : pNod ad σ2 (76 + 3 * k.toNat) k.toNat (T k.toNat) (ch k.toNat) := iTr.2.2 k.toNat (by omega)
    obtain ⟨⟨y2, y3, y5⟩, y4⟩ := o1 k.toNat hx
    refine v_astore_n (lv' := [(3, .ref (ad (76 + 3 * k.toNat))), (0, .ref (ad 0)), (1, .int (iv (s))), (2, .int (iv (k)))]) hX d_Bs_state_12 rfl (by decide) rfl ?_
    refine v_aload_n hX d_Bs_state_13 0 rfl ?_
    refine v_ifnull hX d_Bs_state_14 ?_
    refine v_aload_n hX d_Bs_state_17 1 rfl ?_
    refine g_get (i := 0) hX hj fl_Bs_49 d_Bs_state_18 (by omega) i0 rfl ?_
    refine v_iload_n hX d_Bs_state_21 2 rfl ?_
    refine g_callVI (As := [.int (iv (s))]) (st := []) hX hj (i := 10) (by omega) iP.1 (m_Pru_has hj iP ips s (by first | assumption | (unfold ir at *; omega))) cl_Bs_184 d_Bs_state_22 rfl ⟨by decide, by decide⟩ ⟨by decide, by decide⟩ (Nat.le_of_ble_eq_true rfl) (fun z11 σ12 hz13 hp14 => ?_)
    obtain ⟨he15, hv16⟩ := hp14
    rw [he15]
    by_cases qz11 : 0 ≤ s ∧ s < (ps : Int)
    · have z11e : z11 = 1 := hv16.trans (if_pos qz11)
      subst z11e
      refine v_if_ne (tgt := 30) hX d_Bs_state_25 (by decide) (by first | assumption | (unfold ir at *; omega)) (fun c9 => ?_) (fun c9 => absurd c9 (by omega))
      refine v_aload_n hX d_Bs_state_30 0 rfl ?_
      refine v_iload_n hX d_Bs_state_31 2 rfl ?_
      refine g_callVI (As := [.int (iv (s))]) (st := []) hX hj (i := 76 + 3 * k.toNat) (by omega) hn.1 (m_Nod_stateAt hj (76 + 3 * k.toNat) k.toNat (by omega) (T k.toNat) (ch k.toNat) hn s hs (iOk_ir iio (by omega)).1 (iOk_ir iio (by omega)).2) cl_Bs_195 d_Bs_state_32 rfl ⟨by decide, by decide⟩ ⟨by decide, by decide⟩ (Nat.le_of_ble_eq_true rfl) (fun z17 σ18 hz19 hp20 => ?_)
      obtain ⟨he21, hv22⟩ := hp20
      rw [he21]
      exact hret _ _ _ _ d_Bs_state_35 hz19 ⟨_, rfl, sz, T, ch, ps, lc, ws, al, be, hJ, hb, hfr, aState_t qf (by assumption) hv22⟩ rfl
    · have z11e : z11 = 0 := hv16.trans (if_neg qz11)
      subst z11e
      refine v_if_ne (tgt := 30) hX d_Bs_state_25 (by decide) (by first | assumption | (unfold ir at *; omega)) (fun c9 => absurd c9 (by omega)) (fun c9 => ?_)
      refine v_iconst hX (-1) d_Bs_state_28 ?_
      exact hret _ _ _ _ d_Bs_state_29 (by unfold ir; omega) ⟨_, rfl, sz, T, ch, ps, lc, ws, al, be, hJ, hb, hfr, aState_f (fun q => by first | exact absurd q.1 qf | omega)⟩ rfl
  · have hv10e : z5 = none := by rw [hv10, if_neg qf]
    subst hv10e
    refine v_eq (st' := [.null]) rfl ?_
    refine v_astore_nN (lv' := [(3, .null), (0, .ref (ad 0)), (1, .int (iv (s))), (2, .int (iv (k)))]) hX d_Bs_state_12 rfl (by decide) rfl ?_
    refine v_aload_nN hX d_Bs_state_13 0 rfl ?_
    refine v_ifnullN (tgt := 28) hX d_Bs_state_14 (by decide) ?_
    refine v_iconst hX (-1) d_Bs_state_28 ?_
    exact hret _ _ _ _ d_Bs_state_29 (by unfold ir; omega) ⟨_, rfl, sz, T, ch, ps, lc, ws, al, be, hJ, hb, hfr, aState_f (fun q => by first | exact absurd q.1 qf | omega)⟩ rfl

set_option maxHeartbeats 1000000 in
set_option maxRecDepth 100000 in
theorem m_Bs_count {G : xG} {f0 : xF} {ad : Nat → Nat} (hj : adOk ad 400) {σ : xF} {n : Nat} {val : Nat → Nat → Int} {cl so rC rK : Nat → Nat} {rL : Nat → Nat → Nat} {de le wo : Nat} {cg lo : Int} {ak : Nat → Int} {sz9 : Nat} {T9 : Nat → Nat → Int} {ch9 : Nat → Option Nat} {ps9 : Nat} {lc9 ws9 al9 be9 : Nat → Int} (hI : bsP G ad σ n val cl so rC rK rL de le wo cg lo ak sz9 T9 ch9 ps9 lc9 ws9 al9 be9) (hB : bTab n cl so rC rK rL) (hle : le ≤ 10) (hwo : wo ≤ 1000) (hde : de ≤ 5) (hcg : cg = 1 ∨ (cg = 0 ∧ blt so rC rK rL le de wo n sz9 T9 ch9 ps9 lc9 ws9 al9 be9)) (hQ : bQ so rC rK rL le de wo n) (k c : Int) (hk : ir k) (hc : ir c) : ∀ l, gI l G f0 ad 400 y_Bs_count (.code y_Bs_count c_Bs_count 4 (some (.int))) rm_Bs_count [.ref (ad 0), .int (iv (k)), .int (iv (c))] σ (fun z σ' => ∃ sz T ch ps lc ws al be, bsP G ad σ' n val cl so rC rK rL de le wo 0 lo ak sz T ch ps lc ws al be ∧ blt so rC rK rL le de wo n sz T ch ps lc ws al be ∧ (∀ i, 358 ≤ i → σ' i = σ i) ∧ z = aCount rC sz T k c) := by
  intro l
  refine mI_of (rt := .int) (by decide) (Nat.le_of_ble_eq_true rfl) (fun X hX hret => ?_)
  show vV G X 0 0 0 [(0, .ref (ad 0)), (1, .int (iv (k))), (2, .int (iv (c)))] [] (ov f0 ad 400 σ)
  obtain ⟨j0, jT, jL, jS, jO, ⟨jg, jgi⟩, j1, jTr, jz, jto, jch, jio, jP, jps, jal, ja0⟩ := id hI
  refine v_aload_n hX d_Bs_count_0 0 rfl ?_
  refine g_callVV (As := []) (st := []) hX hj (i := 0) (by omega) j0 (m_Bs_growIfChanged hj hI hB hle hwo hde hcg) cl_Bs_107 d_Bs_count_1 rfl ⟨by decide, by decide⟩ ⟨by decide, by decide⟩ (Nat.le_of_ble_eq_true rfl) (fun σ2 hp4 => ?_)
  obtain ⟨sz, T, ch, ps, lc, ws, al, be, hJ, hb, hfr⟩ := hp4
  obtain ⟨i0, iT, iL, iS, iO, ⟨ig, igi⟩, i1, iTr, iz, ito, ich, iio, iP, ips, ial, ia0⟩ := id hJ
  obtain ⟨iz1, iz2⟩ := id iz
  obtain ⟨o1, o2, o3, o4⟩ := hQ _ _ _ _ _ _ _ _ hb
  refine v_aload_n hX d_Bs_count_4 0 rfl ?_
  refine g_get (i := 0) hX hj fl_Bs_37 d_Bs_count_5 (by omega) i0 rfl ?_
  refine v_iload_n hX d_Bs_count_8 1 rfl ?_
  refine g_callVR (As := [.int (iv (k))]) (st := []) hX hj (i := 8) (by omega) iTr.1 (m_Tre_find hj 0 (by decide) sz iz2 T ch iTr k (by first | assumption | (unfold ir at *; omega))) cl_Bs_111 d_Bs_count_9 rfl ⟨by decide, by decide⟩ ⟨by decide, by decide⟩ (Nat.le_of_ble_eq_true rfl) (fun z5 σ6 hp8 => ?_)
  obtain ⟨he9, hv10⟩ := hp8
  rw [he9]
  by_cases qf : 0 ≤ k ∧ k < (sz : Int)
  · have hv10e : z5 = some (ad (76 + 141 * 0 + 3 * k.toNat)) := by rw [hv10, if_pos qf]
    subst hv10e
    refine v_eq (st' := [.ref (ad (76 + 3 * k.toNat))]) (by show va_rf (some (ad (76 + 141 * 0 + 3 * k.toNat))) :: _ = _; rw [show 76 + 141 * 0 + 3 * k.toNat = 76 + 3 * k.toNat by omega]; rfl) ?_
    have hx : k.toNat < sz := by omega
    have hn : pNod ad σ2 (76 + 3 * k.toNat) k.toNat (T k.toNat) (ch k.toNat) := iTr.2.2 k.toNat (by omega)
    obtain ⟨⟨y2, y3, y5⟩, y4⟩ := o1 k.toNat hx
    refine v_astore_n (lv' := [(3, .ref (ad (76 + 3 * k.toNat))), (0, .ref (ad 0)), (1, .int (iv (k))), (2, .int (iv (c)))]) hX d_Bs_count_12 rfl (by decide) rfl ?_
    refine v_aload_n hX d_Bs_count_13 0 rfl ?_
    refine v_ifnull hX d_Bs_count_14 ?_
    refine v_iload_n hX d_Bs_count_17 3 rfl ?_
    refine g_callSI (As := [.int (iv (c))]) (st := []) hX (k0_Bs_isClass (c) (by first | assumption | (unfold ir at *; omega))) cl_Bs_87 d_Bs_count_18 rfl ⟨by decide, by decide⟩ ⟨by decide, by decide⟩ (Nat.le_of_ble_eq_true rfl) (fun z11 hz12 hp13 => ?_)
    by_cases qz11 : 0 ≤ c ∧ c < 3
    · have z11e : z11 = 1 := hp13.trans (if_pos qz11)
      subst z11e
      refine v_if_ne (tgt := 26) hX d_Bs_count_21 (by decide) (by first | assumption | (unfold ir at *; omega)) (fun c9 => ?_) (fun c9 => absurd c9 (by omega))
      refine v_aload_n hX d_Bs_count_26 1 rfl ?_
      refine g_get (i := 0) hX hj fl_Bs_12 d_Bs_count_27 (by omega) i0 rfl ?_
      refine v_aload_n hX d_Bs_count_30 0 rfl ?_
      refine g_get (i := 76 + 3 * k.toNat) hX hj fl_Bs_124 d_Bs_count_31 (by omega) hn.1 rfl ?_
      refine v_iload_n hX d_Bs_count_34 3 rfl ?_
      refine v_eq (st' := [.int (iv (((c.toNat : Nat) : Int))), .int (iv ((((T k.toNat 2).toNat : Nat) : Int))), .ref (ad 1)]) (by rw [show ((c.toNat : Nat) : Int) = c by omega, show (((T k.toNat 2).toNat : Nat) : Int) = T k.toNat 2 by omega]) ?_
      refine g_callVI (As := [.int (iv ((((T k.toNat 2).toNat : Nat) : Int))), .int (iv (((c.toNat : Nat) : Int)))]) (st := []) hX hj (i := 1) (by omega) iT.1 (m_Tab_countOf hj iT hB (T k.toNat 2).toNat c.toNat (by omega) (by omega)) cl_Bs_127 d_Bs_count_35 rfl ⟨by decide, by decide⟩ ⟨by decide, by decide⟩ (Nat.le_of_ble_eq_true rfl) (fun z14 σ15 hz16 hp17 => ?_)
      obtain ⟨he18, hv19⟩ := hp17
      rw [he18]
      exact hret _ _ _ _ d_Bs_count_38 hz16 ⟨_, rfl, sz, T, ch, ps, lc, ws, al, be, hJ, hb, hfr, aCount_t qf (by assumption) hv19⟩ rfl
    · have z11e : z11 = 0 := hp13.trans (if_neg qz11)
      subst z11e
      refine v_if_ne (tgt := 26) hX d_Bs_count_21 (by decide) (by first | assumption | (unfold ir at *; omega)) (fun c9 => absurd c9 (by omega)) (fun c9 => ?_)
      refine v_iconst hX (-1) d_Bs_count_24 ?_
      exact hret _ _ _ _ d_Bs_count_25 (by unfold ir; omega) ⟨_, rfl, sz, T, ch, ps, lc, ws, al, be, hJ, hb, hfr, aCount_f (fun q => by first | exact absurd q.1 qf | omega)⟩ rfl
  · have hv10e : z5 = none := by rw [hv10, if_neg qf]
    subst hv10e
    refine v_eq (st' := [.null]) rfl ?_
    refine v_astore_nN (lv' := [(3, .null), (0, .ref (ad 0)), (1, .int (iv (k))), (2, .int (iv (c)))]) hX d_Bs_count_12 rfl (by decide) rfl ?_
    refine v_aload_nN hX d_Bs_count_13 0 rfl ?_
    refine v_ifnullN (tgt := 24) hX d_Bs_count_14 (by decide) ?_
    refine v_iconst hX (-1) d_Bs_count_24 ?_
    exact hret _ _ _ _ d_Bs_count_25 (by unfold ir; omega) ⟨_, rfl, sz, T, ch, ps, lc, ws, al, be, hJ, hb, hfr, aCount_f (fun q => by first | exact absurd q.1 qf | omega)⟩ rfl

set_option maxHeartbeats 1000000 in
set_option maxRecDepth 100000 in
theorem m_Bs_alpha {G : xG} {f0 : xF} {ad : Nat → Nat} (hj : adOk ad 400) {σ : xF} {n : Nat} {val : Nat → Nat → Int} {cl so rC rK : Nat → Nat} {rL : Nat → Nat → Nat} {de le wo : Nat} {cg lo : Int} {ak : Nat → Int} {sz9 : Nat} {T9 : Nat → Nat → Int} {ch9 : Nat → Option Nat} {ps9 : Nat} {lc9 ws9 al9 be9 : Nat → Int} (hI : bsP G ad σ n val cl so rC rK rL de le wo cg lo ak sz9 T9 ch9 ps9 lc9 ws9 al9 be9) (hB : bTab n cl so rC rK rL) (hle : le ≤ 10) (hwo : wo ≤ 1000) (hde : de ≤ 5) (hcg : cg = 1 ∨ (cg = 0 ∧ blt so rC rK rL le de wo n sz9 T9 ch9 ps9 lc9 ws9 al9 be9)) (hQ : bQ so rC rK rL le de wo n) (s p : Int) (hs : ir s) (hp : ir p) : ∀ l, gI l G f0 ad 400 y_Bs_alpha (.code y_Bs_alpha c_Bs_alpha 3 (some (.int))) rm_Bs_alpha [.ref (ad 0), .int (iv (s)), .int (iv (p))] σ (fun z σ' => ∃ sz T ch ps lc ws al be, bsP G ad σ' n val cl so rC rK rL de le wo 0 lo ak sz T ch ps lc ws al be ∧ blt so rC rK rL le de wo n sz T ch ps lc ws al be ∧ (∀ i, 358 ≤ i → σ' i = σ i) ∧ z = aAlpha ps al be s p) := by
  intro l
  refine mI_of (rt := .int) (by decide) (Nat.le_of_ble_eq_true rfl) (fun X hX hret => ?_)
  show vV G X 0 0 0 [(0, .ref (ad 0)), (1, .int (iv (s))), (2, .int (iv (p)))] [] (ov f0 ad 400 σ)
  obtain ⟨j0, jT, jL, jS, jO, ⟨jg, jgi⟩, j1, jTr, jz, jto, jch, jio, jP, jps, jal, ja0⟩ := id hI
  refine v_aload_n hX d_Bs_alpha_0 0 rfl ?_
  refine g_callVV (As := []) (st := []) hX hj (i := 0) (by omega) j0 (m_Bs_growIfChanged hj hI hB hle hwo hde hcg) cl_Bs_107 d_Bs_alpha_1 rfl ⟨by decide, by decide⟩ ⟨by decide, by decide⟩ (Nat.le_of_ble_eq_true rfl) (fun σ2 hp4 => ?_)
  obtain ⟨sz, T, ch, ps, lc, ws, al, be, hJ, hb, hfr⟩ := hp4
  obtain ⟨i0, iT, iL, iS, iO, ⟨ig, igi⟩, i1, iTr, iz, ito, ich, iio, iP, ips, ial, ia0⟩ := id hJ
  obtain ⟨iz1, iz2⟩ := id iz
  obtain ⟨o1, o2, o3, o4⟩ := hQ _ _ _ _ _ _ _ _ hb
  refine v_aload_n hX d_Bs_alpha_4 0 rfl ?_
  refine g_get (i := 0) hX hj fl_Bs_49 d_Bs_alpha_5 (by omega) i0 rfl ?_
  refine v_iload_n hX d_Bs_alpha_8 1 rfl ?_
  refine g_callVI (As := [.int (iv (s))]) (st := []) hX hj (i := 10) (by omega) iP.1 (m_Pru_has hj iP ips s (by first | assumption | (unfold ir at *; omega))) cl_Bs_184 d_Bs_alpha_9 rfl ⟨by decide, by decide⟩ ⟨by decide, by decide⟩ (Nat.le_of_ble_eq_true rfl) (fun z5 σ6 hz7 hp8 => ?_)
  obtain ⟨he9, hv10⟩ := hp8
  rw [he9]
  by_cases qz5 : 0 ≤ s ∧ s < (ps : Int)
  · have z5e : z5 = 1 := hv10.trans (if_pos qz5)
    subst z5e
    refine v_if_ne (tgt := 17) hX d_Bs_alpha_12 (by decide) (by first | assumption | (unfold ir at *; omega)) (fun c9 => ?_) (fun c9 => absurd c9 (by omega))
    refine v_iload_n hX d_Bs_alpha_17 2 rfl ?_
    refine g_callSI (As := [.int (iv (p))]) (st := []) hX (k0_Bs_isPart (p) (by first | assumption | (unfold ir at *; omega))) cl_Bs_130 d_Bs_alpha_18 rfl ⟨by decide, by decide⟩ ⟨by decide, by decide⟩ (Nat.le_of_ble_eq_true rfl) (fun z11 hz12 hp13 => ?_)
    by_cases qz11 : p = 0 ∨ p = 1
    · have z11e : z11 = 1 := hp13.trans (if_pos qz11)
      subst z11e
      refine v_if_ne (tgt := 27) hX d_Bs_alpha_21 (by decide) (by first | assumption | (unfold ir at *; omega)) (fun c9 => ?_) (fun c9 => absurd c9 (by omega))
      obtain ⟨a, b, e1, e2, l0, l1, l2⟩ := o3 s.toNat (by omega)
      refine v_aload_n hX d_Bs_alpha_27 0 rfl ?_
      refine g_get (i := 0) hX hj fl_Bs_49 d_Bs_alpha_28 (by omega) i0 rfl ?_
      refine g_get (i := 10) hX hj fl_Bs_185 d_Bs_alpha_31 (by omega) iP.1 rfl ?_
      refine v_iload_n hX d_Bs_alpha_34 1 rfl ?_
      refine g_aald (i := 20) hX hj d_Bs_alpha_35 (by omega) iP.2.1 rfl (by decide) (Int.toNat (s)) (by omega) (by omega) (if_pos (by omega)) ?_
      refine v_iload_n hX d_Bs_alpha_36 2 rfl ?_
      refine g_callVI (As := [.int (iv (p))]) (st := []) hX hj (i := 52 + Int.toNat (s)) (by omega) (iP.2.2.2.2.2 (Int.toNat (s)) (by omega)) (m_Fra_inLowestTerms hj (52 + s.toNat) (by omega) a b (by rw [← e1, ← e2]; exact (iP.2.2.2.2.2 s.toNat (by omega))) l1 l2 l0 p (by assumption)) cl_Bs_147 d_Bs_alpha_37 rfl ⟨by decide, by decide⟩ ⟨by decide, by decide⟩ (Nat.le_of_ble_eq_true rfl) (fun z14 σ15 hz16 hp17 => ?_)
      obtain ⟨he18, hv19⟩ := hp17
      rw [he18]
      exact hret _ _ _ _ d_Bs_alpha_40 hz16 ⟨_, rfl, sz, T, ch, ps, lc, ws, al, be, hJ, hb, hfr, aAlpha_t (by assumption) (by assumption) (lowT_e e1 e2 hv19)⟩ rfl
    · have z11e : z11 = 0 := hp13.trans (if_neg qz11)
      subst z11e
      refine v_if_ne (tgt := 27) hX d_Bs_alpha_21 (by decide) (by first | assumption | (unfold ir at *; omega)) (fun c9 => absurd c9 (by omega)) (fun c9 => ?_)
      refine v_bipush hX (-2) d_Bs_alpha_24 rfl ?_
      exact hret _ _ _ _ d_Bs_alpha_26 (by unfold ir; omega) ⟨_, rfl, sz, T, ch, ps, lc, ws, al, be, hJ, hb, hfr, aAlpha_p (by assumption) (by assumption)⟩ rfl
  · have z5e : z5 = 0 := hv10.trans (if_neg qz5)
    subst z5e
    refine v_if_ne (tgt := 17) hX d_Bs_alpha_12 (by decide) (by first | assumption | (unfold ir at *; omega)) (fun c9 => absurd c9 (by omega)) (fun c9 => ?_)
    refine v_iconst hX (-1) d_Bs_alpha_15 ?_
    exact hret _ _ _ _ d_Bs_alpha_16 (by unfold ir; omega) ⟨_, rfl, sz, T, ch, ps, lc, ws, al, be, hJ, hb, hfr, aAlpha_n (by assumption)⟩ rfl

set_option maxHeartbeats 1000000 in
set_option maxRecDepth 100000 in
theorem m_Bs_gain {G : xG} {f0 : xF} {ad : Nat → Nat} (hj : adOk ad 400) {σ : xF} {n : Nat} {val : Nat → Nat → Int} {cl so rC rK : Nat → Nat} {rL : Nat → Nat → Nat} {de le wo : Nat} {cg lo : Int} {ak : Nat → Int} {sz9 : Nat} {T9 : Nat → Nat → Int} {ch9 : Nat → Option Nat} {ps9 : Nat} {lc9 ws9 al9 be9 : Nat → Int} (hI : bsP G ad σ n val cl so rC rK rL de le wo cg lo ak sz9 T9 ch9 ps9 lc9 ws9 al9 be9) (hB : bTab n cl so rC rK rL) (hle : le ≤ 10) (hwo : wo ≤ 1000) (hde : de ≤ 5) (hcg : cg = 1 ∨ (cg = 0 ∧ blt so rC rK rL le de wo n sz9 T9 ch9 ps9 lc9 ws9 al9 be9)) (hQ : bQ so rC rK rL le de wo n) (k p : Int) (hk : ir k) (hp : ir p) : ∀ l, gI l G f0 ad 400 y_Bs_gain (.code y_Bs_gain c_Bs_gain 4 (some (.int))) rm_Bs_gain [.ref (ad 0), .int (iv (k)), .int (iv (p))] σ (fun z σ' => ∃ sz T ch ps lc ws al be, bsP G ad σ' n val cl so rC rK rL de le wo 0 lo ak sz T ch ps lc ws al be ∧ blt so rC rK rL le de wo n sz T ch ps lc ws al be ∧ (∀ i, 358 ≤ i → σ' i = σ i) ∧ z = aGain sz T ch k p) := by
  intro l
  refine mI_of (rt := .int) (by decide) (Nat.le_of_ble_eq_true rfl) (fun X hX hret => ?_)
  show vV G X 0 0 0 [(0, .ref (ad 0)), (1, .int (iv (k))), (2, .int (iv (p)))] [] (ov f0 ad 400 σ)
  obtain ⟨j0, jT, jL, jS, jO, ⟨jg, jgi⟩, j1, jTr, jz, jto, jch, jio, jP, jps, jal, ja0⟩ := id hI
  refine v_aload_n hX d_Bs_gain_0 0 rfl ?_
  refine g_callVV (As := []) (st := []) hX hj (i := 0) (by omega) j0 (m_Bs_growIfChanged hj hI hB hle hwo hde hcg) cl_Bs_107 d_Bs_gain_1 rfl ⟨by decide, by decide⟩ ⟨by decide, by decide⟩ (Nat.le_of_ble_eq_true rfl) (fun σ2 hp4 => ?_)
  obtain ⟨sz, T, ch, ps, lc, ws, al, be, hJ, hb, hfr⟩ := hp4
  obtain ⟨i0, iT, iL, iS, iO, ⟨ig, igi⟩, i1, iTr, iz, ito, ich, iio, iP, ips, ial, ia0⟩ := id hJ
  obtain ⟨iz1, iz2⟩ := id iz
  obtain ⟨o1, o2, o3, o4⟩ := hQ _ _ _ _ _ _ _ _ hb
  refine v_aload_n hX d_Bs_gain_4 0 rfl ?_
  refine g_get (i := 0) hX hj fl_Bs_37 d_Bs_gain_5 (by omega) i0 rfl ?_
  refine v_iload_n hX d_Bs_gain_8 1 rfl ?_
  refine g_callVR (As := [.int (iv (k))]) (st := []) hX hj (i := 8) (by omega) iTr.1 (m_Tre_find hj 0 (by decide) sz iz2 T ch iTr k (by first | assumption | (unfold ir at *; omega))) cl_Bs_111 d_Bs_gain_9 rfl ⟨by decide, by decide⟩ ⟨by decide, by decide⟩ (Nat.le_of_ble_eq_true rfl) (fun z5 σ6 hp8 => ?_)
  obtain ⟨he9, hv10⟩ := hp8
  rw [he9]
  by_cases qf : 0 ≤ k ∧ k < (sz : Int)
  · have hv10e : z5 = some (ad (76 + 141 * 0 + 3 * k.toNat)) := by rw [hv10, if_pos qf]
    subst hv10e
    refine v_eq (st' := [.ref (ad (76 + 3 * k.toNat))]) (by show va_rf (some (ad (76 + 141 * 0 + 3 * k.toNat))) :: _ = _; rw [show 76 + 141 * 0 + 3 * k.toNat = 76 + 3 * k.toNat by omega]; rfl) ?_
    have hx : k.toNat < sz := by omega
    have hn : pNod ad σ2 (76 + 3 * k.toNat) k.toNat (T k.toNat) (ch k.toNat) := iTr.2.2 k.toNat (by omega)
    obtain ⟨⟨y2, y3, y5⟩, y4⟩ := o1 k.toNat hx
    refine v_astore_n (lv' := [(3, .ref (ad (76 + 3 * k.toNat))), (0, .ref (ad 0)), (1, .int (iv (k))), (2, .int (iv (p)))]) hX d_Bs_gain_12 rfl (by decide) rfl ?_
    refine v_aload_n hX d_Bs_gain_13 0 rfl ?_
    refine v_ifnonnull (tgt := 19) hX d_Bs_gain_14 (by decide) ?_
    refine v_iload_n hX d_Bs_gain_19 3 rfl ?_
    refine g_callSI (As := [.int (iv (p))]) (st := []) hX (k0_Bs_isPart (p) (by first | assumption | (unfold ir at *; omega))) cl_Bs_130 d_Bs_gain_20 rfl ⟨by decide, by decide⟩ ⟨by decide, by decide⟩ (Nat.le_of_ble_eq_true rfl) (fun z11 hz12 hp13 => ?_)
    by_cases qz11 : p = 0 ∨ p = 1
    · have z11e : z11 = 1 := hp13.trans (if_pos qz11)
      subst z11e
      refine v_if_ne (tgt := 29) hX d_Bs_gain_23 (by decide) (by first | assumption | (unfold ir at *; omega)) (fun c9 => ?_) (fun c9 => absurd c9 (by omega))
      refine v_aload_n hX d_Bs_gain_29 0 rfl ?_
      refine g_callVI (As := []) (st := []) hX hj (i := 76 + 3 * k.toNat) (by omega) hn.1 (m_Nod_isUnparted hj (76 + 3 * k.toNat) k.toNat (by omega) (T k.toNat) (ch k.toNat) hn) cl_Bs_133 d_Bs_gain_30 rfl ⟨by decide, by decide⟩ ⟨by decide, by decide⟩ (Nat.le_of_ble_eq_true rfl) (fun z14 σ15 hz16 hp17 => ?_)
      obtain ⟨he18, hv19⟩ := hp17
      rw [he18]
      by_cases qc : ch k.toNat = none
      · have z14e : z14 = 1 := hv19.trans (if_pos qc)
        subst z14e
        refine v_if_eq (tgt := 39) hX d_Bs_gain_33 (by decide) (by first | assumption | (unfold ir at *; omega)) (fun c9 => absurd c9 (by omega)) (fun c9 => ?_)
        refine v_bipush hX (-3) d_Bs_gain_36 rfl ?_
        exact hret _ _ _ _ d_Bs_gain_38 (by unfold ir; omega) ⟨_, rfl, sz, T, ch, ps, lc, ws, al, be, hJ, hb, hfr, aGain_u qf (by assumption) qc⟩ rfl
      · have z14e : z14 = 0 := hv19.trans (if_neg qc)
        subst z14e
        obtain ⟨a, b, e1, e2, l0, l1, l2⟩ := o2 k.toNat hx qc
        refine v_if_eq (tgt := 39) hX d_Bs_gain_33 (by decide) (by first | assumption | (unfold ir at *; omega)) (fun c9 => ?_) (fun c9 => absurd c9 (by omega))
        refine v_aload_n hX d_Bs_gain_39 0 rfl ?_
        refine g_get (i := 76 + 3 * k.toNat) hX hj fl_Bs_137 d_Bs_gain_40 (by omega) hn.1 rfl ?_
        refine g_get (i := 76 + 3 * k.toNat + 1) hX hj fl_Bs_141 d_Bs_gain_43 (by omega) hn.2.1 rfl ?_
        refine v_iload_n hX d_Bs_gain_46 3 rfl ?_
        refine g_callVI (As := [.int (iv (p))]) (st := []) hX hj (i := 76 + 3 * k.toNat + 2) (by omega) hn.2.2 (m_Fra_inLowestTerms hj (76 + 3 * k.toNat + 2) (by omega) a b (by rw [← e1, ← e2]; exact hn.2.2) l1 l2 l0 p (by assumption)) cl_Bs_147 d_Bs_gain_47 rfl ⟨by decide, by decide⟩ ⟨by decide, by decide⟩ (Nat.le_of_ble_eq_true rfl) (fun z20 σ21 hz22 hp23 => ?_)
        obtain ⟨he24, hv25⟩ := hp23
        rw [he24]
        exact hret _ _ _ _ d_Bs_gain_50 hz22 ⟨_, rfl, sz, T, ch, ps, lc, ws, al, be, hJ, hb, hfr, aGain_t qf (by assumption) qc (lowT_e e1 e2 hv25)⟩ rfl
    · have z11e : z11 = 0 := hp13.trans (if_neg qz11)
      subst z11e
      refine v_if_ne (tgt := 29) hX d_Bs_gain_23 (by decide) (by first | assumption | (unfold ir at *; omega)) (fun c9 => absurd c9 (by omega)) (fun c9 => ?_)
      refine v_bipush hX (-2) d_Bs_gain_26 rfl ?_
      exact hret _ _ _ _ d_Bs_gain_28 (by unfold ir; omega) ⟨_, rfl, sz, T, ch, ps, lc, ws, al, be, hJ, hb, hfr, aGain_p qf (by assumption)⟩ rfl
  · have hv10e : z5 = none := by rw [hv10, if_neg qf]
    subst hv10e
    refine v_eq (st' := [.null]) rfl ?_
    refine v_astore_nN (lv' := [(3, .null), (0, .ref (ad 0)), (1, .int (iv (k))), (2, .int (iv (p)))]) hX d_Bs_gain_12 rfl (by decide) rfl ?_
    refine v_aload_nN hX d_Bs_gain_13 0 rfl ?_
    refine v_ifnonnullN hX d_Bs_gain_14 ?_
    refine v_iconst hX (-1) d_Bs_gain_17 ?_
    exact hret _ _ _ _ d_Bs_gain_18 (by unfold ir; omega) ⟨_, rfl, sz, T, ch, ps, lc, ws, al, be, hJ, hb, hfr, aGain_n qf⟩ rfl

set_option maxHeartbeats 1000000 in
set_option maxRecDepth 100000 in
theorem m_Bs_node {G : xG} {f0 : xF} {ad : Nat → Nat} (hj : adOk ad 400) {σ : xF} {n : Nat} {val : Nat → Nat → Int} {cl so rC rK : Nat → Nat} {rL : Nat → Nat → Nat} {de le wo : Nat} {cg lo : Int} {ak : Nat → Int} {sz9 : Nat} {T9 : Nat → Nat → Int} {ch9 : Nat → Option Nat} {ps9 : Nat} {lc9 ws9 al9 be9 : Nat → Int} (hI : bsP G ad σ n val cl so rC rK rL de le wo cg lo ak sz9 T9 ch9 ps9 lc9 ws9 al9 be9) (hB : bTab n cl so rC rK rL) (hle : le ≤ 10) (hwo : wo ≤ 1000) (hde : de ≤ 5) (hcg : cg = 1 ∨ (cg = 0 ∧ blt so rC rK rL le de wo n sz9 T9 ch9 ps9 lc9 ws9 al9 be9)) (hQ : bQ so rC rK rL le de wo n) (k wh : Int) (hk : ir k) (hw : ir wh) : ∀ l, gI l G f0 ad 400 y_Bs_node (.code y_Bs_node c_Bs_node 4 (some (.int))) rm_Bs_node [.ref (ad 0), .int (iv (k)), .int (iv (wh))] σ (fun z σ' => ∃ sz T ch ps lc ws al be, bsP G ad σ' n val cl so rC rK rL de le wo 0 lo ak sz T ch ps lc ws al be ∧ blt so rC rK rL le de wo n sz T ch ps lc ws al be ∧ (∀ i, 358 ≤ i → σ' i = σ i) ∧ z = aNode sz T ch k wh) := by
  intro l
  refine mI_of (rt := .int) (by decide) (Nat.le_of_ble_eq_true rfl) (fun X hX hret => ?_)
  show vV G X 0 0 0 [(0, .ref (ad 0)), (1, .int (iv (k))), (2, .int (iv (wh)))] [] (ov f0 ad 400 σ)
  obtain ⟨j0, jT, jL, jS, jO, ⟨jg, jgi⟩, j1, jTr, jz, jto, jch, jio, jP, jps, jal, ja0⟩ := id hI
  refine v_aload_n hX d_Bs_node_0 0 rfl ?_
  refine g_callVV (As := []) (st := []) hX hj (i := 0) (by omega) j0 (m_Bs_growIfChanged hj hI hB hle hwo hde hcg) cl_Bs_107 d_Bs_node_1 rfl ⟨by decide, by decide⟩ ⟨by decide, by decide⟩ (Nat.le_of_ble_eq_true rfl) (fun σ2 hp4 => ?_)
  obtain ⟨sz, T, ch, ps, lc, ws, al, be, hJ, hb, hfr⟩ := hp4
  obtain ⟨i0, iT, iL, iS, iO, ⟨ig, igi⟩, i1, iTr, iz, ito, ich, iio, iP, ips, ial, ia0⟩ := id hJ
  obtain ⟨iz1, iz2⟩ := id iz
  obtain ⟨o1, o2, o3, o4⟩ := hQ _ _ _ _ _ _ _ _ hb
  refine v_aload_n hX d_Bs_node_4 0 rfl ?_
  refine g_get (i := 0) hX hj fl_Bs_37 d_Bs_node_5 (by omega) i0 rfl ?_
  refine v_iload_n hX d_Bs_node_8 1 rfl ?_
  refine g_callVR (As := [.int (iv (k))]) (st := []) hX hj (i := 8) (by omega) iTr.1 (m_Tre_find hj 0 (by decide) sz iz2 T ch iTr k (by first | assumption | (unfold ir at *; omega))) cl_Bs_111 d_Bs_node_9 rfl ⟨by decide, by decide⟩ ⟨by decide, by decide⟩ (Nat.le_of_ble_eq_true rfl) (fun z5 σ6 hp8 => ?_)
  obtain ⟨he9, hv10⟩ := hp8
  rw [he9]
  by_cases qf : 0 ≤ k ∧ k < (sz : Int)
  · have hv10e : z5 = some (ad (76 + 141 * 0 + 3 * k.toNat)) := by rw [hv10, if_pos qf]
    subst hv10e
    refine v_eq (st' := [.ref (ad (76 + 3 * k.toNat))]) (by show va_rf (some (ad (76 + 141 * 0 + 3 * k.toNat))) :: _ = _; rw [show 76 + 141 * 0 + 3 * k.toNat = 76 + 3 * k.toNat by omega]; rfl) ?_
    have hx : k.toNat < sz := by omega
    have hn : pNod ad σ2 (76 + 3 * k.toNat) k.toNat (T k.toNat) (ch k.toNat) := iTr.2.2 k.toNat (by omega)
    obtain ⟨⟨y2, y3, y5⟩, y4⟩ := o1 k.toNat hx
    refine v_astore_n (lv' := [(3, .ref (ad (76 + 3 * k.toNat))), (0, .ref (ad 0)), (1, .int (iv (k))), (2, .int (iv (wh)))]) hX d_Bs_node_12 rfl (by decide) rfl ?_
    refine v_aload_n hX d_Bs_node_13 0 rfl ?_
    refine v_ifnonnull (tgt := 19) hX d_Bs_node_14 (by decide) ?_
    refine v_iload_n hX d_Bs_node_19 3 rfl ?_
    refine v_if_lt (tgt := 29) hX d_Bs_node_20 (by decide) (by first | assumption | (unfold ir at *; omega)) (fun c20_1 => ?_) (fun c20_1 => ?_)
    · refine v_bipush hX (-2) d_Bs_node_29 rfl ?_
      exact hret _ _ _ _ d_Bs_node_31 (by unfold ir; omega) ⟨_, rfl, sz, T, ch, ps, lc, ws, al, be, hJ, hb, hfr, aNode_p qf (by omega)⟩ rfl
    · refine v_iload_n hX d_Bs_node_23 3 rfl ?_
      refine v_bipush hX (8) d_Bs_node_24 rfl ?_
      refine v_icmp_le (tgt := 32) hX d_Bs_node_26 (by decide) (by first | assumption | (unfold ir at *; omega)) (by first | assumption | (unfold ir at *; omega)) (fun c26_2 => ?_) (fun c26_2 => ?_)
      · refine v_iload_n hX d_Bs_node_32 3 rfl ?_
        refine v_iconst hX (4) d_Bs_node_33 ?_
        refine v_icmp_gt (tgt := 45) hX d_Bs_node_34 (by decide) (by first | assumption | (unfold ir at *; omega)) (by first | assumption | (unfold ir at *; omega)) (fun c34_3 => ?_) (fun c34_3 => ?_)
        · refine v_aload_n hX d_Bs_node_45 0 rfl ?_
          refine v_iload_n hX d_Bs_node_46 3 rfl ?_
          refine g_callVI (As := [.int (iv (wh))]) (st := []) hX hj (i := 76 + 3 * k.toNat) (by omega) hn.1 (m_Nod_ownDetail hj (76 + 3 * k.toNat) k.toNat (by omega) (T k.toNat) (ch k.toNat) hn (T k.toNat 2).toNat (by omega) (by omega) (by unfold ir; omega) (by unfold ir; omega) (by unfold ir; omega) wh (by omega) (by omega)) cl_Bs_121 d_Bs_node_47 rfl ⟨by decide, by decide⟩ ⟨by decide, by decide⟩ (Nat.le_of_ble_eq_true rfl) (fun z11 σ12 hz13 hp14 => ?_)
          obtain ⟨he15, hv16⟩ := hp14
          rw [he15]
          exact hret _ _ _ _ d_Bs_node_50 hz13 ⟨_, rfl, sz, T, ch, ps, lc, ws, al, be, hJ, hb, hfr, aNode_o qf ⟨by omega, by omega⟩ (by omega) hv16⟩ rfl
        · obtain ⟨mm, hmm, hm⟩ : ∃ mm, (∀ q, ch k.toNat = some q → q = 76 + 3 * mm ∧ k.toNat < mm) ∧ mm + 1 < 47 := by
            rcases hch : ch k.toNat with _ | q
            · exact ⟨0, fun q hq => (by cases hq), by decide⟩
            · obtain ⟨m, m1, m2, m3⟩ := ich k.toNat q (by omega) hch
              exact ⟨m, fun q2 hq => (by cases hq; exact ⟨by omega, m2⟩), m3⟩
          have hK : ∀ q, ch k.toNat = some q → 76 + 3 * k.toNat + 2 < q ∧ q + 5 < 400 ∧ pNod ad σ2 q mm (T mm) (ch mm) ∧ pNod ad σ2 (q + 3) (mm + 1) (T (mm + 1)) (ch (mm + 1)) := fun q hq => by
            obtain ⟨q1, q2⟩ := hmm q hq
            have n1 := iTr.2.2 mm (by omega)
            have n2 := iTr.2.2 (mm + 1) (by omega)
            rw [show 76 + 141 * 0 + 3 * mm = q by omega] at n1
            rw [show 76 + 141 * 0 + 3 * (mm + 1) = q + 3 by omega] at n2
            exact ⟨by omega, by omega, n1, n2⟩
          obtain ⟨c9, n9, s9, x1, x2, x3, x4, x5, x6⟩ := ito k.toNat (by omega)
          have r12 : ir (T k.toNat 12) := by rw [x4]; unfold ir; omega
          have r13 : ir (T k.toNat 13) := by rw [x5]; unfold ir; omega
          have r14 : ir (T k.toNat 14) := by rw [x6]; unfold ir; omega
          refine v_aload_n hX d_Bs_node_37 0 rfl ?_
          refine v_iload_n hX d_Bs_node_38 3 rfl ?_
          refine g_callVI (As := [.int (iv (wh))]) (st := []) hX hj (i := 76 + 3 * k.toNat) (by omega) hn.1 (m_Nod_cutDetail hj (76 + 3 * k.toNat) k.toNat (by omega) (T k.toNat) (ch k.toNat) hn mm (T mm) (T (mm + 1)) (ch mm) (ch (mm + 1)) hK (by omega) r12 r13 r14 wh (by omega) (by omega)) cl_Bs_115 d_Bs_node_39 rfl ⟨by decide, by decide⟩ ⟨by decide, by decide⟩ (Nat.le_of_ble_eq_true rfl) (fun z17 σ18 hz19 hp20 => ?_)
          obtain ⟨he21, hv22⟩ := hp20
          rw [he21]
          refine v_goto (tgt := 50) hX d_Bs_node_42 (by decide) ?_
          exact hret _ _ _ _ d_Bs_node_50 hz19 ⟨_, rfl, sz, T, ch, ps, lc, ws, al, be, hJ, hb, hfr, aNode_c qf ⟨by omega, by omega⟩ (by omega) (fun q hq => (hmm q hq).1) hv22⟩ rfl
      · refine v_bipush hX (-2) d_Bs_node_29 rfl ?_
        exact hret _ _ _ _ d_Bs_node_31 (by unfold ir; omega) ⟨_, rfl, sz, T, ch, ps, lc, ws, al, be, hJ, hb, hfr, aNode_p qf (by omega)⟩ rfl
  · have hv10e : z5 = none := by rw [hv10, if_neg qf]
    subst hv10e
    refine v_eq (st' := [.null]) rfl ?_
    refine v_astore_nN (lv' := [(3, .null), (0, .ref (ad 0)), (1, .int (iv (k))), (2, .int (iv (wh)))]) hX d_Bs_node_12 rfl (by decide) rfl ?_
    refine v_aload_nN hX d_Bs_node_13 0 rfl ?_
    refine v_ifnonnullN hX d_Bs_node_14 ?_
    refine v_iconst hX (-1) d_Bs_node_17 ?_
    exact hret _ _ _ _ d_Bs_node_18 (by unfold ir; omega) ⟨_, rfl, sz, T, ch, ps, lc, ws, al, be, hJ, hb, hfr, aNode_n qf⟩ rfl
