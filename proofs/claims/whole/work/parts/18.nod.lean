/-! NODES; by program -/
set_option maxHeartbeats 1000000 in
set_option maxRecDepth 100000 in
theorem m_Nod_isUnparted {G : xG} {f0 : xF} {ad : Nat → Nat} (hj : adOk ad 400) {σ : xF} (b num : Nat) (bM : b + 2 < 400) (F : Nat → Int) (ch : Option Nat) (hN : pNod ad σ b num F ch) : ∀ l, gI l G f0 ad 400 y_Nod_isUnparted (.code y_Nod_isUnparted c_Nod_isUnparted 1 (some (.boolean))) rm_Nod_isUnparted [.ref (ad b)] σ (fun z σ' => σ' = σ ∧ z = pI (ch = none)) := by
  intro l
  refine mI_of (rt := .boolean) (by decide) (Nat.le_of_ble_eq_true rfl) (fun X hX hret => ?_)
  show vV G X 0 0 0 [(0, .ref (ad b))] [] (ov f0 ad 400 σ)
  rcases ch with _ | q
  · have hn1 := hN.1
    refine v_aload_n hX d_Nod_isUnparted_0 0 rfl ?_
    refine g_get hX hj fl_Nod_22 d_Nod_isUnparted_1 (by omega) hn1 rfl ?_
    refine v_ifnullN (tgt := 14) hX d_Nod_isUnparted_4 (by decide) ?_
    refine v_iconst hX (1) d_Nod_isUnparted_14 ?_
    refine v_goto (tgt := 19) hX d_Nod_isUnparted_15 (by decide) ?_
    exact hret _ _ _ _ d_Nod_isUnparted_19 (by unfold ir; omega) ⟨_, rfl, rfl, (pI_t rfl)⟩ rfl
  · have hn1 := hN.1
    refine v_aload_n hX d_Nod_isUnparted_0 0 rfl ?_
    refine g_get hX hj fl_Nod_22 d_Nod_isUnparted_1 (by omega) hn1 rfl ?_
    refine v_ifnull hX d_Nod_isUnparted_4 ?_
    refine v_aload_n hX d_Nod_isUnparted_7 0 rfl ?_
    refine g_get hX hj fl_Nod_26 d_Nod_isUnparted_8 (by omega) hn1 rfl ?_
    refine v_ifnonnull (tgt := 18) hX d_Nod_isUnparted_11 (by decide) ?_
    refine v_iconst hX (0) d_Nod_isUnparted_18 ?_
    exact hret _ _ _ _ d_Nod_isUnparted_19 (by unfold ir; omega) ⟨_, rfl, rfl, (pI_f (fun h => by cases h))⟩ rfl

set_option maxHeartbeats 1000000 in
set_option maxRecDepth 100000 in
theorem m_Nod_stateAt {G : xG} {f0 : xF} {ad : Nat → Nat} (hj : adOk ad 400) {σ : xF} (b num : Nat) (bM : b + 2 < 400) (F : Nat → Int) (ch : Option Nat) (hN : pNod ad σ b num F ch) (s : Int) (hs : ir s) (h8 : ir (F 8)) (h9 : ir (F 9)) : ∀ l, gI l G f0 ad 400 y_Nod_stateAt (.code y_Nod_stateAt c_Nod_stateAt 2 (some (.int))) rm_Nod_stateAt [.ref (ad b), .int (iv (s))] σ (fun z σ' => σ' = σ ∧ z = (if F 9 ≤ s then (2 : Int) else if F 8 ≤ s then 1 else 0)) := by
  intro l
  refine mI_of (rt := .int) (by decide) (Nat.le_of_ble_eq_true rfl) (fun X hX hret => ?_)
  show vV G X 0 0 0 [(0, .ref (ad b)), (1, .int (iv (s)))] [] (ov f0 ad 400 σ)
  have hn1 := hN.1
  refine v_iload_n hX d_Nod_stateAt_0 1 rfl ?_
  refine v_aload_n hX d_Nod_stateAt_1 0 rfl ?_
  refine g_get hX hj fl_Nod_54 d_Nod_stateAt_2 (by omega) hn1 rfl ?_
  refine v_icmp_lt (tgt := 10) hX d_Nod_stateAt_5 (by decide) (by first | assumption | (unfold ir; omega)) (by first | assumption | (unfold ir; omega)) (fun c5_1 => ?_) (fun c5_1 => ?_)
  · refine v_iload_n hX d_Nod_stateAt_10 1 rfl ?_
    refine v_aload_n hX d_Nod_stateAt_11 0 rfl ?_
    refine g_get hX hj fl_Nod_57 d_Nod_stateAt_12 (by omega) hn1 rfl ?_
    refine v_icmp_lt (tgt := 22) hX d_Nod_stateAt_15 (by decide) (by first | assumption | (unfold ir; omega)) (by first | assumption | (unfold ir; omega)) (fun c15_2 => ?_) (fun c15_2 => ?_)
    · refine v_iconst hX (0) d_Nod_stateAt_22 ?_
      exact hret _ _ _ _ d_Nod_stateAt_23 (by first | assumption | (unfold ir; omega)) ⟨_, rfl, rfl, (by first | (rw [if_pos (by omega)]; done) | (rw [if_neg (by omega), if_pos (by omega)]; done) | (rw [if_neg (by omega), if_neg (by omega)]; done))⟩ rfl
    · refine v_iconst hX (1) d_Nod_stateAt_18 ?_
      refine v_goto (tgt := 23) hX d_Nod_stateAt_19 (by decide) ?_
      exact hret _ _ _ _ d_Nod_stateAt_23 (by first | assumption | (unfold ir; omega)) ⟨_, rfl, rfl, (by first | (rw [if_pos (by omega)]; done) | (rw [if_neg (by omega), if_pos (by omega)]; done) | (rw [if_neg (by omega), if_neg (by omega)]; done))⟩ rfl
  · refine v_iconst hX (2) d_Nod_stateAt_8 ?_
    exact hret _ _ _ _ d_Nod_stateAt_9 (by first | assumption | (unfold ir; omega)) ⟨_, rfl, rfl, (by first | (rw [if_pos (by omega)]; done) | (rw [if_neg (by omega), if_pos (by omega)]; done) | (rw [if_neg (by omega), if_neg (by omega)]; done))⟩ rfl

set_option maxHeartbeats 1000000 in
set_option maxRecDepth 100000 in
theorem m_Nod_ownDetail {G : xG} {f0 : xF} {ad : Nat → Nat} (hj : adOk ad 400) {σ : xF} (b num : Nat) (bM : b + 2 < 400) (F : Nat → Int) (ch : Option Nat) (hN : pNod ad σ b num F ch) (ro : Nat) (hro : ro < 16777216) (h2 : F 2 = (ro : Int)) (r3 : ir (F 3)) (r4 : ir (F 4)) (r5 : ir (F 5)) (wh : Int) (h5 : 5 ≤ wh) (h8 : wh ≤ 8) : ∀ l, gI l G f0 ad 400 y_Nod_ownDetail (.code y_Nod_ownDetail c_Nod_ownDetail 2 (some (.int))) rm_Nod_ownDetail [.ref (ad b), .int (iv (wh))] σ (fun z σ' => σ' = σ ∧ z = (if wh = 5 then F 3 else if wh = 6 then ((cnt ro : Nat) : Int) else if wh = 7 then F 4 else F 5)) := by
  intro l
  refine mI_of (rt := .int) (by decide) (Nat.le_of_ble_eq_true rfl) (fun X hX hret => ?_)
  show vV G X 0 0 0 [(0, .ref (ad b)), (1, .int (iv (wh)))] [] (ov f0 ad 400 σ)
  have hn1 := hN.1
  have hcn := cnt_le ro
  refine v_iload_n hX d_Nod_ownDetail_0 1 rfl ?_
  rcases (show wh = 5 ∨ wh = 6 ∨ wh = 7 ∨ wh = 8 by omega) with rfl | rfl | rfl | rfl
  · refine v_tableIn (tgt := 28) hX d_Nod_ownDetail_1 (by unfold ir; omega) (by decide) (by decide) rfl (by decide) ?_
    refine v_aload_n hX d_Nod_ownDetail_28 0 rfl ?_
    refine g_get hX hj fl_Nod_36 d_Nod_ownDetail_29 (by omega) hn1 rfl ?_
    exact hret _ _ _ _ d_Nod_ownDetail_32 (by first | assumption | (unfold ir; omega)) ⟨_, rfl, rfl, rfl⟩ rfl
  · refine v_tableIn (tgt := 33) hX d_Nod_ownDetail_1 (by unfold ir; omega) (by decide) (by decide) rfl (by decide) ?_
    refine v_aload_n hX d_Nod_ownDetail_33 0 rfl ?_
    refine g_get hX hj fl_Nod_39 d_Nod_ownDetail_34 (by omega) hn1 rfl ?_
    refine v_top (x' := iv ((ro : Nat) : Int)) (congrArg iv h2) ?_
    refine g_callSI (As := [.int (iv (((ro : Nat) : Int)))]) (st := []) hX (k0_Int_bitCount ro hro) cl_Nod_42 d_Nod_ownDetail_37 rfl ⟨by decide, by decide⟩ ⟨by decide, by decide⟩ (Nat.le_of_ble_eq_true rfl) (fun z1 hz2 hp3 => ?_)
    subst hp3
    exact hret _ _ _ _ d_Nod_ownDetail_40 (by first | assumption | (unfold ir; omega)) ⟨_, rfl, rfl, rfl⟩ rfl
  · refine v_tableIn (tgt := 41) hX d_Nod_ownDetail_1 (by unfold ir; omega) (by decide) (by decide) rfl (by decide) ?_
    refine v_aload_n hX d_Nod_ownDetail_41 0 rfl ?_
    refine g_get hX hj fl_Nod_48 d_Nod_ownDetail_42 (by omega) hn1 rfl ?_
    exact hret _ _ _ _ d_Nod_ownDetail_45 (by first | assumption | (unfold ir; omega)) ⟨_, rfl, rfl, rfl⟩ rfl
  · refine v_tableOut (tgt := 46) hX d_Nod_ownDetail_1 (by unfold ir; omega) (by decide) (by decide) ?_
    refine v_aload_n hX d_Nod_ownDetail_46 0 rfl ?_
    refine g_get hX hj fl_Nod_51 d_Nod_ownDetail_47 (by omega) hn1 rfl ?_
    exact hret _ _ _ _ d_Nod_ownDetail_50 (by first | assumption | (unfold ir; omega)) ⟨_, rfl, rfl, rfl⟩ rfl
