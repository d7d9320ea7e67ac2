/-! NODES; by program -/
set_option maxHeartbeats 1000000 in
set_option maxRecDepth 100000 in
theorem m_Nod_isUnparted {G : xG} {f0 : xF} {ad : Nat → Nat} (hj : adOk ad 400) {σ : xF} (b num : Nat) (bM : b + 2 < 400) (F : Nat → Int) (ch : Option Nat) (hN : pNod ad σ b num F ch) : ∀ l, gI l G f0 ad 400 y_Nod_isUnparted (.code y_Nod_isUnparted c_Nod_isUnparted 1 (some (.boolean))) rm_Nod_isUnparted [.ref (ad b)] σ (fun z σ' => σ' = σ ∧ z = pI (ch = none)) := by
  intro l
  refine mI_of (rt := .boolean) (by decide) (Nat.le_of_ble_eq_true rfl) (fun X hX hret => ?_)
  show vV G X 0 0 0 [(0, .ref (ad b))] [] (ov f0 ad 400 σ)
  rcases ch with _ | q
  · have hn1 := hN.1
    refine v_aload_n hX d_Nod_isUnparted_0 0 rfl ?_
    refine g_get (i := b) hX hj fl_Nod_22 d_Nod_isUnparted_1 (by omega) hn1 rfl ?_
    refine v_ifnullN (tgt := 14) hX d_Nod_isUnparted_4 (by decide) ?_
    refine v_iconst hX (1) d_Nod_isUnparted_14 ?_
    refine v_goto (tgt := 19) hX d_Nod_isUnparted_15 (by decide) ?_
    exact hret _ _ _ _ d_Nod_isUnparted_19 (by unfold ir; omega) ⟨_, rfl, rfl, (pI_t rfl)⟩ rfl
  · have hn1 := hN.1
    refine v_aload_n hX d_Nod_isUnparted_0 0 rfl ?_
    refine g_get (i := b) hX hj fl_Nod_22 d_Nod_isUnparted_1 (by omega) hn1 rfl ?_
    refine v_ifnull hX d_Nod_isUnparted_4 ?_
    refine v_aload_n hX d_Nod_isUnparted_7 0 rfl ?_
    refine g_get (i := b) hX hj fl_Nod_26 d_Nod_isUnparted_8 (by omega) hn1 rfl ?_
    refine v_ifnonnull (tgt := 18) hX d_Nod_isUnparted_11 (by decide) ?_
    refine v_iconst hX (0) d_Nod_isUnparted_18 ?_
    exact hret _ _ _ _ d_Nod_isUnparted_19 (by unfold ir; omega) ⟨_, rfl, rfl, (pI_f (fun h => by cases h))⟩ rfl

set_option maxHeartbeats 1000000 in
set_option maxRecDepth 100000 in
theorem m_Nod_stateAt {G : xG} {f0 : xF} {ad : Nat → Nat} (hj : adOk ad 400) {σ : xF} (b num : Nat) (bM : b + 2 < 400) (F : Nat → Int) (ch : Option Nat) (hN : pNod ad σ b num F ch) (s : Int) (hs : ir s) (h8 : ir (F 8)) (h9 : ir (F 9)) : ∀ l, gI l G f0 ad 400 y_Nod_stateAt (.code y_Nod_stateAt c_Nod_stateAt 2 (some (.int))) rm_Nod_stateAt [.ref (ad b), .int (iv (s))] σ (fun z σ' => σ' = σ ∧ z = (if F 9 ≤ s then (2 : Int) else if F 8 ≤ s then 1 else 0)) := by
  intro l
  refine mI_of (rt := .int) (by decide) (Nat.le_of_ble_eq_true rfl) (fun X hX hret => ?_)
  show vV G X 0 0 0 [(0, .ref (ad b)), (1, .int (iv (s)))] [] (ov f0 ad 400 σ)
  have hn1 := hN.1
  refine v_iload_n hX d_Nod_stateAt_0 1 rfl ?_
  refine v_aload_n hX d_Nod_stateAt_1 0 rfl ?_
  refine g_get (i := b) hX hj fl_Nod_54 d_Nod_stateAt_2 (by omega) hn1 rfl ?_
  refine v_icmp_lt (tgt := 10) hX d_Nod_stateAt_5 (by decide) (by first | assumption | (unfold ir; omega)) (by first | assumption | (unfold ir; omega)) (fun c5_1 => ?_) (fun c5_1 => ?_)
  · refine v_iload_n hX d_Nod_stateAt_10 1 rfl ?_
    refine v_aload_n hX d_Nod_stateAt_11 0 rfl ?_
    refine g_get (i := b) hX hj fl_Nod_57 d_Nod_stateAt_12 (by omega) hn1 rfl ?_
    refine v_icmp_lt (tgt := 22) hX d_Nod_stateAt_15 (by decide) (by first | assumption | (unfold ir; omega)) (by first | assumption | (unfold ir; omega)) (fun c15_2 => ?_) (fun c15_2 => ?_)
    · refine v_iconst hX (0) d_Nod_stateAt_22 ?_
      exact hret _ _ _ _ d_Nod_stateAt_23 (by first | assumption | (unfold ir; omega)) ⟨_, rfl, rfl, (by first | (rw [if_pos (by omega)]; done) | (rw [if_neg (by omega), if_pos (by omega)]; done) | (rw [if_neg (by omega), if_neg (by omega)]; done))⟩ rfl
    · refine v_iconst hX (1) d_Nod_stateAt_18 ?_
      refine v_goto (tgt := 23) hX d_Nod_stateAt_19 (by decide) ?_
      exact hret _ _ _ _ d_Nod_stateAt_23 (by first | assumption | (unfold ir; omega)) ⟨_, rfl, rfl, (by first | (rw [if_pos (by omega)]; done) | (rw [if_neg (by omega), if_pos (by omega)]; done) | (rw [if_neg (by omega), if_neg (by omega)]; done))⟩ rfl
  · refine v_iconst hX (2) d_Nod_stateAt_8 ?_
    exact hret _ _ _ _ d_Nod_stateAt_9 (by first | assumption | (unfold ir; omega)) ⟨_, rfl, rfl, (by first | (rw [if_pos (by omega)]; done) | (rw [if_neg (by omega), if_pos (by omega)]; done) | (rw [if_neg (by omega), if_neg (by omega)]; done))⟩ rfl

set_option maxHeartbeats 1000000 in
set_option maxRecDepth 100000 in
theorem m_Nod_ownDetail {G : xG} {f0 : xF} {ad : Nat → Nat} (hj : adOk ad 400) {σ : xF} (b num : Nat) (bM : b + 2 < 400) (F : Nat → Int) (ch : Option Nat) (hN : pNod ad σ b num F ch) (ro : Nat) (hro : ro < 16777216) (h2 : F 2 = (ro : Int)) (r3 : ir (F 3)) (r4 : ir (F 4)) (r5 : ir (F 5)) (wh : Int) (h5 : 5 ≤ wh) (h8 : wh ≤ 8) : ∀ l, gI l G f0 ad 400 y_Nod_ownDetail (.code y_Nod_ownDetail c_Nod_ownDetail 2 (some (.int))) rm_Nod_ownDetail [.ref (ad b), .int (iv (wh))] σ (fun z σ' => σ' = σ ∧ z = (if wh = 5 then F 3 else if wh = 6 then ((cnt ro : Nat) : Int) else if wh = 7 then F 4 else F 5)) := by
  intro l
  refine mI_of (rt := .int) (by decide) (Nat.le_of_ble_eq_true rfl) (fun X hX hret => ?_)
  show vV G X 0 0 0 [(0, .ref (ad b)), (1, .int (iv (wh)))] [] (ov f0 ad 400 σ)
  have hn1 := hN.1
  have hcn := cnt_le ro
  refine v_iload_n hX d_Nod_ownDetail_0 1 rfl ?_
  rcases (show wh = 5 ∨ wh = 6 ∨ wh = 7 ∨ wh = 8 by omega) with rfl | rfl | rfl | rfl
  · refine v_tableIn (tgt := 28) hX d_Nod_ownDetail_1 (by unfold ir; omega) (by decide) (by decide) rfl (by decide) ?_
    refine v_aload_n hX d_Nod_ownDetail_28 0 rfl ?_
    refine g_get (i := b) hX hj fl_Nod_36 d_Nod_ownDetail_29 (by omega) hn1 rfl ?_
    exact hret _ _ _ _ d_Nod_ownDetail_32 (by first | assumption | (unfold ir; omega)) ⟨_, rfl, rfl, rfl⟩ rfl
  · refine v_tableIn (tgt := 33) hX d_Nod_ownDetail_1 (by unfold ir; omega) (by decide) (by decide) rfl (by decide) ?_
    refine v_aload_n hX d_Nod_ownDetail_33 0 rfl ?_
    refine g_get (i := b) hX hj fl_Nod_39 d_Nod_ownDetail_34 (by omega) hn1 rfl ?_
    refine v_top (x' := iv ((ro : Nat) : Int)) (congrArg iv h2) ?_
    refine g_callSI (As := [.int (iv (((ro : Nat) : Int)))]) (st := []) hX (k0_Int_bitCount ro hro) cl_Nod_42 d_Nod_ownDetail_37 rfl ⟨by decide, by decide⟩ ⟨by decide, by decide⟩ (Nat.le_of_ble_eq_true rfl) (fun z1 hz2 hp3 => ?_)
    subst hp3
    exact hret _ _ _ _ d_Nod_ownDetail_40 (by first | assumption | (unfold ir; omega)) ⟨_, rfl, rfl, rfl⟩ rfl
  · refine v_tableIn (tgt := 41) hX d_Nod_ownDetail_1 (by unfold ir; omega) (by decide) (by decide) rfl (by decide) ?_
    refine v_aload_n hX d_Nod_ownDetail_41 0 rfl ?_
    refine g_get (i := b) hX hj fl_Nod_48 d_Nod_ownDetail_42 (by omega) hn1 rfl ?_
    exact hret _ _ _ _ d_Nod_ownDetail_45 (by first | assumption | (unfold ir; omega)) ⟨_, rfl, rfl, rfl⟩ rfl
  · refine v_tableOut (tgt := 46) hX d_Nod_ownDetail_1 (by unfold ir; omega) (by decide) (by decide) ?_
    refine v_aload_n hX d_Nod_ownDetail_46 0 rfl ?_
    refine g_get (i := b) hX hj fl_Nod_51 d_Nod_ownDetail_47 (by omega) hn1 rfl ?_
    exact hret _ _ _ _ d_Nod_ownDetail_50 (by first | assumption | (unfold ir; omega)) ⟨_, rfl, rfl, rfl⟩ rfl

set_option maxHeartbeats 1000000 in
set_option maxRecDepth 100000 in
theorem m_Nod_cutDetail {G : xG} {f0 : xF} {ad : Nat → Nat} (hj : adOk ad 400) {σ : xF} (b num : Nat) (bM : b + 2 < 400) (F : Nat → Int) (ch : Option Nat) (hN : pNod ad σ b num F ch) (ln : Nat) (F1 F2 : Nat → Int) (c1 c2 : Option Nat) (hK : ∀ q, ch = some q → b + 2 < q ∧ q + 5 < 400 ∧ pNod ad σ q ln F1 c1 ∧ pNod ad σ (q + 3) (ln + 1) F2 c2) (hln : ln < 100) (r12 : ir (F 12)) (r13 : ir (F 13)) (r14 : ir (F 14)) (wh : Int) (h0 : 0 ≤ wh) (h4 : wh ≤ 4) : ∀ l, gI l G f0 ad 400 y_Nod_cutDetail (.code y_Nod_cutDetail c_Nod_cutDetail 2 (some (.int))) rm_Nod_cutDetail [.ref (ad b), .int (iv (wh))] σ (fun z σ' => σ' = σ ∧ z = (if ch = none then (-3 : Int) else if wh = 0 then F 12 else if wh = 1 then F 13 else if wh = 2 then F 14 else if wh = 3 then (ln : Int) else ((ln + 1 : Nat) : Int))) := by
  intro l
  refine mI_of (rt := .int) (by decide) (Nat.le_of_ble_eq_true rfl) (fun X hX hret => ?_)
  show vV G X 0 0 0 [(0, .ref (ad b)), (1, .int (iv (wh)))] [] (ov f0 ad 400 σ)
  rcases ch with _ | q
  · have hn1 := hN.1
    refine v_aload_n hX d_Nod_cutDetail_0 0 rfl ?_
    refine g_get (i := b) hX hj fl_Nod_22 d_Nod_cutDetail_1 (by omega) hn1 rfl ?_
    refine v_ifnullN (tgt := 14) hX d_Nod_cutDetail_4 (by decide) ?_
    refine v_bipush hX (-3) d_Nod_cutDetail_14 rfl ?_
    exact hret _ _ _ _ d_Nod_cutDetail_16 (by first | assumption | (unfold ir; omega)) ⟨_, rfl, rfl, rfl⟩ rfl
  · have hn1 := hN.1
    have hq1 := hK _ rfl
    refine v_aload_n hX d_Nod_cutDetail_0 0 rfl ?_
    refine g_get (i := b) hX hj fl_Nod_22 d_Nod_cutDetail_1 (by omega) hn1 rfl ?_
    refine v_ifnull hX d_Nod_cutDetail_4 ?_
    refine v_aload_n hX d_Nod_cutDetail_7 0 rfl ?_
    refine g_get (i := b) hX hj fl_Nod_26 d_Nod_cutDetail_8 (by omega) hn1 rfl ?_
    refine v_ifnonnull (tgt := 17) hX d_Nod_cutDetail_11 (by decide) ?_
    refine v_iload_n hX d_Nod_cutDetail_17 1 rfl ?_
    rcases (show wh = 0 ∨ wh = 1 ∨ wh = 2 ∨ wh = 3 ∨ wh = 4 by omega) with rfl | rfl | rfl | rfl | rfl
    · refine v_tableIn (tgt := 48) hX d_Nod_cutDetail_18 (by unfold ir; omega) (by decide) (by decide) rfl (by decide) ?_
      refine v_aload_n hX d_Nod_cutDetail_48 0 rfl ?_
      refine g_get (i := b) hX hj fl_Nod_12 d_Nod_cutDetail_49 (by omega) hn1 rfl ?_
      refine g_get (i := b + 1) hX hj fl_Nod_29 d_Nod_cutDetail_52 (by omega) hN.2.1 rfl ?_
      exact hret _ _ _ _ d_Nod_cutDetail_55 (by first | assumption | (unfold ir; omega)) ⟨_, rfl, rfl, rfl⟩ rfl
    · refine v_tableIn (tgt := 56) hX d_Nod_cutDetail_18 (by unfold ir; omega) (by decide) (by decide) rfl (by decide) ?_
      refine v_aload_n hX d_Nod_cutDetail_56 0 rfl ?_
      refine g_get (i := b) hX hj fl_Nod_12 d_Nod_cutDetail_57 (by omega) hn1 rfl ?_
      refine g_get (i := b + 1) hX hj fl_Nod_32 d_Nod_cutDetail_60 (by omega) hN.2.1 rfl ?_
      exact hret _ _ _ _ d_Nod_cutDetail_63 (by first | assumption | (unfold ir; omega)) ⟨_, rfl, rfl, rfl⟩ rfl
    · refine v_tableIn (tgt := 64) hX d_Nod_cutDetail_18 (by unfold ir; omega) (by decide) (by decide) rfl (by decide) ?_
      refine v_aload_n hX d_Nod_cutDetail_64 0 rfl ?_
      refine g_get (i := b) hX hj fl_Nod_12 d_Nod_cutDetail_65 (by omega) hn1 rfl ?_
      refine g_get (i := b + 1) hX hj fl_Nod_33 d_Nod_cutDetail_68 (by omega) hN.2.1 rfl ?_
      exact hret _ _ _ _ d_Nod_cutDetail_71 (by first | assumption | (unfold ir; omega)) ⟨_, rfl, rfl, rfl⟩ rfl
    · refine v_tableIn (tgt := 72) hX d_Nod_cutDetail_18 (by unfold ir; omega) (by decide) (by decide) rfl (by decide) ?_
      refine v_aload_n hX d_Nod_cutDetail_72 0 rfl ?_
      refine g_get (i := b) hX hj fl_Nod_22 d_Nod_cutDetail_73 (by omega) hn1 rfl ?_
      refine g_get (i := q) hX hj fl_Nod_18 d_Nod_cutDetail_76 (by omega) hq1.2.2.1.1 rfl ?_
      exact hret _ _ _ _ d_Nod_cutDetail_79 (by first | assumption | (unfold ir; omega)) ⟨_, rfl, rfl, rfl⟩ rfl
    · refine v_tableOut (tgt := 80) hX d_Nod_cutDetail_18 (by unfold ir; omega) (by decide) (by decide) ?_
      refine v_aload_n hX d_Nod_cutDetail_80 0 rfl ?_
      refine g_get (i := b) hX hj fl_Nod_26 d_Nod_cutDetail_81 (by omega) hn1 rfl ?_
      refine g_get (i := q + 3) hX hj fl_Nod_18 d_Nod_cutDetail_84 (by omega) hq1.2.2.2.1 rfl ?_
      exact hret _ _ _ _ d_Nod_cutDetail_87 (by first | assumption | (unfold ir; omega)) ⟨_, rfl, rfl, rfl⟩ rfl

set_option maxHeartbeats 1000000 in
set_option maxRecDepth 100000 in
theorem m_Nod_beginStages {G : xG} {f0 : xF} {ad : Nat → Nat} (hj : adOk ad 400) {σ : xF} (b num : Nat) (bM : b + 2 < 400) (F : Nat → Int) (ch : Option Nat) (hN : pNod ad σ b num F ch) : ∀ l, gVo l G f0 ad 400 y_Nod_beginStages (.code y_Nod_beginStages c_Nod_beginStages 1 none) rm_Nod_beginStages [.ref (ad b)] σ (fun σ' => σ' = va_up σ b (nodE ad b num (va_up (va_up F 8 (if ch = none then 0 else 24)) 9 24) ch)) := by
  intro l
  refine mV_of (by decide) (Nat.le_of_ble_eq_true rfl) (fun X hX hret => ?_)
  show vV G X 0 0 0 [(0, .ref (ad b))] [] (ov f0 ad 400 σ)
  rcases ch with _ | q
  · have hn1 := hN.1
    refine v_aload_n hX d_Nod_beginStages_0 0 rfl ?_
    refine v_aload_n hX d_Nod_beginStages_1 0 rfl ?_
    refine g_callVI (As := []) (st := [.ref (ad b)]) hX hj (i := b) (by omega) hn1 (m_Nod_isUnparted hj b num bM F none hN) cl_Nod_60 d_Nod_beginStages_2 rfl ⟨by decide, by decide⟩ ⟨by decide, by decide⟩ (Nat.le_of_ble_eq_true rfl) (fun z1 σ2 hz3 hp4 => ?_)
    obtain ⟨he9, hv9⟩ := hp4
    rw [he9]
    have e9 : z1 = 1 := hv9.trans (if_pos rfl)
    subst e9
    refine v_if_eq (tgt := 12) hX d_Nod_beginStages_5 (by decide) (by unfold ir; omega) (fun c9 => absurd c9 (by omega)) (fun c9 => ?_)
    refine v_iconst hX (0) d_Nod_beginStages_8 ?_
    refine v_goto (tgt := 14) hX d_Nod_beginStages_9 (by decide) ?_
    refine g_put (i := b) (fs' := [.int (iv (((num : Nat) : Int))), .ref (ad (b + 1)), .int (iv ((F 2))), .int (iv ((F 3))), .int (iv ((F 4))), .int (iv ((F 5))), .null, .null, .int (iv (0)), .int (iv ((F 9))), .int (iv ((F 10))), .int (iv ((F 11)))]) hX hj pf_Nod_57 d_Nod_beginStages_14 (by omega) hn1 rfl rfl (Nat.le_of_ble_eq_true rfl) rfl ?_
    obtain ⟨σ5, hs6⟩ : ∃ s9, s9 = va_up σ (b) (eO 3 [.int (iv (((num : Nat) : Int))), .ref (ad (b + 1)), .int (iv ((F 2))), .int (iv ((F 3))), .int (iv ((F 4))), .int (iv ((F 5))), .null, .null, .int (iv (0)), .int (iv ((F 9))), .int (iv ((F 10))), .int (iv ((F 11)))]) := ⟨_, rfl⟩
    rw [← hs6]
    have hf8 : σ5 (b) = (eO 3 [.int (iv (((num : Nat) : Int))), .ref (ad (b + 1)), .int (iv ((F 2))), .int (iv ((F 3))), .int (iv ((F 4))), .int (iv ((F 5))), .null, .null, .int (iv (0)), .int (iv ((F 9))), .int (iv ((F 10))), .int (iv ((F 11)))]) := by rw [hs6, va_up_self]
    refine v_aload_n hX d_Nod_beginStages_17 0 rfl ?_
    refine v_bipush hX (24) d_Nod_beginStages_18 rfl ?_
    refine g_put (i := b) (fs' := [.int (iv (((num : Nat) : Int))), .ref (ad (b + 1)), .int (iv ((F 2))), .int (iv ((F 3))), .int (iv ((F 4))), .int (iv ((F 5))), .null, .null, .int (iv (0)), .int (iv (24)), .int (iv ((F 10))), .int (iv ((F 11)))]) hX hj pf_Nod_54 d_Nod_beginStages_20 (by omega) hf8 rfl rfl (Nat.le_of_ble_eq_true rfl) rfl ?_
    obtain ⟨σ9, hs10⟩ : ∃ s9, s9 = va_up σ5 (b) (eO 3 [.int (iv (((num : Nat) : Int))), .ref (ad (b + 1)), .int (iv ((F 2))), .int (iv ((F 3))), .int (iv ((F 4))), .int (iv ((F 5))), .null, .null, .int (iv (0)), .int (iv (24)), .int (iv ((F 10))), .int (iv ((F 11)))]) := ⟨_, rfl⟩
    rw [← hs10]
    have hf12 : σ9 (b) = (eO 3 [.int (iv (((num : Nat) : Int))), .ref (ad (b + 1)), .int (iv ((F 2))), .int (iv ((F 3))), .int (iv ((F 4))), .int (iv ((F 5))), .null, .null, .int (iv (0)), .int (iv (24)), .int (iv ((F 10))), .int (iv ((F 11)))]) := by rw [hs10, va_up_self]
    exact hret _ _ _ d_Nod_beginStages_23 ⟨_, rfl, (by rw [hs10, hs6, bx_uu]; rfl)⟩
  · have hn1 := hN.1
    refine v_aload_n hX d_Nod_beginStages_0 0 rfl ?_
    refine v_aload_n hX d_Nod_beginStages_1 0 rfl ?_
    refine g_callVI (As := []) (st := [.ref (ad b)]) hX hj (i := b) (by omega) hn1 (m_Nod_isUnparted hj b num bM F (some q) hN) cl_Nod_60 d_Nod_beginStages_2 rfl ⟨by decide, by decide⟩ ⟨by decide, by decide⟩ (Nat.le_of_ble_eq_true rfl) (fun z1 σ2 hz3 hp4 => ?_)
    obtain ⟨he9, hv9⟩ := hp4
    rw [he9]
    have e9 : z1 = 0 := hv9.trans (if_neg (fun h => by cases h))
    subst e9
    refine v_if_eq (tgt := 12) hX d_Nod_beginStages_5 (by decide) (by unfold ir; omega) (fun c9 => ?_) (fun c9 => absurd c9 (by omega))
    refine v_bipush hX (24) d_Nod_beginStages_12 rfl ?_
    refine g_put (i := b) (fs' := [.int (iv (((num : Nat) : Int))), .ref (ad (b + 1)), .int (iv ((F 2))), .int (iv ((F 3))), .int (iv ((F 4))), .int (iv ((F 5))), .ref (ad q), .ref (ad (q + 3)), .int (iv (24)), .int (iv ((F 9))), .int (iv ((F 10))), .int (iv ((F 11)))]) hX hj pf_Nod_57 d_Nod_beginStages_14 (by omega) hn1 rfl rfl (Nat.le_of_ble_eq_true rfl) rfl ?_
    obtain ⟨σ5, hs6⟩ : ∃ s9, s9 = va_up σ (b) (eO 3 [.int (iv (((num : Nat) : Int))), .ref (ad (b + 1)), .int (iv ((F 2))), .int (iv ((F 3))), .int (iv ((F 4))), .int (iv ((F 5))), .ref (ad q), .ref (ad (q + 3)), .int (iv (24)), .int (iv ((F 9))), .int (iv ((F 10))), .int (iv ((F 11)))]) := ⟨_, rfl⟩
    rw [← hs6]
    have hf8 : σ5 (b) = (eO 3 [.int (iv (((num : Nat) : Int))), .ref (ad (b + 1)), .int (iv ((F 2))), .int (iv ((F 3))), .int (iv ((F 4))), .int (iv ((F 5))), .ref (ad q), .ref (ad (q + 3)), .int (iv (24)), .int (iv ((F 9))), .int (iv ((F 10))), .int (iv ((F 11)))]) := by rw [hs6, va_up_self]
    refine v_aload_n hX d_Nod_beginStages_17 0 rfl ?_
    refine v_bipush hX (24) d_Nod_beginStages_18 rfl ?_
    refine g_put (i := b) (fs' := [.int (iv (((num : Nat) : Int))), .ref (ad (b + 1)), .int (iv ((F 2))), .int (iv ((F 3))), .int (iv ((F 4))), .int (iv ((F 5))), .ref (ad q), .ref (ad (q + 3)), .int (iv (24)), .int (iv (24)), .int (iv ((F 10))), .int (iv ((F 11)))]) hX hj pf_Nod_54 d_Nod_beginStages_20 (by omega) hf8 rfl rfl (Nat.le_of_ble_eq_true rfl) rfl ?_
    obtain ⟨σ9, hs10⟩ : ∃ s9, s9 = va_up σ5 (b) (eO 3 [.int (iv (((num : Nat) : Int))), .ref (ad (b + 1)), .int (iv ((F 2))), .int (iv ((F 3))), .int (iv ((F 4))), .int (iv ((F 5))), .ref (ad q), .ref (ad (q + 3)), .int (iv (24)), .int (iv (24)), .int (iv ((F 10))), .int (iv ((F 11)))]) := ⟨_, rfl⟩
    rw [← hs10]
    have hf12 : σ9 (b) = (eO 3 [.int (iv (((num : Nat) : Int))), .ref (ad (b + 1)), .int (iv ((F 2))), .int (iv ((F 3))), .int (iv ((F 4))), .int (iv ((F 5))), .ref (ad q), .ref (ad (q + 3)), .int (iv (24)), .int (iv (24)), .int (iv ((F 10))), .int (iv ((F 11)))]) := by rw [hs10, va_up_self]
    exact hret _ _ _ d_Nod_beginStages_23 ⟨_, rfl, (by rw [hs10, hs6, bx_uu]; rfl)⟩

set_option maxHeartbeats 1000000 in
set_option maxRecDepth 100000 in
theorem m_Nod_sumUp {G : xG} {f0 : xF} {ad : Nat → Nat} (hj : adOk ad 400) {σ : xF} (b num : Nat) (bM : b + 2 < 400) (F : Nat → Int) (ch : Option Nat) (hN : pNod ad σ b num F ch) (ln : Nat) (F1 F2 : Nat → Int) (c1 c2 : Option Nat) (hK : ∀ q, ch = some q → b + 2 < q ∧ q + 5 < 400 ∧ pNod ad σ q ln F1 c1 ∧ pNod ad σ (q + 3) (ln + 1) F2 c2) (s : Int) (hs : ir s) (h8 : ir (F 8)) : ∀ l, gVo l G f0 ad 400 y_Nod_sumUp (.code y_Nod_sumUp c_Nod_sumUp 2 none) rm_Nod_sumUp [.ref (ad b), .int (iv (s))] σ (fun σ' => σ' = va_up σ b (nodE ad b num (va_up (va_up F 10 (if ch = none ∨ F 8 ≤ s then 1 else F1 10 + F2 10)) 11 (if ch = none ∨ F 8 ≤ s then F 5 else F1 11 + F2 11)) ch)) := by
  intro l
  refine mV_of (by decide) (Nat.le_of_ble_eq_true rfl) (fun X hX hret => ?_)
  show vV G X 0 0 0 [(0, .ref (ad b)), (1, .int (iv (s)))] [] (ov f0 ad 400 σ)
  rcases ch with _ | q
  · have hn1 := hN.1
    refine v_aload_n hX d_Nod_sumUp_0 0 rfl ?_
    refine g_get (i := b) hX hj fl_Nod_22 d_Nod_sumUp_1 (by omega) hn1 rfl ?_
    refine v_ifnullN (tgt := 22) hX d_Nod_sumUp_4 (by decide) ?_
    refine v_aload_n hX d_Nod_sumUp_22 0 rfl ?_
    refine v_iconst hX (1) d_Nod_sumUp_23 ?_
    refine g_put (i := b) (fs' := [.int (iv (((num : Nat) : Int))), .ref (ad (b + 1)), .int (iv ((F 2))), .int (iv ((F 3))), .int (iv ((F 4))), .int (iv ((F 5))), .null, .null, .int (iv ((F 8))), .int (iv ((F 9))), .int (iv (1)), .int (iv ((F 11)))]) hX hj pf_Nod_64 d_Nod_sumUp_24 (by omega) hn1 rfl rfl (Nat.le_of_ble_eq_true rfl) rfl ?_
    obtain ⟨σ1, hs2⟩ : ∃ s9, s9 = va_up σ (b) (eO 3 [.int (iv (((num : Nat) : Int))), .ref (ad (b + 1)), .int (iv ((F 2))), .int (iv ((F 3))), .int (iv ((F 4))), .int (iv ((F 5))), .null, .null, .int (iv ((F 8))), .int (iv ((F 9))), .int (iv (1)), .int (iv ((F 11)))]) := ⟨_, rfl⟩
    rw [← hs2]
    have hf4 := (show σ1 (b + 1) = σ (b + 1) by rw [hs2, va_up_ne _ _ (by omega)]).trans hN.2.1
    have hf5 : σ1 (b) = (eO 3 [.int (iv (((num : Nat) : Int))), .ref (ad (b + 1)), .int (iv ((F 2))), .int (iv ((F 3))), .int (iv ((F 4))), .int (iv ((F 5))), .null, .null, .int (iv ((F 8))), .int (iv ((F 9))), .int (iv (1)), .int (iv ((F 11)))]) := by rw [hs2, va_up_self]
    refine v_aload_n hX d_Nod_sumUp_27 0 rfl ?_
    refine v_aload_n hX d_Nod_sumUp_28 0 rfl ?_
    refine g_get (i := b) hX hj fl_Nod_51 d_Nod_sumUp_29 (by omega) hf5 rfl ?_
    refine g_put (i := b) (fs' := [.int (iv (((num : Nat) : Int))), .ref (ad (b + 1)), .int (iv ((F 2))), .int (iv ((F 3))), .int (iv ((F 4))), .int (iv ((F 5))), .null, .null, .int (iv ((F 8))), .int (iv ((F 9))), .int (iv (1)), .int (iv ((F 5)))]) hX hj pf_Nod_67 d_Nod_sumUp_32 (by omega) hf5 rfl rfl (Nat.le_of_ble_eq_true rfl) rfl ?_
    obtain ⟨σ6, hs7⟩ : ∃ s9, s9 = va_up σ1 (b) (eO 3 [.int (iv (((num : Nat) : Int))), .ref (ad (b + 1)), .int (iv ((F 2))), .int (iv ((F 3))), .int (iv ((F 4))), .int (iv ((F 5))), .null, .null, .int (iv ((F 8))), .int (iv ((F 9))), .int (iv (1)), .int (iv ((F 5)))]) := ⟨_, rfl⟩
    rw [← hs7]
    have hf8 := (show σ6 (b + 1) = σ1 (b + 1) by rw [hs7, va_up_ne _ _ (by omega)]).trans hf4
    have hf10 : σ6 (b) = (eO 3 [.int (iv (((num : Nat) : Int))), .ref (ad (b + 1)), .int (iv ((F 2))), .int (iv ((F 3))), .int (iv ((F 4))), .int (iv ((F 5))), .null, .null, .int (iv ((F 8))), .int (iv ((F 9))), .int (iv (1)), .int (iv ((F 5)))]) := by rw [hs7, va_up_self]
    refine v_goto (tgt := 76) hX d_Nod_sumUp_35 (by decide) ?_
    exact hret _ _ _ d_Nod_sumUp_76 ⟨_, rfl, (by rw [hs7, hs2, bx_uu, if_pos (by first | exact Or.inl rfl | exact Or.inr (by omega)), if_pos (by first | exact Or.inl rfl | exact Or.inr (by omega))]; rfl)⟩
  · have hn1 := hN.1
    have hq1 := hK _ rfl
    refine v_aload_n hX d_Nod_sumUp_0 0 rfl ?_
    refine g_get (i := b) hX hj fl_Nod_22 d_Nod_sumUp_1 (by omega) hn1 rfl ?_
    refine v_ifnull hX d_Nod_sumUp_4 ?_
    refine v_aload_n hX d_Nod_sumUp_7 0 rfl ?_
    refine g_get (i := b) hX hj fl_Nod_26 d_Nod_sumUp_8 (by omega) hn1 rfl ?_
    refine v_ifnull hX d_Nod_sumUp_11 ?_
    refine v_iload_n hX d_Nod_sumUp_14 1 rfl ?_
    refine v_aload_n hX d_Nod_sumUp_15 0 rfl ?_
    refine g_get (i := b) hX hj fl_Nod_57 d_Nod_sumUp_16 (by omega) hn1 rfl ?_
    refine v_icmp_lt (tgt := 38) hX d_Nod_sumUp_19 (by decide) (by assumption) (by assumption) (fun c19_1 => ?_) (fun c19_1 => ?_)
    · refine v_aload_n hX d_Nod_sumUp_38 0 rfl ?_
      refine v_aload_n hX d_Nod_sumUp_39 0 rfl ?_
      refine g_get (i := b) hX hj fl_Nod_22 d_Nod_sumUp_40 (by omega) hn1 rfl ?_
      refine g_get (i := q) hX hj fl_Nod_64 d_Nod_sumUp_43 (by omega) hq1.2.2.1.1 rfl ?_
      refine v_aload_n hX d_Nod_sumUp_46 0 rfl ?_
      refine g_get (i := b) hX hj fl_Nod_26 d_Nod_sumUp_47 (by omega) hn1 rfl ?_
      refine g_get (i := q + 3) hX hj fl_Nod_64 d_Nod_sumUp_50 (by omega) hq1.2.2.2.1 rfl ?_
      refine v_iadd hX d_Nod_sumUp_53 ?_
      refine g_put (i := b) (fs' := [.int (iv (((num : Nat) : Int))), .ref (ad (b + 1)), .int (iv ((F 2))), .int (iv ((F 3))), .int (iv ((F 4))), .int (iv ((F 5))), .ref (ad q), .ref (ad (q + 3)), .int (iv ((F 8))), .int (iv ((F 9))), .int (iv (((F1 10) + (F2 10)))), .int (iv ((F 11)))]) hX hj pf_Nod_64 d_Nod_sumUp_54 (by omega) hn1 rfl rfl (Nat.le_of_ble_eq_true rfl) rfl ?_
      obtain ⟨σ1, hs2⟩ : ∃ s9, s9 = va_up σ (b) (eO 3 [.int (iv (((num : Nat) : Int))), .ref (ad (b + 1)), .int (iv ((F 2))), .int (iv ((F 3))), .int (iv ((F 4))), .int (iv ((F 5))), .ref (ad q), .ref (ad (q + 3)), .int (iv ((F 8))), .int (iv ((F 9))), .int (iv (((F1 10) + (F2 10)))), .int (iv ((F 11)))]) := ⟨_, rfl⟩
      rw [← hs2]
      have hf4 := (show σ1 (b + 1) = σ (b + 1) by rw [hs2, va_up_ne _ _ (by omega)]).trans hN.2.1
      have hf5 := (show σ1 (q) = σ (q) by rw [hs2, va_up_ne _ _ (by omega)]).trans hq1.2.2.1.1
      have hf6 := (show σ1 (q + 3) = σ (q + 3) by rw [hs2, va_up_ne _ _ (by omega)]).trans hq1.2.2.2.1
      have hf7 : σ1 (b) = (eO 3 [.int (iv (((num : Nat) : Int))), .ref (ad (b + 1)), .int (iv ((F 2))), .int (iv ((F 3))), .int (iv ((F 4))), .int (iv ((F 5))), .ref (ad q), .ref (ad (q + 3)), .int (iv ((F 8))), .int (iv ((F 9))), .int (iv (((F1 10) + (F2 10)))), .int (iv ((F 11)))]) := by rw [hs2, va_up_self]
      refine v_aload_n hX d_Nod_sumUp_57 0 rfl ?_
      refine v_aload_n hX d_Nod_sumUp_58 0 rfl ?_
      refine g_get (i := b) hX hj fl_Nod_22 d_Nod_sumUp_59 (by omega) hf7 rfl ?_
      refine g_get (i := q) hX hj fl_Nod_67 d_Nod_sumUp_62 (by omega) hf5 rfl ?_
      refine v_aload_n hX d_Nod_sumUp_65 0 rfl ?_
      refine g_get (i := b) hX hj fl_Nod_26 d_Nod_sumUp_66 (by omega) hf7 rfl ?_
      refine g_get (i := q + 3) hX hj fl_Nod_67 d_Nod_sumUp_69 (by omega) hf6 rfl ?_
      refine v_iadd hX d_Nod_sumUp_72 ?_
      refine g_put (i := b) (fs' := [.int (iv (((num : Nat) : Int))), .ref (ad (b + 1)), .int (iv ((F 2))), .int (iv ((F 3))), .int (iv ((F 4))), .int (iv ((F 5))), .ref (ad q), .ref (ad (q + 3)), .int (iv ((F 8))), .int (iv ((F 9))), .int (iv (((F1 10) + (F2 10)))), .int (iv (((F1 11) + (F2 11))))]) hX hj pf_Nod_67 d_Nod_sumUp_73 (by omega) hf7 rfl rfl (Nat.le_of_ble_eq_true rfl) rfl ?_
      obtain ⟨σ8, hs9⟩ : ∃ s9, s9 = va_up σ1 (b) (eO 3 [.int (iv (((num : Nat) : Int))), .ref (ad (b + 1)), .int (iv ((F 2))), .int (iv ((F 3))), .int (iv ((F 4))), .int (iv ((F 5))), .ref (ad q), .ref (ad (q + 3)), .int (iv ((F 8))), .int (iv ((F 9))), .int (iv (((F1 10) + (F2 10)))), .int (iv (((F1 11) + (F2 11))))]) := ⟨_, rfl⟩
      rw [← hs9]
      have hf10 := (show σ8 (b + 1) = σ1 (b + 1) by rw [hs9, va_up_ne _ _ (by omega)]).trans hf4
      have hf11 := (show σ8 (q) = σ1 (q) by rw [hs9, va_up_ne _ _ (by omega)]).trans hf5
      have hf12 := (show σ8 (q + 3) = σ1 (q + 3) by rw [hs9, va_up_ne _ _ (by omega)]).trans hf6
      have hf14 : σ8 (b) = (eO 3 [.int (iv (((num : Nat) : Int))), .ref (ad (b + 1)), .int (iv ((F 2))), .int (iv ((F 3))), .int (iv ((F 4))), .int (iv ((F 5))), .ref (ad q), .ref (ad (q + 3)), .int (iv ((F 8))), .int (iv ((F 9))), .int (iv (((F1 10) + (F2 10)))), .int (iv (((F1 11) + (F2 11))))]) := by rw [hs9, va_up_self]
      exact hret _ _ _ d_Nod_sumUp_76 ⟨_, rfl, (by rw [hs9, hs2, bx_uu, if_neg (by rintro (h | h) <;> first | cases h | omega), if_neg (by rintro (h | h) <;> first | cases h | omega)]; rfl)⟩
    · refine v_aload_n hX d_Nod_sumUp_22 0 rfl ?_
      refine v_iconst hX (1) d_Nod_sumUp_23 ?_
      refine g_put (i := b) (fs' := [.int (iv (((num : Nat) : Int))), .ref (ad (b + 1)), .int (iv ((F 2))), .int (iv ((F 3))), .int (iv ((F 4))), .int (iv ((F 5))), .ref (ad q), .ref (ad (q + 3)), .int (iv ((F 8))), .int (iv ((F 9))), .int (iv (1)), .int (iv ((F 11)))]) hX hj pf_Nod_64 d_Nod_sumUp_24 (by omega) hn1 rfl rfl (Nat.le_of_ble_eq_true rfl) rfl ?_
      obtain ⟨σ15, hs16⟩ : ∃ s9, s9 = va_up σ (b) (eO 3 [.int (iv (((num : Nat) : Int))), .ref (ad (b + 1)), .int (iv ((F 2))), .int (iv ((F 3))), .int (iv ((F 4))), .int (iv ((F 5))), .ref (ad q), .ref (ad (q + 3)), .int (iv ((F 8))), .int (iv ((F 9))), .int (iv (1)), .int (iv ((F 11)))]) := ⟨_, rfl⟩
      rw [← hs16]
      have hf18 := (show σ15 (b + 1) = σ (b + 1) by rw [hs16, va_up_ne _ _ (by omega)]).trans hN.2.1
      have hf19 := (show σ15 (q) = σ (q) by rw [hs16, va_up_ne _ _ (by omega)]).trans hq1.2.2.1.1
      have hf20 := (show σ15 (q + 3) = σ (q + 3) by rw [hs16, va_up_ne _ _ (by omega)]).trans hq1.2.2.2.1
      have hf21 : σ15 (b) = (eO 3 [.int (iv (((num : Nat) : Int))), .ref (ad (b + 1)), .int (iv ((F 2))), .int (iv ((F 3))), .int (iv ((F 4))), .int (iv ((F 5))), .ref (ad q), .ref (ad (q + 3)), .int (iv ((F 8))), .int (iv ((F 9))), .int (iv (1)), .int (iv ((F 11)))]) := by rw [hs16, va_up_self]
      refine v_aload_n hX d_Nod_sumUp_27 0 rfl ?_
      refine v_aload_n hX d_Nod_sumUp_28 0 rfl ?_
      refine g_get (i := b) hX hj fl_Nod_51 d_Nod_sumUp_29 (by omega) hf21 rfl ?_
      refine g_put (i := b) (fs' := [.int (iv (((num : Nat) : Int))), .ref (ad (b + 1)), .int (iv ((F 2))), .int (iv ((F 3))), .int (iv ((F 4))), .int (iv ((F 5))), .ref (ad q), .ref (ad (q + 3)), .int (iv ((F 8))), .int (iv ((F 9))), .int (iv (1)), .int (iv ((F 5)))]) hX hj pf_Nod_67 d_Nod_sumUp_32 (by omega) hf21 rfl rfl (Nat.le_of_ble_eq_true rfl) rfl ?_
      obtain ⟨σ22, hs23⟩ : ∃ s9, s9 = va_up σ15 (b) (eO 3 [.int (iv (((num : Nat) : Int))), .ref (ad (b + 1)), .int (iv ((F 2))), .int (iv ((F 3))), .int (iv ((F 4))), .int (iv ((F 5))), .ref (ad q), .ref (ad (q + 3)), .int (iv ((F 8))), .int (iv ((F 9))), .int (iv (1)), .int (iv ((F 5)))]) := ⟨_, rfl⟩
      rw [← hs23]
      have hf24 := (show σ22 (b + 1) = σ15 (b + 1) by rw [hs23, va_up_ne _ _ (by omega)]).trans hf18
      have hf25 := (show σ22 (q) = σ15 (q) by rw [hs23, va_up_ne _ _ (by omega)]).trans hf19
      have hf26 := (show σ22 (q + 3) = σ15 (q + 3) by rw [hs23, va_up_ne _ _ (by omega)]).trans hf20
      have hf28 : σ22 (b) = (eO 3 [.int (iv (((num : Nat) : Int))), .ref (ad (b + 1)), .int (iv ((F 2))), .int (iv ((F 3))), .int (iv ((F 4))), .int (iv ((F 5))), .ref (ad q), .ref (ad (q + 3)), .int (iv ((F 8))), .int (iv ((F 9))), .int (iv (1)), .int (iv ((F 5)))]) := by rw [hs23, va_up_self]
      refine v_goto (tgt := 76) hX d_Nod_sumUp_35 (by decide) ?_
      exact hret _ _ _ d_Nod_sumUp_76 ⟨_, rfl, (by rw [hs23, hs16, bx_uu, if_pos (by first | exact Or.inl rfl | exact Or.inr (by omega)), if_pos (by first | exact Or.inl rfl | exact Or.inr (by omega))]; rfl)⟩

set_option maxHeartbeats 1000000 in
set_option maxRecDepth 100000 in
theorem m_Nod_loseThoseBelow {G : xG} {f0 : xF} {ad : Nat → Nat} (hj : adOk ad 400) {σ : xF} (b num : Nat) (bM : b + 2 < 400) (F : Nat → Int) (ch : Option Nat) (hN : pNod ad σ b num F ch) (ln : Nat) (F1 F2 : Nat → Int) (c1 c2 : Option Nat) (hK : ∀ q, ch = some q → b + 2 < q ∧ q + 5 < 400 ∧ pNod ad σ q ln F1 c1 ∧ pNod ad σ (q + 3) (ln + 1) F2 c2) (s : Int) (hs : ir s) (h8 : ir (F1 9)) (h9 : ir (F2 9)) : ∀ l, gVo l G f0 ad 400 y_Nod_loseThoseBelow (.code y_Nod_loseThoseBelow c_Nod_loseThoseBelow 2 none) rm_Nod_loseThoseBelow [.ref (ad b), .int (iv (s))] σ (fun σ' => σ' = (match ch with | none => σ | some q => va_up (va_up σ q (nodE ad q ln (va_up F1 9 (if s < F1 9 then s else F1 9)) c1)) (q + 3) (nodE ad (q + 3) (ln + 1) (va_up F2 9 (if s < F2 9 then s else F2 9)) c2))) := by
  intro l
  refine mV_of (by decide) (Nat.le_of_ble_eq_true rfl) (fun X hX hret => ?_)
  show vV G X 0 0 0 [(0, .ref (ad b)), (1, .int (iv (s)))] [] (ov f0 ad 400 σ)
  rcases ch with _ | q
  · have hn1 := hN.1
    refine v_aload_n hX d_Nod_loseThoseBelow_0 0 rfl ?_
    refine g_get (i := b) hX hj fl_Nod_22 d_Nod_loseThoseBelow_1 (by omega) hn1 rfl ?_
    refine v_ifnullN (tgt := 50) hX d_Nod_loseThoseBelow_4 (by decide) ?_
    exact hret _ _ _ d_Nod_loseThoseBelow_50 ⟨_, rfl, rfl⟩
  · have hn1 := hN.1
    have hq1 := hK _ rfl
    refine v_aload_n hX d_Nod_loseThoseBelow_0 0 rfl ?_
    refine g_get (i := b) hX hj fl_Nod_22 d_Nod_loseThoseBelow_1 (by omega) hn1 rfl ?_
    refine v_ifnull hX d_Nod_loseThoseBelow_4 ?_
    refine v_aload_n hX d_Nod_loseThoseBelow_7 0 rfl ?_
    refine g_get (i := b) hX hj fl_Nod_26 d_Nod_loseThoseBelow_8 (by omega) hn1 rfl ?_
    refine v_ifnull hX d_Nod_loseThoseBelow_11 ?_
    refine v_aload_n hX d_Nod_loseThoseBelow_14 0 rfl ?_
    refine g_get (i := b) hX hj fl_Nod_22 d_Nod_loseThoseBelow_15 (by omega) hn1 rfl ?_
    refine v_aload_n hX d_Nod_loseThoseBelow_18 0 rfl ?_
    refine g_get (i := b) hX hj fl_Nod_22 d_Nod_loseThoseBelow_19 (by omega) hn1 rfl ?_
    refine g_get (i := q) hX hj fl_Nod_54 d_Nod_loseThoseBelow_22 (by omega) hq1.2.2.1.1 rfl ?_
    refine v_iload_n hX d_Nod_loseThoseBelow_25 1 rfl ?_
    refine v_mmin (a := (F1 9)) (b := s) (st := [.ref (ad q)]) hX (by first | assumption | (unfold ir at *; omega)) (by first | assumption | (unfold ir at *; omega)) d_Nod_loseThoseBelow_26 (mT 549 (by decide +kernel) rfl) (mT 550 (by decide +kernel) rfl) (mT 55 (by decide +kernel) rfl) (mT 551 (by decide +kernel) rfl) (by decide) (Nat.le_of_ble_eq_true rfl) (Nat.le_refl _) (Nat.le_refl _) ?_
    refine g_put (i := q) (fs' := [.int (iv (((ln : Nat) : Int))), .ref (ad (q + 1)), .int (iv ((F1 2))), .int (iv ((F1 3))), .int (iv ((F1 4))), .int (iv ((F1 5))), lC ad c1, lC ad (c1.map (fun q => q + 3)), .int (iv ((F1 8))), .int (iv ((if s < (F1 9) then s else (F1 9)))), .int (iv ((F1 10))), .int (iv ((F1 11)))]) hX hj pf_Nod_54 d_Nod_loseThoseBelow_29 (by omega) hq1.2.2.1.1 rfl rfl (Nat.le_of_ble_eq_true rfl) rfl ?_
    obtain ⟨σ1, hs2⟩ : ∃ s9, s9 = va_up σ (q) (eO 3 [.int (iv (((ln : Nat) : Int))), .ref (ad (q + 1)), .int (iv ((F1 2))), .int (iv ((F1 3))), .int (iv ((F1 4))), .int (iv ((F1 5))), lC ad c1, lC ad (c1.map (fun q => q + 3)), .int (iv ((F1 8))), .int (iv ((if s < (F1 9) then s else (F1 9)))), .int (iv ((F1 10))), .int (iv ((F1 11)))]) := ⟨_, rfl⟩
    rw [← hs2]
    have hf3 := (show σ1 (b) = σ (b) by rw [hs2, va_up_ne _ _ (by omega)]).trans hn1
    have hf4 := (show σ1 (b + 1) = σ (b + 1) by rw [hs2, va_up_ne _ _ (by omega)]).trans hN.2.1
    have hf6 := (show σ1 (q + 3) = σ (q + 3) by rw [hs2, va_up_ne _ _ (by omega)]).trans hq1.2.2.2.1
    have hf7 : σ1 (q) = (eO 3 [.int (iv (((ln : Nat) : Int))), .ref (ad (q + 1)), .int (iv ((F1 2))), .int (iv ((F1 3))), .int (iv ((F1 4))), .int (iv ((F1 5))), lC ad c1, lC ad (c1.map (fun q => q + 3)), .int (iv ((F1 8))), .int (iv ((if s < (F1 9) then s else (F1 9)))), .int (iv ((F1 10))), .int (iv ((F1 11)))]) := by rw [hs2, va_up_self]
    refine v_aload_n hX d_Nod_loseThoseBelow_32 0 rfl ?_
    refine g_get (i := b) hX hj fl_Nod_26 d_Nod_loseThoseBelow_33 (by omega) hf3 rfl ?_
    refine v_aload_n hX d_Nod_loseThoseBelow_36 0 rfl ?_
    refine g_get (i := b) hX hj fl_Nod_26 d_Nod_loseThoseBelow_37 (by omega) hf3 rfl ?_
    refine g_get (i := q + 3) hX hj fl_Nod_54 d_Nod_loseThoseBelow_40 (by omega) hf6 rfl ?_
    refine v_iload_n hX d_Nod_loseThoseBelow_43 1 rfl ?_
    refine v_mmin (a := (F2 9)) (b := s) (st := [.ref (ad (q + 3))]) hX (by first | assumption | (unfold ir at *; omega)) (by first | assumption | (unfold ir at *; omega)) d_Nod_loseThoseBelow_44 (mT 549 (by decide +kernel) rfl) (mT 550 (by decide +kernel) rfl) (mT 55 (by decide +kernel) rfl) (mT 551 (by decide +kernel) rfl) (by decide) (Nat.le_of_ble_eq_true rfl) (Nat.le_refl _) (Nat.le_refl _) ?_
    refine g_put (i := q + 3) (fs' := [.int (iv ((((ln + 1) : Nat) : Int))), .ref (ad (q + 3 + 1)), .int (iv ((F2 2))), .int (iv ((F2 3))), .int (iv ((F2 4))), .int (iv ((F2 5))), lC ad c2, lC ad (c2.map (fun q => q + 3)), .int (iv ((F2 8))), .int (iv ((if s < (F2 9) then s else (F2 9)))), .int (iv ((F2 10))), .int (iv ((F2 11)))]) hX hj pf_Nod_54 d_Nod_loseThoseBelow_47 (by omega) hf6 rfl rfl (Nat.le_of_ble_eq_true rfl) rfl ?_
    obtain ⟨σ8, hs9⟩ : ∃ s9, s9 = va_up σ1 (q + 3) (eO 3 [.int (iv ((((ln + 1) : Nat) : Int))), .ref (ad (q + 3 + 1)), .int (iv ((F2 2))), .int (iv ((F2 3))), .int (iv ((F2 4))), .int (iv ((F2 5))), lC ad c2, lC ad (c2.map (fun q => q + 3)), .int (iv ((F2 8))), .int (iv ((if s < (F2 9) then s else (F2 9)))), .int (iv ((F2 10))), .int (iv ((F2 11)))]) := ⟨_, rfl⟩
    rw [← hs9]
    have hf10 := (show σ8 (b) = σ1 (b) by rw [hs9, va_up_ne _ _ (by omega)]).trans hf3
    have hf11 := (show σ8 (b + 1) = σ1 (b + 1) by rw [hs9, va_up_ne _ _ (by omega)]).trans hf4
    have hf13 := (show σ8 (q) = σ1 (q) by rw [hs9, va_up_ne _ _ (by omega)]).trans hf7
    have hf14 : σ8 (q + 3) = (eO 3 [.int (iv ((((ln + 1) : Nat) : Int))), .ref (ad (q + 3 + 1)), .int (iv ((F2 2))), .int (iv ((F2 3))), .int (iv ((F2 4))), .int (iv ((F2 5))), lC ad c2, lC ad (c2.map (fun q => q + 3)), .int (iv ((F2 8))), .int (iv ((if s < (F2 9) then s else (F2 9)))), .int (iv ((F2 10))), .int (iv ((F2 11)))]) := by rw [hs9, va_up_self]
    exact hret _ _ _ d_Nod_loseThoseBelow_50 ⟨_, rfl, (by rw [hs9, hs2]; rfl)⟩
