/-! THE TABLE, read; by program -/
set_option maxHeartbeats 1000000 in
set_option maxRecDepth 100000 in
theorem m_Tab_has {G : xG} {f0 : xF} {ad : Nat → Nat} (hj : adOk ad 400) {σ : xF} {n : Nat} {val : Nat → Nat → Int} {cl so rC rK : Nat → Nat} {rL : Nat → Nat → Nat} (hT : pTab G ad σ n val cl so rC rK rL) (hB : bTab n cl so rC rK rL) (r : Int) (hr : ir r) : ∀ l, gI l G f0 ad 400 y_Tab_has (.code y_Tab_has c_Tab_has 2 (some (.boolean))) rm_Tab_has [.ref (ad 1), .int (iv (r))] σ (fun z σ' => σ' = σ ∧ z = pI (0 ≤ r ∧ r < n)) := by
  intro l
  refine mI_of (rt := .boolean) (by decide) (Nat.le_of_ble_eq_true rfl) (fun X hX hret => ?_)
  show vV G X 0 0 0 [(0, .ref (ad 1)), (1, .int (iv (r)))] [] (ov f0 ad 400 σ)
  obtain ⟨a1, a2, a3, a4, a5, a6, a7, a8, a9⟩ := id hT
  obtain ⟨b1, b2, b3, b4, b5, b6⟩ := id hB
  refine v_iload_n hX d_Tab_has_0 1 rfl ?_
  refine v_if_lt (tgt := 22) hX d_Tab_has_1 (by decide) (by first | assumption | (unfold ir at *; omega)) (fun c1_1 => ?_) (fun c1_1 => ?_)
  · refine v_iconst hX (0) d_Tab_has_22 ?_
    exact hret _ _ _ _ d_Tab_has_23 (by first | assumption | (unfold ir at *; omega)) ⟨_, rfl, rfl, (pI_f (by omega))⟩ rfl
  · refine v_iload_n hX d_Tab_has_4 1 rfl ?_
    refine v_aload_n hX d_Tab_has_5 0 rfl ?_
    refine g_get hX hj fl_Tab_20 d_Tab_has_6 (by omega) a1 rfl ?_
    refine v_icmp_ge (tgt := 22) hX d_Tab_has_9 (by decide) (by first | assumption | (unfold ir at *; omega)) (by first | assumption | (unfold ir at *; omega)) (fun c9_2 => ?_) (fun c9_2 => ?_)
    · refine v_iconst hX (0) d_Tab_has_22 ?_
      exact hret _ _ _ _ d_Tab_has_23 (by first | assumption | (unfold ir at *; omega)) ⟨_, rfl, rfl, (pI_f (by omega))⟩ rfl
    · refine v_iload_n hX d_Tab_has_12 1 rfl ?_
      refine v_bipush hX (24) d_Tab_has_13 rfl ?_
      refine v_icmp_ge (tgt := 22) hX d_Tab_has_15 (by decide) (by first | assumption | (unfold ir at *; omega)) (by first | assumption | (unfold ir at *; omega)) (fun c15_3 => ?_) (fun c15_3 => ?_)
      · refine v_iconst hX (0) d_Tab_has_22 ?_
        exact hret _ _ _ _ d_Tab_has_23 (by first | assumption | (unfold ir at *; omega)) ⟨_, rfl, rfl, (pI_f (by omega))⟩ rfl
      · refine v_iconst hX (1) d_Tab_has_18 ?_
        refine v_goto (tgt := 23) hX d_Tab_has_19 (by decide) ?_
        exact hret _ _ _ _ d_Tab_has_23 (by first | assumption | (unfold ir at *; omega)) ⟨_, rfl, rfl, (pI_t (by omega))⟩ rfl

set_option maxHeartbeats 1000000 in
set_option maxRecDepth 100000 in
theorem m_Tab_allRows {G : xG} {f0 : xF} {ad : Nat → Nat} (hj : adOk ad 400) {σ : xF} {n : Nat} {val : Nat → Nat → Int} {cl so rC rK : Nat → Nat} {rL : Nat → Nat → Nat} (hT : pTab G ad σ n val cl so rC rK rL) (hB : bTab n cl so rC rK rL)  : ∀ l, gI l G f0 ad 400 y_Tab_allRows (.code y_Tab_allRows c_Tab_allRows 1 (some (.int))) rm_Tab_allRows [.ref (ad 1)] σ (fun z σ' => σ' = σ ∧ z = ((2 ^ n - 1 : Nat) : Int)) := by
  intro l
  refine mI_of (rt := .int) (by decide) (Nat.le_of_ble_eq_true rfl) (fun X hX hret => ?_)
  show vV G X 0 0 0 [(0, .ref (ad 1))] [] (ov f0 ad 400 σ)
  obtain ⟨a1, a2, a3, a4, a5, a6, a7, a8, a9⟩ := id hT
  obtain ⟨b1, b2, b3, b4, b5, b6⟩ := id hB
  refine v_iconst hX (1) d_Tab_allRows_0 ?_
  refine v_aload_n hX d_Tab_allRows_1 0 rfl ?_
  refine g_get hX hj fl_Tab_20 d_Tab_allRows_2 (by omega) a1 rfl ?_
  refine v_ishl (z := (((2 ^ n) : Nat) : Int)) hX d_Tab_allRows_5 (iv_shl1 (n) (by omega)) ?_
  refine v_iconst hX (1) d_Tab_allRows_6 ?_
  refine v_isub hX d_Tab_allRows_7 ?_
  have h2 : 0 < 2 ^ n := Nat.two_pow_pos n
  have h3 : 2 ^ n ≤ 2 ^ 24 := Nat.pow_le_pow_right (by decide) b1
  exact hret _ _ _ _ d_Tab_allRows_8 (by unfold ir; omega) ⟨_, rfl, rfl, by omega⟩ rfl

set_option maxHeartbeats 1000000 in
set_option maxRecDepth 100000 in
theorem m_Tab_lastNumber {G : xG} {f0 : xF} {ad : Nat → Nat} (hj : adOk ad 400) {σ : xF} {n : Nat} {val : Nat → Nat → Int} {cl so rC rK : Nat → Nat} {rL : Nat → Nat → Nat} (hT : pTab G ad σ n val cl so rC rK rL) (hB : bTab n cl so rC rK rL) (c : Nat) (hc : c < 4) : ∀ l, gI l G f0 ad 400 y_Tab_lastNumber (.code y_Tab_lastNumber c_Tab_lastNumber 2 (some (.int))) rm_Tab_lastNumber [.ref (ad 1), .int (iv (((c : Nat) : Int)))] σ (fun z σ' => σ' = σ ∧ z = (if so c = 1 then 63 else 100)) := by
  intro l
  refine mI_of (rt := .int) (by decide) (Nat.le_of_ble_eq_true rfl) (fun X hX hret => ?_)
  show vV G X 0 0 0 [(0, .ref (ad 1)), (1, .int (iv (((c : Nat) : Int))))] [] (ov f0 ad 400 σ)
  obtain ⟨a1, a2, a3, a4, a5, a6, a7, a8, a9⟩ := id hT
  obtain ⟨b1, b2, b3, b4, b5, b6⟩ := id hB
  refine v_iload_n hX d_Tab_lastNumber_0 1 rfl ?_
  refine g_callSI (As := [.int (iv (((c : Nat) : Int)))]) (st := []) hX (k0_Bs_isColumn (((c : Nat) : Int)) (by first | assumption | (unfold ir at *; omega))) cl_Tab_36 d_Tab_lastNumber_1 rfl ⟨by decide, by decide⟩ ⟨by decide, by decide⟩ (Nat.le_of_ble_eq_true rfl) (fun z1 hz2 hp3 => ?_)
  have z1e : z1 = 1 := hp3.trans (if_pos (by omega))
  subst z1e
  refine v_if_eq (tgt := 22) hX d_Tab_lastNumber_4 (by decide) (by have := b3 c; unfold ir; omega) (fun c9 => absurd c9 (by omega)) (fun c9 => ?_)
  refine v_aload_n hX d_Tab_lastNumber_7 0 rfl ?_
  refine g_get hX hj fl_Tab_24 d_Tab_lastNumber_8 (by omega) a1 rfl ?_
  refine v_iload_n hX d_Tab_lastNumber_11 1 rfl ?_
  refine g_iald hX hj d_Tab_lastNumber_12 (by omega) a4 (by decide) (c) rfl (by omega) ?_
  refine v_iconst hX (1) d_Tab_lastNumber_13 ?_
  refine v_icmp_ne (tgt := 22) hX d_Tab_lastNumber_14 (by decide) (by have := b3 c; unfold ir; omega) (by have := b3 c; unfold ir; omega) (fun c14_2 => ?_) (fun c14_2 => ?_)
  · refine v_bipush hX (100) d_Tab_lastNumber_22 rfl ?_
    exact hret _ _ _ _ d_Tab_lastNumber_24 (by have := b3 c; unfold ir; omega) ⟨_, rfl, rfl, (by first | (rw [if_pos (by omega)]; done) | (rw [if_neg (by omega)]; done))⟩ rfl
  · refine v_bipush hX (63) d_Tab_lastNumber_17 rfl ?_
    refine v_goto (tgt := 24) hX d_Tab_lastNumber_19 (by decide) ?_
    exact hret _ _ _ _ d_Tab_lastNumber_24 (by have := b3 c; unfold ir; omega) ⟨_, rfl, rfl, (by first | (rw [if_pos (by omega)]; done) | (rw [if_neg (by omega)]; done))⟩ rfl

set_option maxHeartbeats 1000000 in
set_option maxRecDepth 100000 in
theorem m_Tab_countOf {G : xG} {f0 : xF} {ad : Nat → Nat} (hj : adOk ad 400) {σ : xF} {n : Nat} {val : Nat → Nat → Int} {cl so rC rK : Nat → Nat} {rL : Nat → Nat → Nat} (hT : pTab G ad σ n val cl so rC rK rL) (hB : bTab n cl so rC rK rL) (rows k : Nat) (hR : rows < 16777216) (hk : k < 3) : ∀ l, gI l G f0 ad 400 y_Tab_countOf (.code y_Tab_countOf c_Tab_countOf 3 (some (.int))) rm_Tab_countOf [.ref (ad 1), .int (iv (((rows : Nat) : Int))), .int (iv (((k : Nat) : Int)))] σ (fun z σ' => σ' = σ ∧ z = ((kCnt rC rows k : Nat) : Int)) := by
  intro l
  refine mI_of (rt := .int) (by decide) (Nat.le_of_ble_eq_true rfl) (fun X hX hret => ?_)
  show vV G X 0 0 0 [(0, .ref (ad 1)), (1, .int (iv (((rows : Nat) : Int)))), (2, .int (iv (((k : Nat) : Int))))] [] (ov f0 ad 400 σ)
  obtain ⟨a1, a2, a3, a4, a5, a6, a7, a8, a9⟩ := id hT
  obtain ⟨b1, b2, b3, b4, b5, b6⟩ := id hB
  refine v_iload_n hX d_Tab_countOf_0 2 rfl ?_
  refine g_callSI (As := [.int (iv (((k : Nat) : Int)))]) (st := []) hX (k0_Bs_isClass (((k : Nat) : Int)) (by first | assumption | (unfold ir at *; omega))) cl_Tab_40 d_Tab_countOf_1 rfl ⟨by decide, by decide⟩ ⟨by decide, by decide⟩ (Nat.le_of_ble_eq_true rfl) (fun z1 hz2 hp3 => ?_)
  have z1e : z1 = 1 := hp3.trans (if_pos (by omega))
  subst z1e
  refine v_if_eq (tgt := 21) hX d_Tab_countOf_4 (by decide) (by have := pop_le 24 (rows &&& rC k); unfold ir; omega) (fun c9 => absurd c9 (by omega)) (fun c9 => ?_)
  refine v_iload_n hX d_Tab_countOf_7 1 rfl ?_
  refine v_aload_n hX d_Tab_countOf_8 0 rfl ?_
  refine g_get hX hj fl_Tab_27 d_Tab_countOf_9 (by omega) a1 rfl ?_
  refine v_iload_n hX d_Tab_countOf_12 2 rfl ?_
  refine g_iald hX hj d_Tab_countOf_13 (by omega) a5 (by decide) (k) rfl (by omega) ?_
  refine v_iand (z := (((rows &&& (rC k)) : Nat) : Int)) hX d_Tab_countOf_14 (iv_and (rows) ((rC k))) ?_
  refine g_callSI (As := [.int (iv ((((rows &&& (rC k)) : Nat) : Int)))]) (st := []) hX (k0_Int_bitCount (rows &&& (rC k)) (Nat.lt_of_le_of_lt Nat.and_le_left (by omega))) cl_Tab_72 d_Tab_countOf_15 rfl ⟨by decide, by decide⟩ ⟨by decide, by decide⟩ (Nat.le_of_ble_eq_true rfl) (fun z4 hz5 hp6 => ?_)
  subst hp6
  refine v_goto (tgt := 22) hX d_Tab_countOf_18 (by decide) ?_
  exact hret _ _ _ _ d_Tab_countOf_22 (by have := pop_le 24 (rows &&& rC k); unfold ir; omega) ⟨_, rfl, rfl, rfl⟩ rfl

set_option maxHeartbeats 1000000 in
set_option maxRecDepth 100000 in
theorem m_Tab_squaresOf {G : xG} {f0 : xF} {ad : Nat → Nat} (hj : adOk ad 400) {σ : xF} {n : Nat} {val : Nat → Nat → Int} {cl so rC rK : Nat → Nat} {rL : Nat → Nat → Nat} (hT : pTab G ad σ n val cl so rC rK rL) (hB : bTab n cl so rC rK rL) (rows : Nat) (hR : rows < 16777216) : ∀ l, gI l G f0 ad 400 y_Tab_squaresOf (.code y_Tab_squaresOf c_Tab_squaresOf 5 (some (.int))) rm_Tab_squaresOf [.ref (ad 1), .int (iv (((rows : Nat) : Int)))] σ (fun z σ' => σ' = σ ∧ z = ((kSq rC rows : Nat) : Int)) := by
  intro l
  refine mI_of (rt := .int) (by decide) (Nat.le_of_ble_eq_true rfl) (fun X hX hret => ?_)
  show vV G X 0 0 0 [(0, .ref (ad 1)), (1, .int (iv (((rows : Nat) : Int))))] [] (ov f0 ad 400 σ)
  obtain ⟨a1, a2, a3, a4, a5, a6, a7, a8, a9⟩ := id hT
  obtain ⟨b1, b2, b3, b4, b5, b6⟩ := id hB
  have p0 := pop_le 24 (rows &&& rC 0)
  have p1 := pop_le 24 (rows &&& rC 1)
  have p2 := pop_le 24 (rows &&& rC 2)
  have q0 := Nat.mul_le_mul p0 p0
  have q1 := Nat.mul_le_mul p1 p1
  have q2 := Nat.mul_le_mul p2 p2
  refine v_iconst hX (0) d_Tab_squaresOf_0 ?_
  refine v_istore_n (lv' := [(2, .int (iv (0))), (0, .ref (ad 1)), (1, .int (iv (((rows : Nat) : Int))))]) hX d_Tab_squaresOf_1 rfl (by decide) rfl ?_
  refine v_iconst hX (0) d_Tab_squaresOf_2 ?_
  refine v_istore_n (lv' := [(3, .int (iv (0))), (2, .int (iv (0))), (0, .ref (ad 1)), (1, .int (iv (((rows : Nat) : Int))))]) hX d_Tab_squaresOf_3 rfl (by decide) rfl ?_
  refine v_iload_n hX d_Tab_squaresOf_4 0 rfl ?_
  refine v_iconst hX (3) d_Tab_squaresOf_5 ?_
  refine v_icmp_ge (tgt := 36) hX d_Tab_squaresOf_6 (by decide) (by unfold ir; omega) (by unfold ir; omega) (fun c9 => absurd c9 (by omega)) (fun c9 => ?_)
  refine v_iload_n hX d_Tab_squaresOf_9 3 rfl ?_
  refine v_aload_n hX d_Tab_squaresOf_10 2 rfl ?_
  refine g_get hX hj fl_Tab_27 d_Tab_squaresOf_11 (by omega) a1 rfl ?_
  refine v_iload_n hX d_Tab_squaresOf_14 0 rfl ?_
  refine g_iald hX hj d_Tab_squaresOf_15 (by omega) a5 (by decide) (0) rfl (by omega) ?_
  refine v_iand (z := (((rows &&& (rC 0)) : Nat) : Int)) hX d_Tab_squaresOf_16 (iv_and (rows) ((rC 0))) ?_
  refine g_callSI (As := [.int (iv ((((rows &&& (rC 0)) : Nat) : Int)))]) (st := []) hX (k0_Int_bitCount (rows &&& (rC 0)) (Nat.lt_of_le_of_lt Nat.and_le_left (by omega))) cl_Tab_72 d_Tab_squaresOf_17 rfl ⟨by decide, by decide⟩ ⟨by decide, by decide⟩ (Nat.le_of_ble_eq_true rfl) (fun z1 hz2 hp3 => ?_)
  subst hp3
  refine v_istore (lv' := [(4, .int (iv ((((pop 24 (rows &&& (rC 0))) : Nat) : Int)))), (3, .int (iv (0))), (2, .int (iv (0))), (0, .ref (ad 1)), (1, .int (iv (((rows : Nat) : Int))))]) hX d_Tab_squaresOf_20 (by decide) rfl ?_
  refine v_iload_n hX d_Tab_squaresOf_22 2 rfl ?_
  refine v_iload hX d_Tab_squaresOf_23 0 rfl ?_
  refine v_iload hX d_Tab_squaresOf_25 0 rfl ?_
  refine v_imulN (a := (pop 24 (rows &&& (rC 0)))) (b := (pop 24 (rows &&& (rC 0)))) hX d_Tab_squaresOf_27 ?_
  refine v_iaddN (a := 0) (b := ((pop 24 (rows &&& (rC 0))) * (pop 24 (rows &&& (rC 0))))) hX d_Tab_squaresOf_28 ?_
  refine v_istore_n (lv' := [(2, .int (iv ((((0 + ((pop 24 (rows &&& (rC 0))) * (pop 24 (rows &&& (rC 0))))) : Nat) : Int)))), (4, .int (iv ((((pop 24 (rows &&& (rC 0))) : Nat) : Int)))), (3, .int (iv (0))), (0, .ref (ad 1)), (1, .int (iv (((rows : Nat) : Int))))]) hX d_Tab_squaresOf_29 rfl (by decide) rfl ?_
  refine v_iincN (a := 0) (n := 1) (lv' := [(3, .int (iv (1))), (2, .int (iv ((((0 + ((pop 24 (rows &&& (rC 0))) * (pop 24 (rows &&& (rC 0))))) : Nat) : Int)))), (4, .int (iv ((((pop 24 (rows &&& (rC 0))) : Nat) : Int)))), (0, .ref (ad 1)), (1, .int (iv (((rows : Nat) : Int))))]) hX d_Tab_squaresOf_30 rfl 2 rfl (by decide) rfl ?_
  refine v_goto (tgt := 4) hX d_Tab_squaresOf_33 (by decide) ?_
  refine v_iload_n hX d_Tab_squaresOf_4 0 rfl ?_
  refine v_iconst hX (3) d_Tab_squaresOf_5 ?_
  refine v_icmp_ge (tgt := 36) hX d_Tab_squaresOf_6 (by decide) (by unfold ir; omega) (by unfold ir; omega) (fun c9 => absurd c9 (by omega)) (fun c9 => ?_)
  refine v_iload_n hX d_Tab_squaresOf_9 4 rfl ?_
  refine v_aload_n hX d_Tab_squaresOf_10 3 rfl ?_
  refine g_get hX hj fl_Tab_27 d_Tab_squaresOf_11 (by omega) a1 rfl ?_
  refine v_iload_n hX d_Tab_squaresOf_14 0 rfl ?_
  refine g_iald hX hj d_Tab_squaresOf_15 (by omega) a5 (by decide) (1) rfl (by omega) ?_
  refine v_iand (z := (((rows &&& (rC 1)) : Nat) : Int)) hX d_Tab_squaresOf_16 (iv_and (rows) ((rC 1))) ?_
  refine g_callSI (As := [.int (iv ((((rows &&& (rC 1)) : Nat) : Int)))]) (st := []) hX (k0_Int_bitCount (rows &&& (rC 1)) (Nat.lt_of_le_of_lt Nat.and_le_left (by omega))) cl_Tab_72 d_Tab_squaresOf_17 rfl ⟨by decide, by decide⟩ ⟨by decide, by decide⟩ (Nat.le_of_ble_eq_true rfl) (fun z4 hz5 hp6 => ?_)
  subst hp6
  refine v_istore (lv' := [(4, .int (iv ((((pop 24 (rows &&& (rC 1))) : Nat) : Int)))), (3, .int (iv (1))), (2, .int (iv ((((0 + ((pop 24 (rows &&& (rC 0))) * (pop 24 (rows &&& (rC 0))))) : Nat) : Int)))), (0, .ref (ad 1)), (1, .int (iv (((rows : Nat) : Int))))]) hX d_Tab_squaresOf_20 (by decide) rfl ?_
  refine v_iload_n hX d_Tab_squaresOf_22 2 rfl ?_
  refine v_iload hX d_Tab_squaresOf_23 0 rfl ?_
  refine v_iload hX d_Tab_squaresOf_25 0 rfl ?_
  refine v_imulN (a := (pop 24 (rows &&& (rC 1)))) (b := (pop 24 (rows &&& (rC 1)))) hX d_Tab_squaresOf_27 ?_
  refine v_iaddN (a := (0 + ((pop 24 (rows &&& (rC 0))) * (pop 24 (rows &&& (rC 0)))))) (b := ((pop 24 (rows &&& (rC 1))) * (pop 24 (rows &&& (rC 1))))) hX d_Tab_squaresOf_28 ?_
  refine v_istore_n (lv' := [(2, .int (iv (((((0 + ((pop 24 (rows &&& (rC 0))) * (pop 24 (rows &&& (rC 0))))) + ((pop 24 (rows &&& (rC 1))) * (pop 24 (rows &&& (rC 1))))) : Nat) : Int)))), (4, .int (iv ((((pop 24 (rows &&& (rC 1))) : Nat) : Int)))), (3, .int (iv (1))), (0, .ref (ad 1)), (1, .int (iv (((rows : Nat) : Int))))]) hX d_Tab_squaresOf_29 rfl (by decide) rfl ?_
  refine v_iincN (a := 1) (n := 1) (lv' := [(3, .int (iv (2))), (2, .int (iv (((((0 + ((pop 24 (rows &&& (rC 0))) * (pop 24 (rows &&& (rC 0))))) + ((pop 24 (rows &&& (rC 1))) * (pop 24 (rows &&& (rC 1))))) : Nat) : Int)))), (4, .int (iv ((((pop 24 (rows &&& (rC 1))) : Nat) : Int)))), (0, .ref (ad 1)), (1, .int (iv (((rows : Nat) : Int))))]) hX d_Tab_squaresOf_30 rfl 2 rfl (by decide) rfl ?_
  refine v_goto (tgt := 4) hX d_Tab_squaresOf_33 (by decide) ?_
  refine v_iload_n hX d_Tab_squaresOf_4 0 rfl ?_
  refine v_iconst hX (3) d_Tab_squaresOf_5 ?_
  refine v_icmp_ge (tgt := 36) hX d_Tab_squaresOf_6 (by decide) (by unfold ir; omega) (by unfold ir; omega) (fun c9 => absurd c9 (by omega)) (fun c9 => ?_)
  refine v_iload_n hX d_Tab_squaresOf_9 4 rfl ?_
  refine v_aload_n hX d_Tab_squaresOf_10 3 rfl ?_
  refine g_get hX hj fl_Tab_27 d_Tab_squaresOf_11 (by omega) a1 rfl ?_
  refine v_iload_n hX d_Tab_squaresOf_14 0 rfl ?_
  refine g_iald hX hj d_Tab_squaresOf_15 (by omega) a5 (by decide) (2) rfl (by omega) ?_
  refine v_iand (z := (((rows &&& (rC 2)) : Nat) : Int)) hX d_Tab_squaresOf_16 (iv_and (rows) ((rC 2))) ?_
  refine g_callSI (As := [.int (iv ((((rows &&& (rC 2)) : Nat) : Int)))]) (st := []) hX (k0_Int_bitCount (rows &&& (rC 2)) (Nat.lt_of_le_of_lt Nat.and_le_left (by omega))) cl_Tab_72 d_Tab_squaresOf_17 rfl ⟨by decide, by decide⟩ ⟨by decide, by decide⟩ (Nat.le_of_ble_eq_true rfl) (fun z7 hz8 hp9 => ?_)
  subst hp9
  refine v_istore (lv' := [(4, .int (iv ((((pop 24 (rows &&& (rC 2))) : Nat) : Int)))), (3, .int (iv (2))), (2, .int (iv (((((0 + ((pop 24 (rows &&& (rC 0))) * (pop 24 (rows &&& (rC 0))))) + ((pop 24 (rows &&& (rC 1))) * (pop 24 (rows &&& (rC 1))))) : Nat) : Int)))), (0, .ref (ad 1)), (1, .int (iv (((rows : Nat) : Int))))]) hX d_Tab_squaresOf_20 (by decide) rfl ?_
  refine v_iload_n hX d_Tab_squaresOf_22 2 rfl ?_
  refine v_iload hX d_Tab_squaresOf_23 0 rfl ?_
  refine v_iload hX d_Tab_squaresOf_25 0 rfl ?_
  refine v_imulN (a := (pop 24 (rows &&& (rC 2)))) (b := (pop 24 (rows &&& (rC 2)))) hX d_Tab_squaresOf_27 ?_
  refine v_iaddN (a := ((0 + ((pop 24 (rows &&& (rC 0))) * (pop 24 (rows &&& (rC 0))))) + ((pop 24 (rows &&& (rC 1))) * (pop 24 (rows &&& (rC 1)))))) (b := ((pop 24 (rows &&& (rC 2))) * (pop 24 (rows &&& (rC 2))))) hX d_Tab_squaresOf_28 ?_
  refine v_istore_n (lv' := [(2, .int (iv ((((((0 + ((pop 24 (rows &&& (rC 0))) * (pop 24 (rows &&& (rC 0))))) + ((pop 24 (rows &&& (rC 1))) * (pop 24 (rows &&& (rC 1))))) + ((pop 24 (rows &&& (rC 2))) * (pop 24 (rows &&& (rC 2))))) : Nat) : Int)))), (4, .int (iv ((((pop 24 (rows &&& (rC 2))) : Nat) : Int)))), (3, .int (iv (2))), (0, .ref (ad 1)), (1, .int (iv (((rows : Nat) : Int))))]) hX d_Tab_squaresOf_29 rfl (by decide) rfl ?_
  refine v_iincN (a := 2) (n := 1) (lv' := [(3, .int (iv (3))), (2, .int (iv ((((((0 + ((pop 24 (rows &&& (rC 0))) * (pop 24 (rows &&& (rC 0))))) + ((pop 24 (rows &&& (rC 1))) * (pop 24 (rows &&& (rC 1))))) + ((pop 24 (rows &&& (rC 2))) * (pop 24 (rows &&& (rC 2))))) : Nat) : Int)))), (4, .int (iv ((((pop 24 (rows &&& (rC 2))) : Nat) : Int)))), (0, .ref (ad 1)), (1, .int (iv (((rows : Nat) : Int))))]) hX d_Tab_squaresOf_30 rfl 2 rfl (by decide) rfl ?_
  refine v_goto (tgt := 4) hX d_Tab_squaresOf_33 (by decide) ?_
  refine v_iload_n hX d_Tab_squaresOf_4 0 rfl ?_
  refine v_iconst hX (3) d_Tab_squaresOf_5 ?_
  refine v_icmp_ge (tgt := 36) hX d_Tab_squaresOf_6 (by decide) (by unfold ir; omega) (by unfold ir; omega) (fun c9 => ?_) (fun c9 => absurd c9 (by omega))
  refine v_iload_n hX d_Tab_squaresOf_36 1 rfl ?_
  exact hret _ _ _ _ d_Tab_squaresOf_37 (ir_n (by omega)) ⟨_, rfl, rfl, (by simp only [kSq, kCnt, Nat.zero_add])⟩ rfl

set_option maxHeartbeats 1000000 in
set_option maxRecDepth 100000 in
theorem m_Tab_unknownOf {G : xG} {f0 : xF} {ad : Nat → Nat} (hj : adOk ad 400) {σ : xF} {n : Nat} {val : Nat → Nat → Int} {cl so rC rK : Nat → Nat} {rL : Nat → Nat → Nat} (hT : pTab G ad σ n val cl so rC rK rL) (hB : bTab n cl so rC rK rL) (rows c : Nat) (hR : rows < 16777216) (hc : c < 4) : ∀ l, gI l G f0 ad 400 y_Tab_unknownOf (.code y_Tab_unknownOf c_Tab_unknownOf 3 (some (.int))) rm_Tab_unknownOf [.ref (ad 1), .int (iv (((rows : Nat) : Int))), .int (iv (((c : Nat) : Int)))] σ (fun z σ' => σ' = σ ∧ z = ((nd rows (rK c) : Nat) : Int)) := by
  intro l
  refine mI_of (rt := .int) (by decide) (Nat.le_of_ble_eq_true rfl) (fun X hX hret => ?_)
  show vV G X 0 0 0 [(0, .ref (ad 1)), (1, .int (iv (((rows : Nat) : Int)))), (2, .int (iv (((c : Nat) : Int))))] [] (ov f0 ad 400 σ)
  obtain ⟨a1, a2, a3, a4, a5, a6, a7, a8, a9⟩ := id hT
  obtain ⟨b1, b2, b3, b4, b5, b6⟩ := id hB
  refine v_iload_n hX d_Tab_unknownOf_0 2 rfl ?_
  refine g_callSI (As := [.int (iv (((c : Nat) : Int)))]) (st := []) hX (k0_Bs_isColumn (((c : Nat) : Int)) (by first | assumption | (unfold ir at *; omega))) cl_Tab_36 d_Tab_unknownOf_1 rfl ⟨by decide, by decide⟩ ⟨by decide, by decide⟩ (Nat.le_of_ble_eq_true rfl) (fun z1 hz2 hp3 => ?_)
  have z1e : z1 = 1 := hp3.trans (if_pos (by omega))
  subst z1e
  refine v_if_eq (tgt := 20) hX d_Tab_unknownOf_4 (by decide) (by first | assumption | (unfold ir at *; omega)) (fun c9 => absurd c9 (by omega)) (fun c9 => ?_)
  refine v_iload_n hX d_Tab_unknownOf_7 1 rfl ?_
  refine v_aload_n hX d_Tab_unknownOf_8 0 rfl ?_
  refine g_get hX hj fl_Tab_30 d_Tab_unknownOf_9 (by omega) a1 rfl ?_
  refine v_iload_n hX d_Tab_unknownOf_12 2 rfl ?_
  refine g_iald hX hj d_Tab_unknownOf_13 (by omega) a6 (by decide) (c) rfl (by omega) ?_
  refine v_iconst hX (-1) d_Tab_unknownOf_14 ?_
  refine v_ixor (z := (-1 - (((rK c) : Nat) : Int))) hX d_Tab_unknownOf_15 (iv_not ((rK c))) ?_
  refine v_iand (z := (((nd rows (rK c)) : Nat) : Int)) hX d_Tab_unknownOf_16 (iv_andnot (rows) ((rK c))) ?_
  refine v_goto (tgt := 21) hX d_Tab_unknownOf_17 (by decide) ?_
  exact hret _ _ _ _ d_Tab_unknownOf_21 (ir_n (Nat.lt_of_le_of_lt (nd_le _ _) (by omega))) ⟨_, rfl, rfl, rfl⟩ rfl
