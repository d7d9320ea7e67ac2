/-! THE TABLE, read; by program -/
set_option maxHeartbeats 1000000 in
set_option maxRecDepth 100000 in
theorem m_Tab_has {G : xG} {f0 : xF} {ad : Nat → Nat} (hj : adOk ad 400) {σ : xF} {n : Nat} {val : Nat → Nat → Int} {cl so rC rK : Nat → Nat} {rL : Nat → Nat → Nat} (hT : pTab G ad σ n val cl so rC rK rL) (hB : bTab n cl so rC rK rL) (r : Int) (hr : ir r) : ∀ l, gI l G f0 ad 400 y_Tab_has (.code y_Tab_has c_Tab_has 2 (some (.boolean))) rm_Tab_has [.ref (ad 1), .int (iv (r))] σ (fun z σ' => σ' = σ ∧ z = pI (0 ≤ r ∧ r < n)) := by
  intro l
  refine mI_of (rt := .boolean) (by decide) (Nat.le_of_ble_eq_true rfl) (fun X hX hret => ?_)
  show vV G X 0 0 0 [(0, .ref (ad 1)), (1, .int (iv (r)))] [] (ov f0 ad 400 σ)
  obtain ⟨a1, a2, a3, a4, a5, a6, a7, a8, a9⟩ := id hT
  obtain ⟨b1, b2, b3, b4, b5, b6⟩ := id hB
  refine v_iload_n hX d_Tab_has_0 1 rfl ?_
  refine v_if_lt (tgt := 22) hX d_Tab_has_1 (by decide) (by first | assumption | (unfold ir at *; omega)) (fun c1_1 => ?_) (fun c1_1 => ?_)
  · refine v_iconst hX (0) d_Tab_has_22 ?_
    exact hret _ _ _ _ d_Tab_has_23 (by first | assumption | (unfold ir at *; omega)) ⟨_, rfl, rfl, (pI_f (by omega))⟩ rfl
  · refine v_iload_n hX d_Tab_has_4 1 rfl ?_
    refine v_aload_n hX d_Tab_has_5 0 rfl ?_
    refine g_get (i := 1) hX hj fl_Tab_20 d_Tab_has_6 (by omega) a1 rfl ?_
    refine v_icmp_ge (tgt := 22) hX d_Tab_has_9 (by decide) (by first | assumption | (unfold ir at *; omega)) (by first | assumption | (unfold ir at *; omega)) (fun c9_2 => ?_) (fun c9_2 => ?_)
    · refine v_iconst hX (0) d_Tab_has_22 ?_
      exact hret _ _ _ _ d_Tab_has_23 (by first | assumption | (unfold ir at *; omega)) ⟨_, rfl, rfl, (pI_f (by omega))⟩ rfl
    · refine v_iload_n hX d_Tab_has_12 1 rfl ?_
      refine v_bipush hX (24) d_Tab_has_13 rfl ?_
      refine v_icmp_ge (tgt := 22) hX d_Tab_has_15 (by decide) (by first | assumption | (unfold ir at *; omega)) (by first | assumption | (unfold ir at *; omega)) (fun c15_3 => ?_) (fun c15_3 => ?_)
      · refine v_iconst hX (0) d_Tab_has_22 ?_
        exact hret _ _ _ _ d_Tab_has_23 (by first | assumption | (unfold ir at *; omega)) ⟨_, rfl, rfl, (pI_f (by omega))⟩ rfl
      · refine v_iconst hX (1) d_Tab_has_18 ?_
        refine v_goto (tgt := 23) hX d_Tab_has_19 (by decide) ?_
        exact hret _ _ _ _ d_Tab_has_23 (by first | assumption | (unfold ir at *; omega)) ⟨_, rfl, rfl, (pI_t (by omega))⟩ rfl

set_option maxHeartbeats 1000000 in
set_option maxRecDepth 100000 in
theorem m_Tab_allRows {G : xG} {f0 : xF} {ad : Nat → Nat} (hj : adOk ad 400) {σ : xF} {n : Nat} {val : Nat → Nat → Int} {cl so rC rK : Nat → Nat} {rL : Nat → Nat → Nat} (hT : pTab G ad σ n val cl so rC rK rL) (hB : bTab n cl so rC rK rL)  : ∀ l, gI l G f0 ad 400 y_Tab_allRows (.code y_Tab_allRows c_Tab_allRows 1 (some (.int))) rm_Tab_allRows [.ref (ad 1)] σ (fun z σ' => σ' = σ ∧ z = ((2 ^ n - 1 : Nat) : Int)) := by
  intro l
  refine mI_of (rt := .int) (by decide) (Nat.le_of_ble_eq_true rfl) (fun X hX hret => ?_)
  show vV G X 0 0 0 [(0, .ref (ad 1))] [] (ov f0 ad 400 σ)
  obtain ⟨a1, a2, a3, a4, a5, a6, a7, a8, a9⟩ := id hT
  obtain ⟨b1, b2, b3, b4, b5, b6⟩ := id hB
  refine v_iconst hX (1) d_Tab_allRows_0 ?_
  refine v_aload_n hX d_Tab_allRows_1 0 rfl ?_
  refine g_get (i := 1) hX hj fl_Tab_20 d_Tab_allRows_2 (by omega) a1 rfl ?_
  refine v_ishl (z := (((2 ^ n) : Nat) : Int)) hX d_Tab_allRows_5 (iv_shl1 (n) (by omega)) ?_
  refine v_iconst hX (1) d_Tab_allRows_6 ?_
  refine v_isub hX d_Tab_allRows_7 ?_
  have h2 : 0 < 2 ^ n := Nat.two_pow_pos n
  have h3 : 2 ^ n ≤ 2 ^ 24 := Nat.pow_le_pow_right (by decide) b1
  exact hret _ _ _ _ d_Tab_allRows_8 (by unfold ir; omega) ⟨_, rfl, rfl, by omega⟩ rfl

set_option maxHeartbeats 1000000 in
set_option maxRecDepth 100000 in
theorem m_Tab_lastNumber {G : xG} {f0 : xF} {ad : Nat → Nat} (hj : adOk ad 400) {σ : xF} {n : Nat} {val : Nat → Nat → Int} {cl so rC rK : Nat → Nat} {rL : Nat → Nat → Nat} (hT : pTab G ad σ n val cl so rC rK rL) (hB : bTab n cl so rC rK rL) (c : Nat) (hc : c < 4) : ∀ l, gI l G f0 ad 400 y_Tab_lastNumber (.code y_Tab_lastNumber c_Tab_lastNumber 2 (some (.int))) rm_Tab_lastNumber [.ref (ad 1), .int (iv (((c : Nat) : Int)))] σ (fun z σ' => σ' = σ ∧ z = (if so c = 1 then 63 else 100)) := by
  intro l
  refine mI_of (rt := .int) (by decide) (Nat.le_of_ble_eq_true rfl) (fun X hX hret => ?_)
  show vV G X 0 0 0 [(0, .ref (ad 1)), (1, .int (iv (((c : Nat) : Int))))] [] (ov f0 ad 400 σ)
  obtain ⟨a1, a2, a3, a4, a5, a6, a7, a8, a9⟩ := id hT
  obtain ⟨b1, b2, b3, b4, b5, b6⟩ := id hB
  refine v_iload_n hX d_Tab_lastNumber_0 1 rfl ?_
  refine g_callSI (As := [.int (iv (((c : Nat) : Int)))]) (st := []) hX (k0_Bs_isColumn (((c : Nat) : Int)) (by first | assumption | (unfold ir at *; omega))) cl_Tab_36 d_Tab_lastNumber_1 rfl ⟨by decide, by decide⟩ ⟨by decide, by decide⟩ (Nat.le_of_ble_eq_true rfl) (fun z1 hz2 hp3 => ?_)
  have z1e : z1 = 1 := hp3.trans (if_pos (by omega))
  subst z1e
  refine v_if_eq (tgt := 22) hX d_Tab_lastNumber_4 (by decide) (by have := b3 c; unfold ir; omega) (fun c9 => absurd c9 (by omega)) (fun c9 => ?_)
  refine v_aload_n hX d_Tab_lastNumber_7 0 rfl ?_
  refine g_get (i := 1) hX hj fl_Tab_24 d_Tab_lastNumber_8 (by omega) a1 rfl ?_
  refine v_iload_n hX d_Tab_lastNumber_11 1 rfl ?_
  refine g_iald (i := 14) hX hj d_Tab_lastNumber_12 (by omega) a4 (by decide) (c) rfl (by omega) ?_
  refine v_iconst hX (1) d_Tab_lastNumber_13 ?_
  refine v_icmp_ne (tgt := 22) hX d_Tab_lastNumber_14 (by decide) (by have := b3 c; unfold ir; omega) (by have := b3 c; unfold ir; omega) (fun c14_2 => ?_) (fun c14_2 => ?_)
  · refine v_bipush hX (100) d_Tab_lastNumber_22 rfl ?_
    exact hret _ _ _ _ d_Tab_lastNumber_24 (by have := b3 c; unfold ir; omega) ⟨_, rfl, rfl, (by first | (rw [if_pos (by omega)]; done) | (rw [if_neg (by omega)]; done))⟩ rfl
  · refine v_bipush hX (63) d_Tab_lastNumber_17 rfl ?_
    refine v_goto (tgt := 24) hX d_Tab_lastNumber_19 (by decide) ?_
    exact hret _ _ _ _ d_Tab_lastNumber_24 (by have := b3 c; unfold ir; omega) ⟨_, rfl, rfl, (by first | (rw [if_pos (by omega)]; done) | (rw [if_neg (by omega)]; done))⟩ rfl

set_option maxHeartbeats 1000000 in
set_option maxRecDepth 100000 in
theorem m_Tab_countOf {G : xG} {f0 : xF} {ad : Nat → Nat} (hj : adOk ad 400) {σ : xF} {n : Nat} {val : Nat → Nat → Int} {cl so rC rK : Nat → Nat} {rL : Nat → Nat → Nat} (hT : pTab G ad σ n val cl so rC rK rL) (hB : bTab n cl so rC rK rL) (rows k : Nat) (hR : rows < 16777216) (hk : k < 3) : ∀ l, gI l G f0 ad 400 y_Tab_countOf (.code y_Tab_countOf c_Tab_countOf 3 (some (.int))) rm_Tab_countOf [.ref (ad 1), .int (iv (((rows : Nat) : Int))), .int (iv (((k : Nat) : Int)))] σ (fun z σ' => σ' = σ ∧ z = ((kCnt rC rows k : Nat) : Int)) := by
  intro l
  refine mI_of (rt := .int) (by decide) (Nat.le_of_ble_eq_true rfl) (fun X hX hret => ?_)
  show vV G X 0 0 0 [(0, .ref (ad 1)), (1, .int (iv (((rows : Nat) : Int)))), (2, .int (iv (((k : Nat) : Int))))] [] (ov f0 ad 400 σ)
  obtain ⟨a1, a2, a3, a4, a5, a6, a7, a8, a9⟩ := id hT
  obtain ⟨b1, b2, b3, b4, b5, b6⟩ := id hB
  refine v_iload_n hX d_Tab_countOf_0 2 rfl ?_
  refine g_callSI (As := [.int (iv (((k : Nat) : Int)))]) (st := []) hX (k0_Bs_isClass (((k : Nat) : Int)) (by first | assumption | (unfold ir at *; omega))) cl_Tab_40 d_Tab_countOf_1 rfl ⟨by decide, by decide⟩ ⟨by decide, by decide⟩ (Nat.le_of_ble_eq_true rfl) (fun z1 hz2 hp3 => ?_)
  have z1e : z1 = 1 := hp3.trans (if_pos (by omega))
  subst z1e
  refine v_if_eq (tgt := 21) hX d_Tab_countOf_4 (by decide) (by have := cnt_le (rows &&& rC k); unfold ir; omega) (fun c9 => absurd c9 (by omega)) (fun c9 => ?_)
  refine v_iload_n hX d_Tab_countOf_7 1 rfl ?_
  refine v_aload_n hX d_Tab_countOf_8 0 rfl ?_
  refine g_get (i := 1) hX hj fl_Tab_27 d_Tab_countOf_9 (by omega) a1 rfl ?_
  refine v_iload_n hX d_Tab_countOf_12 2 rfl ?_
  refine g_iald (i := 15) hX hj d_Tab_countOf_13 (by omega) a5 (by decide) (k) rfl (by omega) ?_
  refine v_iand (z := (((rows &&& (rC k)) : Nat) : Int)) hX d_Tab_countOf_14 (iv_and (rows) ((rC k))) ?_
  refine g_callSI (As := [.int (iv ((((rows &&& (rC k)) : Nat) : Int)))]) (st := []) hX (k0_Int_bitCount (rows &&& (rC k)) (Nat.lt_of_le_of_lt Nat.and_le_left (by omega))) cl_Tab_72 d_Tab_countOf_15 rfl ⟨by decide, by decide⟩ ⟨by decide, by decide⟩ (Nat.le_of_ble_eq_true rfl) (fun z4 hz5 hp6 => ?_)
  subst hp6
  refine v_goto (tgt := 22) hX d_Tab_countOf_18 (by decide) ?_
  exact hret _ _ _ _ d_Tab_countOf_22 (by have := cnt_le (rows &&& rC k); unfold ir; omega) ⟨_, rfl, rfl, rfl⟩ rfl

set_option maxHeartbeats 1000000 in
set_option maxRecDepth 100000 in
theorem m_Tab_squaresOf {G : xG} {f0 : xF} {ad : Nat → Nat} (hj : adOk ad 400) {σ : xF} {n : Nat} {val : Nat → Nat → Int} {cl so rC rK : Nat → Nat} {rL : Nat → Nat → Nat} (hT : pTab G ad σ n val cl so rC rK rL) (hB : bTab n cl so rC rK rL) (rows : Nat) (hR : rows < 16777216) : ∀ l, gI l G f0 ad 400 y_Tab_squaresOf (.code y_Tab_squaresOf c_Tab_squaresOf 5 (some (.int))) rm_Tab_squaresOf [.ref (ad 1), .int (iv (((rows : Nat) : Int)))] σ (fun z σ' => σ' = σ ∧ z = ((kSq rC rows : Nat) : Int)) := by
  intro l
  refine mI_of (rt := .int) (by decide) (Nat.le_of_ble_eq_true rfl) (fun X hX hret => ?_)
  show vV G X 0 0 0 [(0, .ref (ad 1)), (1, .int (iv (((rows : Nat) : Int))))] [] (ov f0 ad 400 σ)
  obtain ⟨a1, a2, a3, a4, a5, a6, a7, a8, a9⟩ := id hT
  obtain ⟨b1, b2, b3, b4, b5, b6⟩ := id hB
  have p0 := cnt_le (rows &&& rC 0)
  have p1 := cnt_le (rows &&& rC 1)
  have p2 := cnt_le (rows &&& rC 2)
  have q0 := Nat.mul_le_mul p0 p0
  have q1 := Nat.mul_le_mul p1 p1
  have q2 := Nat.mul_le_mul p2 p2
  refine v_iconst hX (0) d_Tab_squaresOf_0 ?_
  refine v_istore_n (lv' := [(2, .int (iv (0))), (0, .ref (ad 1)), (1, .int (iv (((rows : Nat) : Int))))]) hX d_Tab_squaresOf_1 rfl (by decide) rfl ?_
  refine v_iconst hX (0) d_Tab_squaresOf_2 ?_
  refine v_istore_n (lv' := [(3, .int (iv (0))), (2, .int (iv (0))), (0, .ref (ad 1)), (1, .int (iv (((rows : Nat) : Int))))]) hX d_Tab_squaresOf_3 rfl (by decide) rfl ?_
  refine v_iload_n hX d_Tab_squaresOf_4 0 rfl ?_
  refine v_iconst hX (3) d_Tab_squaresOf_5 ?_
  refine v_icmp_ge (tgt := 36) hX d_Tab_squaresOf_6 (by decide) (by unfold ir; omega) (by unfold ir; omega) (fun c9 => absurd c9 (by omega)) (fun c9 => ?_)
  refine v_iload_n hX d_Tab_squaresOf_9 3 rfl ?_
  refine v_aload_n hX d_Tab_squaresOf_10 2 rfl ?_
  refine g_get (i := 1) hX hj fl_Tab_27 d_Tab_squaresOf_11 (by omega) a1 rfl ?_
  refine v_iload_n hX d_Tab_squaresOf_14 0 rfl ?_
  refine g_iald (i := 15) hX hj d_Tab_squaresOf_15 (by omega) a5 (by decide) (0) rfl (by omega) ?_
  refine v_iand (z := (((rows &&& (rC 0)) : Nat) : Int)) hX d_Tab_squaresOf_16 (iv_and (rows) ((rC 0))) ?_
  refine g_callSI (As := [.int (iv ((((rows &&& (rC 0)) : Nat) : Int)))]) (st := []) hX (k0_Int_bitCount (rows &&& (rC 0)) (Nat.lt_of_le_of_lt Nat.and_le_left (by omega))) cl_Tab_72 d_Tab_squaresOf_17 rfl ⟨by decide, by decide⟩ ⟨by decide, by decide⟩ (Nat.le_of_ble_eq_true rfl) (fun z1 hz2 hp3 => ?_)
  subst hp3
  refine v_istore (lv' := [(4, .int (iv ((((cnt (rows &&& (rC 0))) : Nat) : Int)))), (3, .int (iv (0))), (2, .int (iv (0))), (0, .ref (ad 1)), (1, .int (iv (((rows : Nat) : Int))))]) hX d_Tab_squaresOf_20 (by decide) rfl ?_
  refine v_iload_n hX d_Tab_squaresOf_22 2 rfl ?_
  refine v_iload hX d_Tab_squaresOf_23 0 rfl ?_
  refine v_iload hX d_Tab_squaresOf_25 0 rfl ?_
  refine v_imulN (a := (cnt (rows &&& (rC 0)))) (b := (cnt (rows &&& (rC 0)))) hX d_Tab_squaresOf_27 ?_
  refine v_iaddN (a := 0) (b := ((cnt (rows &&& (rC 0))) * (cnt (rows &&& (rC 0))))) hX d_Tab_squaresOf_28 ?_
  refine v_istore_n (lv' := [(2, .int (iv ((((0 + ((cnt (rows &&& (rC 0))) * (cnt (rows &&& (rC 0))))) : Nat) : Int)))), (4, .int (iv ((((cnt (rows &&& (rC 0))) : Nat) : Int)))), (3, .int (iv (0))), (0, .ref (ad 1)), (1, .int (iv (((rows : Nat) : Int))))]) hX d_Tab_squaresOf_29 rfl (by decide) rfl ?_
  refine v_iincN (a := 0) (n := 1) (lv' := [(3, .int (iv (1))), (2, .int (iv ((((0 + ((cnt (rows &&& (rC 0))) * (cnt (rows &&& (rC 0))))) : Nat) : Int)))), (4, .int (iv ((((cnt (rows &&& (rC 0))) : Nat) : Int)))), (0, .ref (ad 1)), (1, .int (iv (((rows : Nat) : Int))))]) hX d_Tab_squaresOf_30 rfl 2 rfl (by decide) rfl ?_
  refine v_goto (tgt := 4) hX d_Tab_squaresOf_33 (by decide) ?_
  refine v_iload_n hX d_Tab_squaresOf_4 0 rfl ?_
  refine v_iconst hX (3) d_Tab_squaresOf_5 ?_
  refine v_icmp_ge (tgt := 36) hX d_Tab_squaresOf_6 (by decide) (by unfold ir; omega) (by unfold ir; omega) (fun c9 => absurd c9 (by omega)) (fun c9 => ?_)
  refine v_iload_n hX d_Tab_squaresOf_9 4 rfl ?_
  refine v_aload_n hX d_Tab_squaresOf_10 3 rfl ?_
  refine g_get (i := 1) hX hj fl_Tab_27 d_Tab_squaresOf_11 (by omega) a1 rfl ?_
  refine v_iload_n hX d_Tab_squaresOf_14 0 rfl ?_
  refine g_iald (i := 15) hX hj d_Tab_squaresOf_15 (by omega) a5 (by decide) (1) rfl (by omega) ?_
  refine v_iand (z := (((rows &&& (rC 1)) : Nat) : Int)) hX d_Tab_squaresOf_16 (iv_and (rows) ((rC 1))) ?_
  refine g_callSI (As := [.int (iv ((((rows &&& (rC 1)) : Nat) : Int)))]) (st := []) hX (k0_Int_bitCount (rows &&& (rC 1)) (Nat.lt_of_le_of_lt Nat.and_le_left (by omega))) cl_Tab_72 d_Tab_squaresOf_17 rfl ⟨by decide, by decide⟩ ⟨by decide, by decide⟩ (Nat.le_of_ble_eq_true rfl) (fun z4 hz5 hp6 => ?_)
  subst hp6
  refine v_istore (lv' := [(4, .int (iv ((((cnt (rows &&& (rC 1))) : Nat) : Int)))), (3, .int (iv (1))), (2, .int (iv ((((0 + ((cnt (rows &&& (rC 0))) * (cnt (rows &&& (rC 0))))) : Nat) : Int)))), (0, .ref (ad 1)), (1, .int (iv (((rows : Nat) : Int))))]) hX d_Tab_squaresOf_20 (by decide) rfl ?_
  refine v_iload_n hX d_Tab_squaresOf_22 2 rfl ?_
  refine v_iload hX d_Tab_squaresOf_23 0 rfl ?_
  refine v_iload hX d_Tab_squaresOf_25 0 rfl ?_
  refine v_imulN (a := (cnt (rows &&& (rC 1)))) (b := (cnt (rows &&& (rC 1)))) hX d_Tab_squaresOf_27 ?_
  refine v_iaddN (a := (0 + ((cnt (rows &&& (rC 0))) * (cnt (rows &&& (rC 0)))))) (b := ((cnt (rows &&& (rC 1))) * (cnt (rows &&& (rC 1))))) hX d_Tab_squaresOf_28 ?_
  refine v_istore_n (lv' := [(2, .int (iv (((((0 + ((cnt (rows &&& (rC 0))) * (cnt (rows &&& (rC 0))))) + ((cnt (rows &&& (rC 1))) * (cnt (rows &&& (rC 1))))) : Nat) : Int)))), (4, .int (iv ((((cnt (rows &&& (rC 1))) : Nat) : Int)))), (3, .int (iv (1))), (0, .ref (ad 1)), (1, .int (iv (((rows : Nat) : Int))))]) hX d_Tab_squaresOf_29 rfl (by decide) rfl ?_
  refine v_iincN (a := 1) (n := 1) (lv' := [(3, .int (iv (2))), (2, .int (iv (((((0 + ((cnt (rows &&& (rC 0))) * (cnt (rows &&& (rC 0))))) + ((cnt (rows &&& (rC 1))) * (cnt (rows &&& (rC 1))))) : Nat) : Int)))), (4, .int (iv ((((cnt (rows &&& (rC 1))) : Nat) : Int)))), (0, .ref (ad 1)), (1, .int (iv (((rows : Nat) : Int))))]) hX d_Tab_squaresOf_30 rfl 2 rfl (by decide) rfl ?_
  refine v_goto (tgt := 4) hX d_Tab_squaresOf_33 (by decide) ?_
  refine v_iload_n hX d_Tab_squaresOf_4 0 rfl ?_
  refine v_iconst hX (3) d_Tab_squaresOf_5 ?_
  refine v_icmp_ge (tgt := 36) hX d_Tab_squaresOf_6 (by decide) (by unfold ir; omega) (by unfold ir; omega) (fun c9 => absurd c9 (by omega)) (fun c9 => ?_)
  refine v_iload_n hX d_Tab_squaresOf_9 4 rfl ?_
  refine v_aload_n hX d_Tab_squaresOf_10 3 rfl ?_
  refine g_get (i := 1) hX hj fl_Tab_27 d_Tab_squaresOf_11 (by omega) a1 rfl ?_
  refine v_iload_n hX d_Tab_squaresOf_14 0 rfl ?_
  refine g_iald (i := 15) hX hj d_Tab_squaresOf_15 (by omega) a5 (by decide) (2) rfl (by omega) ?_
  refine v_iand (z := (((rows &&& (rC 2)) : Nat) : Int)) hX d_Tab_squaresOf_16 (iv_and (rows) ((rC 2))) ?_
  refine g_callSI (As := [.int (iv ((((rows &&& (rC 2)) : Nat) : Int)))]) (st := []) hX (k0_Int_bitCount (rows &&& (rC 2)) (Nat.lt_of_le_of_lt Nat.and_le_left (by omega))) cl_Tab_72 d_Tab_squaresOf_17 rfl ⟨by decide, by decide⟩ ⟨by decide, by decide⟩ (Nat.le_of_ble_eq_true rfl) (fun z7 hz8 hp9 => ?_)
  subst hp9
  refine v_istore (lv' := [(4, .int (iv ((((cnt (rows &&& (rC 2))) : Nat) : Int)))), (3, .int (iv (2))), (2, .int (iv (((((0 + ((cnt (rows &&& (rC 0))) * (cnt (rows &&& (rC 0))))) + ((cnt (rows &&& (rC 1))) * (cnt (rows &&& (rC 1))))) : Nat) : Int)))), (0, .ref (ad 1)), (1, .int (iv (((rows : Nat) : Int))))]) hX d_Tab_squaresOf_20 (by decide) rfl ?_
  refine v_iload_n hX d_Tab_squaresOf_22 2 rfl ?_
  refine v_iload hX d_Tab_squaresOf_23 0 rfl ?_
  refine v_iload hX d_Tab_squaresOf_25 0 rfl ?_
  refine v_imulN (a := (cnt (rows &&& (rC 2)))) (b := (cnt (rows &&& (rC 2)))) hX d_Tab_squaresOf_27 ?_
  refine v_iaddN (a := ((0 + ((cnt (rows &&& (rC 0))) * (cnt (rows &&& (rC 0))))) + ((cnt (rows &&& (rC 1))) * (cnt (rows &&& (rC 1)))))) (b := ((cnt (rows &&& (rC 2))) * (cnt (rows &&& (rC 2))))) hX d_Tab_squaresOf_28 ?_
  refine v_istore_n (lv' := [(2, .int (iv ((((((0 + ((cnt (rows &&& (rC 0))) * (cnt (rows &&& (rC 0))))) + ((cnt (rows &&& (rC 1))) * (cnt (rows &&& (rC 1))))) + ((cnt (rows &&& (rC 2))) * (cnt (rows &&& (rC 2))))) : Nat) : Int)))), (4, .int (iv ((((cnt (rows &&& (rC 2))) : Nat) : Int)))), (3, .int (iv (2))), (0, .ref (ad 1)), (1, .int (iv (((rows : Nat) : Int))))]) hX d_Tab_squaresOf_29 rfl (by decide) rfl ?_
  refine v_iincN (a := 2) (n := 1) (lv' := [(3, .int (iv (3))), (2, .int (iv ((((((0 + ((cnt (rows &&& (rC 0))) * (cnt (rows &&& (rC 0))))) + ((cnt (rows &&& (rC 1))) * (cnt (rows &&& (rC 1))))) + ((cnt (rows &&& (rC 2))) * (cnt (rows &&& (rC 2))))) : Nat) : Int)))), (4, .int (iv ((((cnt (rows &&& (rC 2))) : Nat) : Int)))), (0, .ref (ad 1)), (1, .int (iv (((rows : Nat) : Int))))]) hX d_Tab_squaresOf_30 rfl 2 rfl (by decide) rfl ?_
  refine v_goto (tgt := 4) hX d_Tab_squaresOf_33 (by decide) ?_
  refine v_iload_n hX d_Tab_squaresOf_4 0 rfl ?_
  refine v_iconst hX (3) d_Tab_squaresOf_5 ?_
  refine v_icmp_ge (tgt := 36) hX d_Tab_squaresOf_6 (by decide) (by unfold ir; omega) (by unfold ir; omega) (fun c9 => ?_) (fun c9 => absurd c9 (by omega))
  refine v_iload_n hX d_Tab_squaresOf_36 1 rfl ?_
  exact hret _ _ _ _ d_Tab_squaresOf_37 (ir_n (by omega)) ⟨_, rfl, rfl, (by simp only [kSq, kCnt, Nat.zero_add])⟩ rfl

set_option maxHeartbeats 1000000 in
set_option maxRecDepth 100000 in
theorem m_Tab_unknownOf {G : xG} {f0 : xF} {ad : Nat → Nat} (hj : adOk ad 400) {σ : xF} {n : Nat} {val : Nat → Nat → Int} {cl so rC rK : Nat → Nat} {rL : Nat → Nat → Nat} (hT : pTab G ad σ n val cl so rC rK rL) (hB : bTab n cl so rC rK rL) (rows c : Nat) (hR : rows < 16777216) (hc : c < 4) : ∀ l, gI l G f0 ad 400 y_Tab_unknownOf (.code y_Tab_unknownOf c_Tab_unknownOf 3 (some (.int))) rm_Tab_unknownOf [.ref (ad 1), .int (iv (((rows : Nat) : Int))), .int (iv (((c : Nat) : Int)))] σ (fun z σ' => σ' = σ ∧ z = ((nd rows (rK c) : Nat) : Int)) := by
  intro l
  refine mI_of (rt := .int) (by decide) (Nat.le_of_ble_eq_true rfl) (fun X hX hret => ?_)
  show vV G X 0 0 0 [(0, .ref (ad 1)), (1, .int (iv (((rows : Nat) : Int)))), (2, .int (iv (((c : Nat) : Int))))] [] (ov f0 ad 400 σ)
  obtain ⟨a1, a2, a3, a4, a5, a6, a7, a8, a9⟩ := id hT
  obtain ⟨b1, b2, b3, b4, b5, b6⟩ := id hB
  refine v_iload_n hX d_Tab_unknownOf_0 2 rfl ?_
  refine g_callSI (As := [.int (iv (((c : Nat) : Int)))]) (st := []) hX (k0_Bs_isColumn (((c : Nat) : Int)) (by first | assumption | (unfold ir at *; omega))) cl_Tab_36 d_Tab_unknownOf_1 rfl ⟨by decide, by decide⟩ ⟨by decide, by decide⟩ (Nat.le_of_ble_eq_true rfl) (fun z1 hz2 hp3 => ?_)
  have z1e : z1 = 1 := hp3.trans (if_pos (by omega))
  subst z1e
  refine v_if_eq (tgt := 20) hX d_Tab_unknownOf_4 (by decide) (by first | assumption | (unfold ir at *; omega)) (fun c9 => absurd c9 (by omega)) (fun c9 => ?_)
  refine v_iload_n hX d_Tab_unknownOf_7 1 rfl ?_
  refine v_aload_n hX d_Tab_unknownOf_8 0 rfl ?_
  refine g_get (i := 1) hX hj fl_Tab_30 d_Tab_unknownOf_9 (by omega) a1 rfl ?_
  refine v_iload_n hX d_Tab_unknownOf_12 2 rfl ?_
  refine g_iald (i := 16) hX hj d_Tab_unknownOf_13 (by omega) a6 (by decide) (c) rfl (by omega) ?_
  refine v_iconst hX (-1) d_Tab_unknownOf_14 ?_
  refine v_ixor (z := (-1 - (((rK c) : Nat) : Int))) hX d_Tab_unknownOf_15 (iv_not ((rK c))) ?_
  refine v_iand (z := (((nd rows (rK c)) : Nat) : Int)) hX d_Tab_unknownOf_16 (iv_andnot (rows) ((rK c))) ?_
  refine v_goto (tgt := 21) hX d_Tab_unknownOf_17 (by decide) ?_
  exact hret _ _ _ _ d_Tab_unknownOf_21 (ir_n (Nat.lt_of_le_of_lt (nd_le _ _) (by omega))) ⟨_, rfl, rfl, rfl⟩ rfl

set_option maxHeartbeats 1000000 in
set_option maxRecDepth 100000 in
theorem m_Tab_labelOf {G : xG} {f0 : xF} {ad : Nat → Nat} (hj : adOk ad 400) {σ : xF} {n : Nat} {val : Nat → Nat → Int} {cl so rC rK : Nat → Nat} {rL : Nat → Nat → Nat} (hT : pTab G ad σ n val cl so rC rK rL) (hB : bTab n cl so rC rK rL) (rows : Nat) (hR : rows < 16777216) : ∀ l, gI l G f0 ad 400 y_Tab_labelOf (.code y_Tab_labelOf c_Tab_labelOf 4 (some (.int))) rm_Tab_labelOf [.ref (ad 1), .int (iv (((rows : Nat) : Int)))] σ (fun z σ' => σ' = σ ∧ z = ((kLab rC rows : Nat) : Int)) := by
  intro l
  refine mI_of (rt := .int) (by decide) (Nat.le_of_ble_eq_true rfl) (fun X hX hret => ?_)
  show vV G X 0 0 0 [(0, .ref (ad 1)), (1, .int (iv (((rows : Nat) : Int))))] [] (ov f0 ad 400 σ)
  obtain ⟨a1, a2, a3, a4, a5, a6, a7, a8, a9⟩ := id hT
  obtain ⟨b1, b2, b3, b4, b5, b6⟩ := id hB
  have p0 := kCnt_le rC rows 0
  have p1 := kCnt_le rC rows 1
  have p2 := kCnt_le rC rows 2
  refine v_iconst hX (0) d_Tab_labelOf_0 ?_
  refine v_istore_n (lv' := [(2, .int (iv (0))), (0, .ref (ad 1)), (1, .int (iv (((rows : Nat) : Int))))]) hX d_Tab_labelOf_1 rfl (by decide) rfl ?_
  refine v_iconst hX (1) d_Tab_labelOf_2 ?_
  refine v_istore_n (lv' := [(3, .int (iv (1))), (2, .int (iv (0))), (0, .ref (ad 1)), (1, .int (iv (((rows : Nat) : Int))))]) hX d_Tab_labelOf_3 rfl (by decide) rfl ?_
  refine v_iload_n hX d_Tab_labelOf_4 0 rfl ?_
  refine v_iconst hX (3) d_Tab_labelOf_5 ?_
  refine v_icmp_ge (tgt := 32) hX d_Tab_labelOf_6 (by decide) (by unfold ir; omega) (by unfold ir; omega) (fun c9 => absurd c9 (by omega)) (fun c9 => ?_)
  refine v_aload_n hX d_Tab_labelOf_9 2 rfl ?_
  refine v_iload_n hX d_Tab_labelOf_10 3 rfl ?_
  refine v_iload_n hX d_Tab_labelOf_11 0 rfl ?_
  refine g_callVI (As := [.int (iv (((rows : Nat) : Int))), .int (iv (1))]) (st := []) hX hj (i := 1) (by omega) a1 (m_Tab_countOf hj hT hB rows 1 hR (by omega)) cl_Tab_77 d_Tab_labelOf_12 rfl ⟨by decide, by decide⟩ ⟨by decide, by decide⟩ (Nat.le_of_ble_eq_true rfl) (fun z1 σ2 hz3 hp4 => ?_)
  obtain ⟨he5, hv6⟩ := hp4
  rw [he5]
  subst hv6
  refine v_aload_n hX d_Tab_labelOf_15 2 rfl ?_
  refine v_iload_n hX d_Tab_labelOf_16 3 rfl ?_
  refine v_iload_n hX d_Tab_labelOf_17 1 rfl ?_
  refine g_callVI (As := [.int (iv (((rows : Nat) : Int))), .int (iv (0))]) (st := [.int (iv ((((kCnt rC rows 1) : Nat) : Int)))]) hX hj (i := 1) (by omega) a1 (m_Tab_countOf hj hT hB rows 0 hR (by omega)) cl_Tab_77 d_Tab_labelOf_18 rfl ⟨by decide, by decide⟩ ⟨by decide, by decide⟩ (Nat.le_of_ble_eq_true rfl) (fun z7 σ8 hz9 hp10 => ?_)
  obtain ⟨he11, hv12⟩ := hp10
  rw [he11]
  subst hv12
  refine v_icmp_le (tgt := 26) hX d_Tab_labelOf_21 (by decide) (by unfold ir; omega) (by unfold ir; omega) (fun c21_2 => ?_) (fun c21_2 => ?_)
  · refine v_iincN (a := 1) (n := 1) (lv' := [(3, .int (iv (2))), (2, .int (iv (0))), (0, .ref (ad 1)), (1, .int (iv (((rows : Nat) : Int))))]) hX d_Tab_labelOf_26 rfl 0 rfl (by decide) rfl ?_
    refine v_goto (tgt := 4) hX d_Tab_labelOf_29 (by decide) ?_
    refine v_iload_n hX d_Tab_labelOf_4 0 rfl ?_
    refine v_iconst hX (3) d_Tab_labelOf_5 ?_
    refine v_icmp_ge (tgt := 32) hX d_Tab_labelOf_6 (by decide) (by unfold ir; omega) (by unfold ir; omega) (fun c9 => absurd c9 (by omega)) (fun c9 => ?_)
    refine v_aload_n hX d_Tab_labelOf_9 2 rfl ?_
    refine v_iload_n hX d_Tab_labelOf_10 3 rfl ?_
    refine v_iload_n hX d_Tab_labelOf_11 0 rfl ?_
    refine g_callVI (As := [.int (iv (((rows : Nat) : Int))), .int (iv (2))]) (st := []) hX hj (i := 1) (by omega) a1 (m_Tab_countOf hj hT hB rows 2 hR (by omega)) cl_Tab_77 d_Tab_labelOf_12 rfl ⟨by decide, by decide⟩ ⟨by decide, by decide⟩ (Nat.le_of_ble_eq_true rfl) (fun z13 σ14 hz15 hp16 => ?_)
    obtain ⟨he17, hv18⟩ := hp16
    rw [he17]
    subst hv18
    refine v_aload_n hX d_Tab_labelOf_15 2 rfl ?_
    refine v_iload_n hX d_Tab_labelOf_16 3 rfl ?_
    refine v_iload_n hX d_Tab_labelOf_17 1 rfl ?_
    refine g_callVI (As := [.int (iv (((rows : Nat) : Int))), .int (iv (0))]) (st := [.int (iv ((((kCnt rC rows 2) : Nat) : Int)))]) hX hj (i := 1) (by omega) a1 (m_Tab_countOf hj hT hB rows 0 hR (by omega)) cl_Tab_77 d_Tab_labelOf_18 rfl ⟨by decide, by decide⟩ ⟨by decide, by decide⟩ (Nat.le_of_ble_eq_true rfl) (fun z19 σ20 hz21 hp22 => ?_)
    obtain ⟨he23, hv24⟩ := hp22
    rw [he23]
    subst hv24
    refine v_icmp_le (tgt := 26) hX d_Tab_labelOf_21 (by decide) (by unfold ir; omega) (by unfold ir; omega) (fun c21_4 => ?_) (fun c21_4 => ?_)
    · refine v_iincN (a := 2) (n := 1) (lv' := [(3, .int (iv (3))), (2, .int (iv (0))), (0, .ref (ad 1)), (1, .int (iv (((rows : Nat) : Int))))]) hX d_Tab_labelOf_26 rfl 0 rfl (by decide) rfl ?_
      refine v_goto (tgt := 4) hX d_Tab_labelOf_29 (by decide) ?_
      refine v_iload_n hX d_Tab_labelOf_4 0 rfl ?_
      refine v_iconst hX (3) d_Tab_labelOf_5 ?_
      refine v_icmp_ge (tgt := 32) hX d_Tab_labelOf_6 (by decide) (by unfold ir; omega) (by unfold ir; omega) (fun c9 => ?_) (fun c9 => absurd c9 (by omega))
      refine v_iload_n hX d_Tab_labelOf_32 1 rfl ?_
      exact hret _ _ _ _ d_Tab_labelOf_33 (by unfold ir; omega) ⟨_, rfl, rfl, (by first | (rw [kLab_00 (by omega) (by omega)]; rfl) | (rw [kLab_02 (by omega) (by omega)]; rfl) | (rw [kLab_11 (by omega) (by omega)]; rfl) | (rw [kLab_12 (by omega) (by omega)]; rfl))⟩ rfl
    · refine v_iload_n hX d_Tab_labelOf_24 0 rfl ?_
      refine v_istore_n (lv' := [(2, .int (iv (2))), (3, .int (iv (2))), (0, .ref (ad 1)), (1, .int (iv (((rows : Nat) : Int))))]) hX d_Tab_labelOf_25 rfl (by decide) rfl ?_
      refine v_iincN (a := 2) (n := 1) (lv' := [(3, .int (iv (3))), (2, .int (iv (2))), (0, .ref (ad 1)), (1, .int (iv (((rows : Nat) : Int))))]) hX d_Tab_labelOf_26 rfl 1 rfl (by decide) rfl ?_
      refine v_goto (tgt := 4) hX d_Tab_labelOf_29 (by decide) ?_
      refine v_iload_n hX d_Tab_labelOf_4 0 rfl ?_
      refine v_iconst hX (3) d_Tab_labelOf_5 ?_
      refine v_icmp_ge (tgt := 32) hX d_Tab_labelOf_6 (by decide) (by unfold ir; omega) (by unfold ir; omega) (fun c9 => ?_) (fun c9 => absurd c9 (by omega))
      refine v_iload_n hX d_Tab_labelOf_32 1 rfl ?_
      exact hret _ _ _ _ d_Tab_labelOf_33 (by unfold ir; omega) ⟨_, rfl, rfl, (by first | (rw [kLab_00 (by omega) (by omega)]; rfl) | (rw [kLab_02 (by omega) (by omega)]; rfl) | (rw [kLab_11 (by omega) (by omega)]; rfl) | (rw [kLab_12 (by omega) (by omega)]; rfl))⟩ rfl
  · refine v_iload_n hX d_Tab_labelOf_24 0 rfl ?_
    refine v_istore_n (lv' := [(2, .int (iv (1))), (3, .int (iv (1))), (0, .ref (ad 1)), (1, .int (iv (((rows : Nat) : Int))))]) hX d_Tab_labelOf_25 rfl (by decide) rfl ?_
    refine v_iincN (a := 1) (n := 1) (lv' := [(3, .int (iv (2))), (2, .int (iv (1))), (0, .ref (ad 1)), (1, .int (iv (((rows : Nat) : Int))))]) hX d_Tab_labelOf_26 rfl 1 rfl (by decide) rfl ?_
    refine v_goto (tgt := 4) hX d_Tab_labelOf_29 (by decide) ?_
    refine v_iload_n hX d_Tab_labelOf_4 0 rfl ?_
    refine v_iconst hX (3) d_Tab_labelOf_5 ?_
    refine v_icmp_ge (tgt := 32) hX d_Tab_labelOf_6 (by decide) (by unfold ir; omega) (by unfold ir; omega) (fun c9 => absurd c9 (by omega)) (fun c9 => ?_)
    refine v_aload_n hX d_Tab_labelOf_9 2 rfl ?_
    refine v_iload_n hX d_Tab_labelOf_10 3 rfl ?_
    refine v_iload_n hX d_Tab_labelOf_11 0 rfl ?_
    refine g_callVI (As := [.int (iv (((rows : Nat) : Int))), .int (iv (2))]) (st := []) hX hj (i := 1) (by omega) a1 (m_Tab_countOf hj hT hB rows 2 hR (by omega)) cl_Tab_77 d_Tab_labelOf_12 rfl ⟨by decide, by decide⟩ ⟨by decide, by decide⟩ (Nat.le_of_ble_eq_true rfl) (fun z25 σ26 hz27 hp28 => ?_)
    obtain ⟨he29, hv30⟩ := hp28
    rw [he29]
    subst hv30
    refine v_aload_n hX d_Tab_labelOf_15 2 rfl ?_
    refine v_iload_n hX d_Tab_labelOf_16 3 rfl ?_
    refine v_iload_n hX d_Tab_labelOf_17 1 rfl ?_
    refine g_callVI (As := [.int (iv (((rows : Nat) : Int))), .int (iv (1))]) (st := [.int (iv ((((kCnt rC rows 2) : Nat) : Int)))]) hX hj (i := 1) (by omega) a1 (m_Tab_countOf hj hT hB rows 1 hR (by omega)) cl_Tab_77 d_Tab_labelOf_18 rfl ⟨by decide, by decide⟩ ⟨by decide, by decide⟩ (Nat.le_of_ble_eq_true rfl) (fun z31 σ32 hz33 hp34 => ?_)
    obtain ⟨he35, hv36⟩ := hp34
    rw [he35]
    subst hv36
    refine v_icmp_le (tgt := 26) hX d_Tab_labelOf_21 (by decide) (by unfold ir; omega) (by unfold ir; omega) (fun c21_8 => ?_) (fun c21_8 => ?_)
    · refine v_iincN (a := 2) (n := 1) (lv' := [(3, .int (iv (3))), (2, .int (iv (1))), (0, .ref (ad 1)), (1, .int (iv (((rows : Nat) : Int))))]) hX d_Tab_labelOf_26 rfl 0 rfl (by decide) rfl ?_
      refine v_goto (tgt := 4) hX d_Tab_labelOf_29 (by decide) ?_
      refine v_iload_n hX d_Tab_labelOf_4 0 rfl ?_
      refine v_iconst hX (3) d_Tab_labelOf_5 ?_
      refine v_icmp_ge (tgt := 32) hX d_Tab_labelOf_6 (by decide) (by unfold ir; omega) (by unfold ir; omega) (fun c9 => ?_) (fun c9 => absurd c9 (by omega))
      refine v_iload_n hX d_Tab_labelOf_32 1 rfl ?_
      exact hret _ _ _ _ d_Tab_labelOf_33 (by unfold ir; omega) ⟨_, rfl, rfl, (by first | (rw [kLab_00 (by omega) (by omega)]; rfl) | (rw [kLab_02 (by omega) (by omega)]; rfl) | (rw [kLab_11 (by omega) (by omega)]; rfl) | (rw [kLab_12 (by omega) (by omega)]; rfl))⟩ rfl
    · refine v_iload_n hX d_Tab_labelOf_24 0 rfl ?_
      refine v_istore_n (lv' := [(2, .int (iv (2))), (3, .int (iv (2))), (0, .ref (ad 1)), (1, .int (iv (((rows : Nat) : Int))))]) hX d_Tab_labelOf_25 rfl (by decide) rfl ?_
      refine v_iincN (a := 2) (n := 1) (lv' := [(3, .int (iv (3))), (2, .int (iv (2))), (0, .ref (ad 1)), (1, .int (iv (((rows : Nat) : Int))))]) hX d_Tab_labelOf_26 rfl 1 rfl (by decide) rfl ?_
      refine v_goto (tgt := 4) hX d_Tab_labelOf_29 (by decide) ?_
      refine v_iload_n hX d_Tab_labelOf_4 0 rfl ?_
      refine v_iconst hX (3) d_Tab_labelOf_5 ?_
      refine v_icmp_ge (tgt := 32) hX d_Tab_labelOf_6 (by decide) (by unfold ir; omega) (by unfold ir; omega) (fun c9 => ?_) (fun c9 => absurd c9 (by omega))
      refine v_iload_n hX d_Tab_labelOf_32 1 rfl ?_
      exact hret _ _ _ _ d_Tab_labelOf_33 (by unfold ir; omega) ⟨_, rfl, rfl, (by first | (rw [kLab_00 (by omega) (by omega)]; rfl) | (rw [kLab_02 (by omega) (by omega)]; rfl) | (rw [kLab_11 (by omega) (by omega)]; rfl) | (rw [kLab_12 (by omega) (by omega)]; rfl))⟩ rfl

set_option maxHeartbeats 1000000 in
set_option maxRecDepth 100000 in
theorem m_Tab_leftOf {G : xG} {f0 : xF} {ad : Nat → Nat} (hj : adOk ad 400) {σ : xF} {n : Nat} {val : Nat → Nat → Int} {cl so rC rK : Nat → Nat} {rL : Nat → Nat → Nat} (hT : pTab G ad σ n val cl so rC rK rL) (hB : bTab n cl so rC rK rL) (rows c num side : Nat) (hR : rows < 16777216) (hc : c < 4) (hn : num ≤ 100) (hs : side ≤ 1) : ∀ l, gI l G f0 ad 400 y_Tab_leftOf (.code y_Tab_leftOf c_Tab_leftOf 6 (some (.int))) rm_Tab_leftOf [.ref (ad 1), .int (iv (((rows : Nat) : Int))), .int (iv (((c : Nat) : Int))), .int (iv (((num : Nat) : Int))), .int (iv (((side : Nat) : Int)))] σ (fun z σ' => σ' = σ ∧ z = ((kLeft rK rL rows c num side : Nat) : Int)) := by
  intro l
  refine mI_of (rt := .int) (by decide) (Nat.le_of_ble_eq_true rfl) (fun X hX hret => ?_)
  show vV G X 0 0 0 [(0, .ref (ad 1)), (1, .int (iv (((rows : Nat) : Int)))), (2, .int (iv (((c : Nat) : Int)))), (3, .int (iv (((num : Nat) : Int)))), (4, .int (iv (((side : Nat) : Int))))] [] (ov f0 ad 400 σ)
  obtain ⟨a1, a2, a3, a4, a5, a6, a7, a8, a9⟩ := id hT
  obtain ⟨b1, b2, b3, b4, b5, b6⟩ := id hB
  refine v_iload_n hX d_Tab_leftOf_0 2 rfl ?_
  refine g_callSI (As := [.int (iv (((c : Nat) : Int)))]) (st := []) hX (k0_Bs_isColumn (((c : Nat) : Int)) (by first | assumption | (unfold ir at *; omega))) cl_Tab_36 d_Tab_leftOf_1 rfl ⟨by decide, by decide⟩ ⟨by decide, by decide⟩ (Nat.le_of_ble_eq_true rfl) (fun z1 hz2 hp3 => ?_)
  have z1e : z1 = 1 := hp3.trans (if_pos (by omega))
  subst z1e
  refine v_if_eq (tgt := 17) hX d_Tab_leftOf_4 (by decide) (by first | assumption | (unfold ir at *; omega)) (fun c9 => absurd c9 (by omega)) (fun c9 => ?_)
  refine v_iload_n hX d_Tab_leftOf_7 3 rfl ?_
  refine v_if_lt (tgt := 17) hX d_Tab_leftOf_8 (by decide) (by first | assumption | (unfold ir at *; omega)) (fun c8_2 => absurd c8_2 (by omega)) (fun c8_2 => ?_)
  refine v_iload_n hX d_Tab_leftOf_11 3 rfl ?_
  refine v_bipush hX (100) d_Tab_leftOf_12 rfl ?_
  refine v_icmp_le (tgt := 19) hX d_Tab_leftOf_14 (by decide) (by first | assumption | (unfold ir at *; omega)) (by first | assumption | (unfold ir at *; omega)) (fun c14_3 => ?_) (fun c14_3 => absurd c14_3 (by omega))
  refine v_iload_n hX d_Tab_leftOf_19 1 rfl ?_
  refine v_aload_n hX d_Tab_leftOf_20 0 rfl ?_
  refine g_get (i := 1) hX hj fl_Tab_33 d_Tab_leftOf_21 (by omega) a1 rfl ?_
  refine v_iload_n hX d_Tab_leftOf_24 2 rfl ?_
  refine g_aaldA (i := 17) hX hj d_Tab_leftOf_25 (by omega) a7 rfl (by decide) (c) rfl (by omega) (if_pos (by omega)) ?_
  refine v_iload_n hX d_Tab_leftOf_26 3 rfl ?_
  refine g_iald (i := 24 + c) hX hj d_Tab_leftOf_27 (by omega) (a8 c (by omega)) (by decide) (num) rfl (by omega) ?_
  refine v_iand (z := (((rows &&& (rL c num)) : Nat) : Int)) hX d_Tab_leftOf_28 (iv_and (rows) ((rL c num))) ?_
  refine v_istore (lv' := [(5, .int (iv ((((rows &&& (rL c num)) : Nat) : Int)))), (0, .ref (ad 1)), (1, .int (iv (((rows : Nat) : Int)))), (2, .int (iv (((c : Nat) : Int)))), (3, .int (iv (((num : Nat) : Int)))), (4, .int (iv (((side : Nat) : Int))))]) hX d_Tab_leftOf_29 (by decide) rfl ?_
  refine v_iload hX d_Tab_leftOf_31 5 rfl ?_
  refine v_if_ne (tgt := 52) hX d_Tab_leftOf_33 (by decide) (by first | assumption | (unfold ir at *; omega)) (fun c33_4 => ?_) (fun c33_4 => ?_)
  · refine v_iload hX d_Tab_leftOf_52 0 rfl ?_
    exact hret _ _ _ _ d_Tab_leftOf_54 (ir_n (by have h1 : rows &&& rL c num < 2 ^ 24 := Nat.lt_of_le_of_lt Nat.and_le_left hR; have h2 : (rows &&& rL c num) ||| nd rows (rK c) < 2 ^ 24 := or_lt 24 h1 (Nat.lt_of_le_of_lt (nd_le _ _) hR); omega)) ⟨_, rfl, rfl, (by unfold kLeft; first | (rw [if_pos (by omega)]; done) | (rw [if_neg (by omega)]; done))⟩ rfl
  · refine v_iload hX d_Tab_leftOf_36 0 rfl ?_
    refine v_iload_n hX d_Tab_leftOf_38 2 rfl ?_
    refine v_aload_n hX d_Tab_leftOf_39 1 rfl ?_
    refine g_get (i := 1) hX hj fl_Tab_30 d_Tab_leftOf_40 (by omega) a1 rfl ?_
    refine v_iload_n hX d_Tab_leftOf_43 3 rfl ?_
    refine g_iald (i := 16) hX hj d_Tab_leftOf_44 (by omega) a6 (by decide) (c) rfl (by omega) ?_
    refine v_iconst hX (-1) d_Tab_leftOf_45 ?_
    refine v_ixor (z := (-1 - (((rK c) : Nat) : Int))) hX d_Tab_leftOf_46 (iv_not ((rK c))) ?_
    refine v_iand (z := (((nd rows (rK c)) : Nat) : Int)) hX d_Tab_leftOf_47 (iv_andnot (rows) ((rK c))) ?_
    refine v_ior (z := ((((rows &&& (rL c num)) ||| (nd rows (rK c))) : Nat) : Int)) hX d_Tab_leftOf_48 (iv_or ((rows &&& (rL c num))) ((nd rows (rK c)))) ?_
    refine v_goto (tgt := 54) hX d_Tab_leftOf_49 (by decide) ?_
    exact hret _ _ _ _ d_Tab_leftOf_54 (ir_n (by have h1 : rows &&& rL c num < 2 ^ 24 := Nat.lt_of_le_of_lt Nat.and_le_left hR; have h2 : (rows &&& rL c num) ||| nd rows (rK c) < 2 ^ 24 := or_lt 24 h1 (Nat.lt_of_le_of_lt (nd_le _ _) hR); omega)) ⟨_, rfl, rfl, (by unfold kLeft; first | (rw [if_pos (by omega)]; done) | (rw [if_neg (by omega)]; done))⟩ rfl

set_option maxHeartbeats 1000000 in
set_option maxRecDepth 100000 in
theorem m_Tab_isLeftOf {G : xG} {f0 : xF} {ad : Nat → Nat} (hj : adOk ad 400) {σ : xF} {n : Nat} {val : Nat → Nat → Int} {cl so rC rK : Nat → Nat} {rL : Nat → Nat → Nat} (hT : pTab G ad σ n val cl so rC rK rL) (hB : bTab n cl so rC rK rL) (c num v : Nat) (hc : c < 4) (hn : num ≤ 100) (hv : v ≤ 100) (hv2 : so c = 1 → v ≤ 5) : ∀ l, gI l G f0 ad 400 y_Tab_isLeftOf (.code y_Tab_isLeftOf c_Tab_isLeftOf 4 (some (.boolean))) rm_Tab_isLeftOf [.ref (ad 1), .int (iv (((c : Nat) : Int))), .int (iv (((num : Nat) : Int))), .int (iv (((v : Nat) : Int)))] σ (fun z σ' => σ' = σ ∧ z = pI (lfP (so c) num v = true)) := by
  intro l
  refine mI_of (rt := .boolean) (by decide) (Nat.le_of_ble_eq_true rfl) (fun X hX hret => ?_)
  show vV G X 0 0 0 [(0, .ref (ad 1)), (1, .int (iv (((c : Nat) : Int)))), (2, .int (iv (((num : Nat) : Int)))), (3, .int (iv (((v : Nat) : Int))))] [] (ov f0 ad 400 σ)
  obtain ⟨a1, a2, a3, a4, a5, a6, a7, a8, a9⟩ := id hT
  obtain ⟨b1, b2, b3, b4, b5, b6⟩ := id hB
  refine v_iload_n hX d_Tab_isLeftOf_0 1 rfl ?_
  refine g_callSI (As := [.int (iv (((c : Nat) : Int)))]) (st := []) hX (k0_Bs_isColumn (((c : Nat) : Int)) (by first | assumption | (unfold ir at *; omega))) cl_Tab_36 d_Tab_isLeftOf_1 rfl ⟨by decide, by decide⟩ ⟨by decide, by decide⟩ (Nat.le_of_ble_eq_true rfl) (fun z1 hz2 hp3 => ?_)
  have z1e : z1 = 1 := hp3.trans (if_pos (by omega))
  subst z1e
  refine v_if_eq (tgt := 32) hX d_Tab_isLeftOf_4 (by decide) (by first | (unfold ir; omega) | (have := b3 c; unfold ir; omega) | (have := @Nat.and_le_right (num / 2 ^ v) 1; unfold ir; omega)) (fun c9 => absurd c9 (by omega)) (fun c9 => ?_)
  refine v_aload_n hX d_Tab_isLeftOf_7 0 rfl ?_
  refine g_get (i := 1) hX hj fl_Tab_24 d_Tab_isLeftOf_8 (by omega) a1 rfl ?_
  refine v_iload_n hX d_Tab_isLeftOf_11 1 rfl ?_
  refine g_iald (i := 14) hX hj d_Tab_isLeftOf_12 (by omega) a4 (by decide) (c) rfl (by omega) ?_
  refine v_iconst hX (1) d_Tab_isLeftOf_13 ?_
  refine v_icmp_ne (tgt := 32) hX d_Tab_isLeftOf_14 (by decide) (by first | (unfold ir; omega) | (have := b3 c; unfold ir; omega) | (have := @Nat.and_le_right (num / 2 ^ v) 1; unfold ir; omega)) (by first | (unfold ir; omega) | (have := b3 c; unfold ir; omega) | (have := @Nat.and_le_right (num / 2 ^ v) 1; unfold ir; omega)) (fun c14_2 => ?_) (fun c14_2 => ?_)
  · refine v_iload_n hX d_Tab_isLeftOf_32 3 rfl ?_
    refine v_iload_n hX d_Tab_isLeftOf_33 2 rfl ?_
    refine v_icmp_gt (tgt := 41) hX d_Tab_isLeftOf_34 (by decide) (by first | (unfold ir; omega) | (have := b3 c; unfold ir; omega) | (have := @Nat.and_le_right (num / 2 ^ v) 1; unfold ir; omega)) (by first | (unfold ir; omega) | (have := b3 c; unfold ir; omega) | (have := @Nat.and_le_right (num / 2 ^ v) 1; unfold ir; omega)) (fun c34_3 => ?_) (fun c34_3 => ?_)
    · refine v_iconst hX (0) d_Tab_isLeftOf_41 ?_
      exact hret _ _ _ _ d_Tab_isLeftOf_42 (by first | (unfold ir; omega) | (have := b3 c; unfold ir; omega) | (have := @Nat.and_le_right (num / 2 ^ v) 1; unfold ir; omega)) ⟨_, rfl, rfl, (pI_f (by unfold lfP; first | (rw [if_pos (by omega)]; exact ne_true_of_eq_false (decide_eq_false (by omega))) | (rw [if_neg (by omega)]; exact ne_true_of_eq_false (decide_eq_false (by omega)))))⟩ rfl
    · refine v_iconst hX (1) d_Tab_isLeftOf_37 ?_
      refine v_goto (tgt := 42) hX d_Tab_isLeftOf_38 (by decide) ?_
      exact hret _ _ _ _ d_Tab_isLeftOf_42 (by first | (unfold ir; omega) | (have := b3 c; unfold ir; omega) | (have := @Nat.and_le_right (num / 2 ^ v) 1; unfold ir; omega)) ⟨_, rfl, rfl, (pI_t (by unfold lfP; first | (rw [if_pos (by omega)]; exact decide_eq_true (by omega)) | (rw [if_neg (by omega)]; exact decide_eq_true (by omega))))⟩ rfl
  · refine v_iload_n hX d_Tab_isLeftOf_17 2 rfl ?_
    refine v_iload_n hX d_Tab_isLeftOf_18 3 rfl ?_
    refine v_ishr (z := (((num / 2 ^ v) : Nat) : Int)) hX d_Tab_isLeftOf_19 (iv_shr (num) (by omega) (v) (by omega)) ?_
    refine v_iconst hX (1) d_Tab_isLeftOf_20 ?_
    refine v_iand (z := ((((num / 2 ^ v) &&& 1) : Nat) : Int)) hX d_Tab_isLeftOf_21 (iv_and ((num / 2 ^ v)) (1)) ?_
    refine v_iconst hX (1) d_Tab_isLeftOf_22 ?_
    refine v_icmp_ne (tgt := 30) hX d_Tab_isLeftOf_23 (by decide) (by first | (unfold ir; omega) | (have := b3 c; unfold ir; omega) | (have := @Nat.and_le_right (num / 2 ^ v) 1; unfold ir; omega)) (by first | (unfold ir; omega) | (have := b3 c; unfold ir; omega) | (have := @Nat.and_le_right (num / 2 ^ v) 1; unfold ir; omega)) (fun c23_4 => ?_) (fun c23_4 => ?_)
    · refine v_iconst hX (0) d_Tab_isLeftOf_30 ?_
      exact hret _ _ _ _ d_Tab_isLeftOf_31 (by first | (unfold ir; omega) | (have := b3 c; unfold ir; omega) | (have := @Nat.and_le_right (num / 2 ^ v) 1; unfold ir; omega)) ⟨_, rfl, rfl, (pI_f (by unfold lfP; first | (rw [if_pos (by omega)]; exact ne_true_of_eq_false (decide_eq_false (by omega))) | (rw [if_neg (by omega)]; exact ne_true_of_eq_false (decide_eq_false (by omega)))))⟩ rfl
    · refine v_iconst hX (1) d_Tab_isLeftOf_26 ?_
      refine v_goto (tgt := 31) hX d_Tab_isLeftOf_27 (by decide) ?_
      exact hret _ _ _ _ d_Tab_isLeftOf_31 (by first | (unfold ir; omega) | (have := b3 c; unfold ir; omega) | (have := @Nat.and_le_right (num / 2 ^ v) 1; unfold ir; omega)) ⟨_, rfl, rfl, (pI_t (by unfold lfP; first | (rw [if_pos (by omega)]; exact decide_eq_true (by omega)) | (rw [if_neg (by omega)]; exact decide_eq_true (by omega))))⟩ rfl

set_option maxHeartbeats 1000000 in
set_option maxRecDepth 100000 in
theorem m_Tab_isStep {G : xG} {f0 : xF} {ad : Nat → Nat} (hj : adOk ad 400) {σ : xF} {n : Nat} {val : Nat → Nat → Int} {cl so rC rK : Nat → Nat} {rL : Nat → Nat → Nat} (hT : pTab G ad σ n val cl so rC rK rL) (hB : bTab n cl so rC rK rL) (rows c num : Nat) (hR : rows < 16777216) (hc : c < 4) (hn : num ≤ 100) : ∀ l, gI l G f0 ad 400 y_Tab_isStep (.code y_Tab_isStep c_Tab_isStep 6 (some (.boolean))) rm_Tab_isStep [.ref (ad 1), .int (iv (((rows : Nat) : Int))), .int (iv (((c : Nat) : Int))), .int (iv (((num : Nat) : Int)))] σ (fun z σ' => σ' = σ ∧ z = pI (kStep rK rL rows c num = true)) := by
  intro l
  refine mI_of (rt := .boolean) (by decide) (Nat.le_of_ble_eq_true rfl) (fun X hX hret => ?_)
  show vV G X 0 0 0 [(0, .ref (ad 1)), (1, .int (iv (((rows : Nat) : Int)))), (2, .int (iv (((c : Nat) : Int)))), (3, .int (iv (((num : Nat) : Int))))] [] (ov f0 ad 400 σ)
  obtain ⟨a1, a2, a3, a4, a5, a6, a7, a8, a9⟩ := id hT
  obtain ⟨b1, b2, b3, b4, b5, b6⟩ := id hB
  refine v_iload_n hX d_Tab_isStep_0 2 rfl ?_
  refine g_callSI (As := [.int (iv (((c : Nat) : Int)))]) (st := []) hX (k0_Bs_isColumn (((c : Nat) : Int)) (by first | assumption | (unfold ir at *; omega))) cl_Tab_36 d_Tab_isStep_1 rfl ⟨by decide, by decide⟩ ⟨by decide, by decide⟩ (Nat.le_of_ble_eq_true rfl) (fun z1 hz2 hp3 => ?_)
  have z1e : z1 = 1 := hp3.trans (if_pos (by omega))
  subst z1e
  refine v_if_eq (tgt := 17) hX d_Tab_isStep_4 (by decide) (by have h1 := @Nat.and_le_left rows (rL c num); have h2 := @Nat.and_le_left rows (rL c (num - 1)); have h3 := @Nat.and_le_left rows (rK c); unfold ir; omega) (fun c9 => absurd c9 (by omega)) (fun c9 => ?_)
  refine v_iload_n hX d_Tab_isStep_7 3 rfl ?_
  refine v_if_lt (tgt := 17) hX d_Tab_isStep_8 (by decide) (by have h1 := @Nat.and_le_left rows (rL c num); have h2 := @Nat.and_le_left rows (rL c (num - 1)); have h3 := @Nat.and_le_left rows (rK c); unfold ir; omega) (fun c8_2 => absurd c8_2 (by omega)) (fun c8_2 => ?_)
  refine v_iload_n hX d_Tab_isStep_11 3 rfl ?_
  refine v_bipush hX (100) d_Tab_isStep_12 rfl ?_
  refine v_icmp_le (tgt := 19) hX d_Tab_isStep_14 (by decide) (by have h1 := @Nat.and_le_left rows (rL c num); have h2 := @Nat.and_le_left rows (rL c (num - 1)); have h3 := @Nat.and_le_left rows (rK c); unfold ir; omega) (by have h1 := @Nat.and_le_left rows (rL c num); have h2 := @Nat.and_le_left rows (rL c (num - 1)); have h3 := @Nat.and_le_left rows (rK c); unfold ir; omega) (fun c14_3 => ?_) (fun c14_3 => absurd c14_3 (by omega))
  refine v_iload_n hX d_Tab_isStep_19 1 rfl ?_
  refine v_aload_n hX d_Tab_isStep_20 0 rfl ?_
  refine g_get (i := 1) hX hj fl_Tab_33 d_Tab_isStep_21 (by omega) a1 rfl ?_
  refine v_iload_n hX d_Tab_isStep_24 2 rfl ?_
  refine g_aaldA (i := 17) hX hj d_Tab_isStep_25 (by omega) a7 rfl (by decide) (c) rfl (by omega) (if_pos (by omega)) ?_
  refine v_iload_n hX d_Tab_isStep_26 3 rfl ?_
  refine g_iald (i := 24 + c) hX hj d_Tab_isStep_27 (by omega) (a8 c (by omega)) (by decide) (num) rfl (by omega) ?_
  refine v_iand (z := (((rows &&& (rL c num)) : Nat) : Int)) hX d_Tab_isStep_28 (iv_and (rows) ((rL c num))) ?_
  refine v_istore (lv' := [(4, .int (iv ((((rows &&& (rL c num)) : Nat) : Int)))), (0, .ref (ad 1)), (1, .int (iv (((rows : Nat) : Int)))), (2, .int (iv (((c : Nat) : Int)))), (3, .int (iv (((num : Nat) : Int))))]) hX d_Tab_isStep_29 (by decide) rfl ?_
  refine v_iload_n hX d_Tab_isStep_31 4 rfl ?_
  refine v_if_ne (tgt := 39) hX d_Tab_isStep_32 (by decide) (by have h1 := @Nat.and_le_left rows (rL c num); have h2 := @Nat.and_le_left rows (rL c (num - 1)); have h3 := @Nat.and_le_left rows (rK c); unfold ir; omega) (fun c32_4 => ?_) (fun c32_4 => ?_)
  · refine v_iload_n hX d_Tab_isStep_39 2 rfl ?_
    refine v_aload_n hX d_Tab_isStep_40 1 rfl ?_
    refine g_get (i := 1) hX hj fl_Tab_33 d_Tab_isStep_41 (by omega) a1 rfl ?_
    refine v_iload_n hX d_Tab_isStep_44 3 rfl ?_
    refine g_aaldA (i := 17) hX hj d_Tab_isStep_45 (by omega) a7 rfl (by decide) (c) rfl (by omega) (if_pos (by omega)) ?_
    refine v_iload_n hX d_Tab_isStep_46 4 rfl ?_
    refine v_iconst hX (1) d_Tab_isStep_47 ?_
    refine v_isub hX d_Tab_isStep_48 ?_
    refine v_top (x' := iv (((num - 1) : Nat) : Int)) (congrArg iv (by omega)) ?_
    refine g_iald (i := 24 + c) hX hj d_Tab_isStep_49 (by omega) (a8 c (by omega)) (by decide) ((num - 1)) rfl (by omega) ?_
    refine v_iand (z := (((rows &&& (rL c (num - 1))) : Nat) : Int)) hX d_Tab_isStep_50 (iv_and (rows) ((rL c (num - 1)))) ?_
    refine v_istore (lv' := [(5, .int (iv ((((rows &&& (rL c (num - 1))) : Nat) : Int)))), (4, .int (iv ((((rows &&& (rL c num)) : Nat) : Int)))), (0, .ref (ad 1)), (1, .int (iv (((rows : Nat) : Int)))), (2, .int (iv (((c : Nat) : Int)))), (3, .int (iv (((num : Nat) : Int))))]) hX d_Tab_isStep_51 (by decide) rfl ?_
    refine v_iload hX d_Tab_isStep_53 1 rfl ?_
    refine v_iload hX d_Tab_isStep_55 0 rfl ?_
    refine v_icmp_eq (tgt := 77) hX d_Tab_isStep_57 (by decide) (by have h1 := @Nat.and_le_left rows (rL c num); have h2 := @Nat.and_le_left rows (rL c (num - 1)); have h3 := @Nat.and_le_left rows (rK c); unfold ir; omega) (by have h1 := @Nat.and_le_left rows (rL c num); have h2 := @Nat.and_le_left rows (rL c (num - 1)); have h3 := @Nat.and_le_left rows (rK c); unfold ir; omega) (fun c57_5 => ?_) (fun c57_5 => ?_)
    · refine v_iconst hX (0) d_Tab_isStep_77 ?_
      exact hret _ _ _ _ d_Tab_isStep_78 (by have h1 := @Nat.and_le_left rows (rL c num); have h2 := @Nat.and_le_left rows (rL c (num - 1)); have h3 := @Nat.and_le_left rows (rK c); unfold ir; omega) ⟨_, rfl, rfl, (pI_f (by unfold kStep; (first | rw [if_pos (by omega)] | rw [if_neg (by omega)]); simp only [Bool.and_eq_true, decide_eq_true_eq]; intro q; obtain ⟨q1, q2⟩ := q; omega))⟩ rfl
    · refine v_iload hX d_Tab_isStep_60 1 rfl ?_
      refine v_iload_n hX d_Tab_isStep_62 3 rfl ?_
      refine v_aload_n hX d_Tab_isStep_63 2 rfl ?_
      refine g_get (i := 1) hX hj fl_Tab_30 d_Tab_isStep_64 (by omega) a1 rfl ?_
      refine v_iload_n hX d_Tab_isStep_67 4 rfl ?_
      refine g_iald (i := 16) hX hj d_Tab_isStep_68 (by omega) a6 (by decide) (c) rfl (by omega) ?_
      refine v_iand (z := (((rows &&& (rK c)) : Nat) : Int)) hX d_Tab_isStep_69 (iv_and (rows) ((rK c))) ?_
      refine v_icmp_eq (tgt := 77) hX d_Tab_isStep_70 (by decide) (by have h1 := @Nat.and_le_left rows (rL c num); have h2 := @Nat.and_le_left rows (rL c (num - 1)); have h3 := @Nat.and_le_left rows (rK c); unfold ir; omega) (by have h1 := @Nat.and_le_left rows (rL c num); have h2 := @Nat.and_le_left rows (rL c (num - 1)); have h3 := @Nat.and_le_left rows (rK c); unfold ir; omega) (fun c70_6 => ?_) (fun c70_6 => ?_)
      · refine v_iconst hX (0) d_Tab_isStep_77 ?_
        exact hret _ _ _ _ d_Tab_isStep_78 (by have h1 := @Nat.and_le_left rows (rL c num); have h2 := @Nat.and_le_left rows (rL c (num - 1)); have h3 := @Nat.and_le_left rows (rK c); unfold ir; omega) ⟨_, rfl, rfl, (pI_f (by unfold kStep; (first | rw [if_pos (by omega)] | rw [if_neg (by omega)]); simp only [Bool.and_eq_true, decide_eq_true_eq]; intro q; obtain ⟨q1, q2⟩ := q; omega))⟩ rfl
      · refine v_iconst hX (1) d_Tab_isStep_73 ?_
        refine v_goto (tgt := 78) hX d_Tab_isStep_74 (by decide) ?_
        exact hret _ _ _ _ d_Tab_isStep_78 (by have h1 := @Nat.and_le_left rows (rL c num); have h2 := @Nat.and_le_left rows (rL c (num - 1)); have h3 := @Nat.and_le_left rows (rK c); unfold ir; omega) ⟨_, rfl, rfl, (pI_t (by unfold kStep; (first | rw [if_pos (by omega)] | rw [if_neg (by omega)]); simp only [Bool.and_eq_true, decide_eq_true_eq]; constructor <;> omega))⟩ rfl
  · refine v_iconst hX (0) d_Tab_isStep_35 ?_
    refine v_goto (tgt := 51) hX d_Tab_isStep_36 (by decide) ?_
    refine v_istore (lv' := [(5, .int (iv (0))), (4, .int (iv ((((rows &&& (rL c num)) : Nat) : Int)))), (0, .ref (ad 1)), (1, .int (iv (((rows : Nat) : Int)))), (2, .int (iv (((c : Nat) : Int)))), (3, .int (iv (((num : Nat) : Int))))]) hX d_Tab_isStep_51 (by decide) rfl ?_
    refine v_iload hX d_Tab_isStep_53 1 rfl ?_
    refine v_iload hX d_Tab_isStep_55 0 rfl ?_
    refine v_icmp_eq (tgt := 77) hX d_Tab_isStep_57 (by decide) (by have h1 := @Nat.and_le_left rows (rL c num); have h2 := @Nat.and_le_left rows (rL c (num - 1)); have h3 := @Nat.and_le_left rows (rK c); unfold ir; omega) (by have h1 := @Nat.and_le_left rows (rL c num); have h2 := @Nat.and_le_left rows (rL c (num - 1)); have h3 := @Nat.and_le_left rows (rK c); unfold ir; omega) (fun c57_7 => ?_) (fun c57_7 => ?_)
    · refine v_iconst hX (0) d_Tab_isStep_77 ?_
      exact hret _ _ _ _ d_Tab_isStep_78 (by have h1 := @Nat.and_le_left rows (rL c num); have h2 := @Nat.and_le_left rows (rL c (num - 1)); have h3 := @Nat.and_le_left rows (rK c); unfold ir; omega) ⟨_, rfl, rfl, (pI_f (by unfold kStep; (first | rw [if_pos (by omega)] | rw [if_neg (by omega)]); simp only [Bool.and_eq_true, decide_eq_true_eq]; intro q; obtain ⟨q1, q2⟩ := q; omega))⟩ rfl
    · refine v_iload hX d_Tab_isStep_60 1 rfl ?_
      refine v_iload_n hX d_Tab_isStep_62 3 rfl ?_
      refine v_aload_n hX d_Tab_isStep_63 2 rfl ?_
      refine g_get (i := 1) hX hj fl_Tab_30 d_Tab_isStep_64 (by omega) a1 rfl ?_
      refine v_iload_n hX d_Tab_isStep_67 4 rfl ?_
      refine g_iald (i := 16) hX hj d_Tab_isStep_68 (by omega) a6 (by decide) (c) rfl (by omega) ?_
      refine v_iand (z := (((rows &&& (rK c)) : Nat) : Int)) hX d_Tab_isStep_69 (iv_and (rows) ((rK c))) ?_
      refine v_icmp_eq (tgt := 77) hX d_Tab_isStep_70 (by decide) (by have h1 := @Nat.and_le_left rows (rL c num); have h2 := @Nat.and_le_left rows (rL c (num - 1)); have h3 := @Nat.and_le_left rows (rK c); unfold ir; omega) (by have h1 := @Nat.and_le_left rows (rL c num); have h2 := @Nat.and_le_left rows (rL c (num - 1)); have h3 := @Nat.and_le_left rows (rK c); unfold ir; omega) (fun c70_8 => ?_) (fun c70_8 => ?_)
      · refine v_iconst hX (0) d_Tab_isStep_77 ?_
        exact hret _ _ _ _ d_Tab_isStep_78 (by have h1 := @Nat.and_le_left rows (rL c num); have h2 := @Nat.and_le_left rows (rL c (num - 1)); have h3 := @Nat.and_le_left rows (rK c); unfold ir; omega) ⟨_, rfl, rfl, (pI_f (by unfold kStep; (first | rw [if_pos (by omega)] | rw [if_neg (by omega)]); simp only [Bool.and_eq_true, decide_eq_true_eq]; intro q; obtain ⟨q1, q2⟩ := q; omega))⟩ rfl
      · refine v_iconst hX (1) d_Tab_isStep_73 ?_
        refine v_goto (tgt := 78) hX d_Tab_isStep_74 (by decide) ?_
        exact hret _ _ _ _ d_Tab_isStep_78 (by have h1 := @Nat.and_le_left rows (rL c num); have h2 := @Nat.and_le_left rows (rL c (num - 1)); have h3 := @Nat.and_le_left rows (rK c); unfold ir; omega) ⟨_, rfl, rfl, (pI_t (by unfold kStep; (first | rw [if_pos (by omega)] | rw [if_neg (by omega)]); simp only [Bool.and_eq_true, decide_eq_true_eq]; constructor <;> omega))⟩ rfl

set_option maxHeartbeats 1000000 in
set_option maxRecDepth 100000 in
theorem m_Tab_isGrouping {G : xG} {f0 : xF} {ad : Nat → Nat} (hj : adOk ad 400) {σ : xF} {n : Nat} {val : Nat → Nat → Int} {cl so rC rK : Nat → Nat} {rL : Nat → Nat → Nat} (hT : pTab G ad σ n val cl so rC rK rL) (hB : bTab n cl so rC rK rL) (rows c num : Nat) (hR : rows < 16777216) (hc : c < 4) (hn : num ≤ 63) : ∀ l, gI l G f0 ad 400 y_Tab_isGrouping (.code y_Tab_isGrouping c_Tab_isGrouping 6 (some (.boolean))) rm_Tab_isGrouping [.ref (ad 1), .int (iv (((rows : Nat) : Int))), .int (iv (((c : Nat) : Int))), .int (iv (((num : Nat) : Int)))] σ (fun z σ' => σ' = σ ∧ z = pI (kGrp rL rows c num = true)) := by
  intro l
  refine mI_of (rt := .boolean) (by decide) (Nat.le_of_ble_eq_true rfl) (fun X hX hret => ?_)
  show vV G X 0 0 0 [(0, .ref (ad 1)), (1, .int (iv (((rows : Nat) : Int)))), (2, .int (iv (((c : Nat) : Int)))), (3, .int (iv (((num : Nat) : Int))))] [] (ov f0 ad 400 σ)
  obtain ⟨a1, a2, a3, a4, a5, a6, a7, a8, a9⟩ := id hT
  obtain ⟨b1, b2, b3, b4, b5, b6⟩ := id hB
  refine v_iload_n hX d_Tab_isGrouping_0 2 rfl ?_
  refine g_callSI (As := [.int (iv (((c : Nat) : Int)))]) (st := []) hX (k0_Bs_isColumn (((c : Nat) : Int)) (by first | assumption | (unfold ir at *; omega))) cl_Tab_36 d_Tab_isGrouping_1 rfl ⟨by decide, by decide⟩ ⟨by decide, by decide⟩ (Nat.le_of_ble_eq_true rfl) (fun z1 hz2 hp3 => ?_)
  have z1e : z1 = 1 := hp3.trans (if_pos (by omega))
  subst z1e
  refine v_if_ne (tgt := 9) hX d_Tab_isGrouping_4 (by decide) (by unfold ir; omega) (fun c9 => ?_) (fun c9 => absurd c9 (by omega))
  refine v_iconst hX (0) d_Tab_isGrouping_9 ?_
  refine v_istore (lv' := [(4, .int (iv (0))), (0, .ref (ad 1)), (1, .int (iv (((rows : Nat) : Int)))), (2, .int (iv (((c : Nat) : Int)))), (3, .int (iv (((num : Nat) : Int))))]) hX d_Tab_isGrouping_10 (by decide) rfl ?_
  refine v_iconst hX (0) d_Tab_isGrouping_12 ?_
  refine v_istore (lv' := [(5, .int (iv (0))), (4, .int (iv (0))), (0, .ref (ad 1)), (1, .int (iv (((rows : Nat) : Int)))), (2, .int (iv (((c : Nat) : Int)))), (3, .int (iv (((num : Nat) : Int))))]) hX d_Tab_isGrouping_13 (by decide) rfl ?_
  have LOOP : ∀ (fuel : Nat) (k : Nat) (h : Nat), 6 - k < fuel → (k ≤ 6) → (h = kHad rL rows c k) → vV G X 0 0 15 [(0, .ref (ad 1)), (1, .int (iv (((rows : Nat) : Int)))), (2, .int (iv (((c : Nat) : Int)))), (3, .int (iv (((num : Nat) : Int)))), (4, .int (iv (((h : Nat) : Int)))), (5, .int (iv (((k : Nat) : Int))))] [] (ov f0 ad 400 σ) := by
    intro fuel
    induction fuel with
    | zero => intro k h hm; exact absurd hm (Nat.not_lt_zero _)
    | succ fuel ih_LOOP =>
      intro k h hm hk hh
      have hk2 : 2 ^ k ≤ 2 ^ 6 := Nat.pow_le_pow_right (by decide) hk
      have hk3 := kHad_lt rL rows c k
      refine v_iload hX d_Tab_isGrouping_15 5 rfl ?_
      refine v_iconst hX (5) d_Tab_isGrouping_17 ?_
      refine v_icmp_gt (tgt := 52) hX d_Tab_isGrouping_18 (by decide) (by unfold ir; omega) (by unfold ir; omega) (fun c18_2 => ?_) (fun c18_2 => ?_)
      · have ek : k = 6 := by omega
        subst ek
        subst hh
        refine v_iload hX d_Tab_isGrouping_52 4 rfl ?_
        refine v_iload hX d_Tab_isGrouping_54 4 rfl ?_
        refine v_ineg hX d_Tab_isGrouping_56 ?_
        refine v_iand (z := ((low (kHad rL rows c 6) : Nat) : Int)) hX d_Tab_isGrouping_57 (iv_low _ hk3) ?_
        refine v_istore (lv' := [(5, .int (iv ((((low (kHad rL rows c 6)) : Nat) : Int)))), (0, .ref (ad 1)), (1, .int (iv (((rows : Nat) : Int)))), (2, .int (iv (((c : Nat) : Int)))), (3, .int (iv (((num : Nat) : Int)))), (4, .int (iv ((((kHad rL rows c 6) : Nat) : Int))))]) hX d_Tab_isGrouping_58 (by decide) rfl ?_
        refine v_iload_n hX d_Tab_isGrouping_60 4 rfl ?_
        refine v_iload hX d_Tab_isGrouping_61 5 rfl ?_
        refine v_iconst hX (-1) d_Tab_isGrouping_63 ?_
        refine v_ixor (z := (-1 - (((kHad rL rows c 6) : Nat) : Int))) hX d_Tab_isGrouping_64 (iv_not ((kHad rL rows c 6))) ?_
        refine v_iand (z := (((nd num (kHad rL rows c 6)) : Nat) : Int)) hX d_Tab_isGrouping_65 (iv_andnot (num) ((kHad rL rows c 6))) ?_
        refine v_if_ne (tgt := 86) hX d_Tab_isGrouping_66 (by decide) (by have h1 := nd_le num (kHad rL rows c 6); unfold ir; omega) (fun c66_3 => ?_) (fun c66_3 => ?_)
        · refine v_iconst hX (0) d_Tab_isGrouping_86 ?_
          exact hret _ _ _ _ d_Tab_isGrouping_87 (by unfold ir; omega) ⟨_, rfl, rfl, (pI_f (by unfold kGrp; simp only [Bool.and_eq_true, decide_eq_true_eq]; intro q; obtain ⟨⟨q1, q2⟩, q3⟩ := q; omega))⟩ rfl
        · refine v_iload_n hX d_Tab_isGrouping_69 4 rfl ?_
          refine v_iload hX d_Tab_isGrouping_70 0 rfl ?_
          refine v_iand (z := (((num &&& (low (kHad rL rows c 6))) : Nat) : Int)) hX d_Tab_isGrouping_72 (iv_and (num) ((low (kHad rL rows c 6)))) ?_
          refine v_if_eq (tgt := 86) hX d_Tab_isGrouping_73 (by decide) (by have h2 := @Nat.and_le_left num (low (kHad rL rows c 6)); unfold ir; omega) (fun c73_4 => ?_) (fun c73_4 => ?_)
          · refine v_iconst hX (0) d_Tab_isGrouping_86 ?_
            exact hret _ _ _ _ d_Tab_isGrouping_87 (by unfold ir; omega) ⟨_, rfl, rfl, (pI_f (by unfold kGrp; simp only [Bool.and_eq_true, decide_eq_true_eq]; intro q; obtain ⟨⟨q1, q2⟩, q3⟩ := q; omega))⟩ rfl
          · refine v_iload_n hX d_Tab_isGrouping_76 4 rfl ?_
            refine v_iload hX d_Tab_isGrouping_77 5 rfl ?_
            refine v_icmp_eq (tgt := 86) hX d_Tab_isGrouping_79 (by decide) (by have h3 := kHad_lt rL rows c 6; unfold ir; omega) (by have h3 := kHad_lt rL rows c 6; unfold ir; omega) (fun c79_5 => ?_) (fun c79_5 => ?_)
            · refine v_iconst hX (0) d_Tab_isGrouping_86 ?_
              exact hret _ _ _ _ d_Tab_isGrouping_87 (by unfold ir; omega) ⟨_, rfl, rfl, (pI_f (by unfold kGrp; simp only [Bool.and_eq_true, decide_eq_true_eq]; intro q; obtain ⟨⟨q1, q2⟩, q3⟩ := q; omega))⟩ rfl
            · refine v_iconst hX (1) d_Tab_isGrouping_82 ?_
              refine v_goto (tgt := 87) hX d_Tab_isGrouping_83 (by decide) ?_
              exact hret _ _ _ _ d_Tab_isGrouping_87 (by unfold ir; omega) ⟨_, rfl, rfl, (pI_t (by unfold kGrp; simp only [Bool.and_eq_true, decide_eq_true_eq]; refine ⟨⟨?_, ?_⟩, ?_⟩ <;> omega))⟩ rfl
      · refine v_iload_n hX d_Tab_isGrouping_21 1 rfl ?_
        refine v_aload_n hX d_Tab_isGrouping_22 0 rfl ?_
        refine g_get (i := 1) hX hj fl_Tab_33 d_Tab_isGrouping_23 (by omega) a1 rfl ?_
        refine v_iload_n hX d_Tab_isGrouping_26 2 rfl ?_
        refine g_aaldA (i := 17) hX hj d_Tab_isGrouping_27 (by omega) a7 rfl (by decide) (c) rfl (by omega) (if_pos (by omega)) ?_
        refine v_iconst hX (1) d_Tab_isGrouping_28 ?_
        refine v_iload hX d_Tab_isGrouping_29 5 rfl ?_
        refine v_ishl (z := (((2 ^ k) : Nat) : Int)) hX d_Tab_isGrouping_31 (iv_shl1 (k) (by omega)) ?_
        refine g_iald (i := 24 + c) hX hj d_Tab_isGrouping_32 (by omega) (a8 c (by omega)) (by decide) ((2 ^ k)) rfl (by omega) ?_
        refine v_iand (z := (((rows &&& (rL c (2 ^ k))) : Nat) : Int)) hX d_Tab_isGrouping_33 (iv_and (rows) ((rL c (2 ^ k)))) ?_
        refine v_if_eq (tgt := 46) hX d_Tab_isGrouping_34 (by decide) (by have h4 := @Nat.and_le_left rows (rL c (2 ^ k)); unfold ir; omega) (fun c34_6 => ?_) (fun c34_6 => ?_)
        · refine v_iincN (a := k) (n := 1) (lv' := [(5, .int (iv ((((k + 1) : Nat) : Int)))), (0, .ref (ad 1)), (1, .int (iv (((rows : Nat) : Int)))), (2, .int (iv (((c : Nat) : Int)))), (3, .int (iv (((num : Nat) : Int)))), (4, .int (iv (((h : Nat) : Int))))]) hX d_Tab_isGrouping_46 rfl 5 rfl (by decide) rfl ?_
          refine v_goto (tgt := 15) hX d_Tab_isGrouping_49 (by decide) ?_
          refine v_lv [1, 2, 3, 4, 5, 0] rfl ?_
          exact ih_LOOP (k + 1) (h) (by omega) (by omega) (by rw [hh]; show _ = kHad rL rows c (k + 1); rw [kHad, if_pos (by omega)])
        · refine v_iload hX d_Tab_isGrouping_37 4 rfl ?_
          refine v_iconst hX (1) d_Tab_isGrouping_39 ?_
          refine v_iload hX d_Tab_isGrouping_40 5 rfl ?_
          refine v_ishl (z := (((2 ^ k) : Nat) : Int)) hX d_Tab_isGrouping_42 (iv_shl1 (k) (by omega)) ?_
          refine v_ior (z := (((h ||| (2 ^ k)) : Nat) : Int)) hX d_Tab_isGrouping_43 (iv_or (h) ((2 ^ k))) ?_
          refine v_istore (lv' := [(4, .int (iv ((((h ||| (2 ^ k)) : Nat) : Int)))), (0, .ref (ad 1)), (1, .int (iv (((rows : Nat) : Int)))), (2, .int (iv (((c : Nat) : Int)))), (3, .int (iv (((num : Nat) : Int)))), (5, .int (iv (((k : Nat) : Int))))]) hX d_Tab_isGrouping_44 (by decide) rfl ?_
          refine v_iincN (a := k) (n := 1) (lv' := [(5, .int (iv ((((k + 1) : Nat) : Int)))), (4, .int (iv ((((h ||| (2 ^ k)) : Nat) : Int)))), (0, .ref (ad 1)), (1, .int (iv (((rows : Nat) : Int)))), (2, .int (iv (((c : Nat) : Int)))), (3, .int (iv (((num : Nat) : Int))))]) hX d_Tab_isGrouping_46 rfl 5 rfl (by decide) rfl ?_
          refine v_goto (tgt := 15) hX d_Tab_isGrouping_49 (by decide) ?_
          refine v_lv [2, 3, 4, 5, 1, 0] rfl ?_
          exact ih_LOOP (k + 1) ((h ||| (2 ^ k))) (by omega) (by omega) (by rw [hh]; show _ = kHad rL rows c (k + 1); rw [kHad, if_neg (by omega)])
  refine v_lv [2, 3, 4, 5, 1, 0] rfl ?_
  exact LOOP _ (0) (0) (Nat.lt_succ_self _) (by decide) rfl

set_option maxHeartbeats 1000000 in
set_option maxRecDepth 100000 in
theorem m_Tab_canCut {G : xG} {f0 : xF} {ad : Nat → Nat} (hj : adOk ad 400) {σ : xF} {n : Nat} {val : Nat → Nat → Int} {cl so rC rK : Nat → Nat} {rL : Nat → Nat → Nat} (hT : pTab G ad σ n val cl so rC rK rL) (hB : bTab n cl so rC rK rL) (rows c : Nat) (num : Int) (hR : rows < 16777216) (hc : c < 4) (hn : ir num) : ∀ l, gI l G f0 ad 400 y_Tab_canCut (.code y_Tab_canCut c_Tab_canCut 4 (some (.boolean))) rm_Tab_canCut [.ref (ad 1), .int (iv (((rows : Nat) : Int))), .int (iv (((c : Nat) : Int))), .int (iv (num))] σ (fun z σ' => σ' = σ ∧ z = pI (0 ≤ num ∧ kCan so rK rL rows c num.toNat = true)) := by
  intro l
  refine mI_of (rt := .boolean) (by decide) (Nat.le_of_ble_eq_true rfl) (fun X hX hret => ?_)
  show vV G X 0 0 0 [(0, .ref (ad 1)), (1, .int (iv (((rows : Nat) : Int)))), (2, .int (iv (((c : Nat) : Int)))), (3, .int (iv (num)))] [] (ov f0 ad 400 σ)
  obtain ⟨a1, a2, a3, a4, a5, a6, a7, a8, a9⟩ := id hT
  obtain ⟨b1, b2, b3, b4, b5, b6⟩ := id hB
  refine v_iload_n hX d_Tab_canCut_0 2 rfl ?_
  refine g_callSI (As := [.int (iv (((c : Nat) : Int)))]) (st := []) hX (k0_Bs_isColumn (((c : Nat) : Int)) (by first | assumption | (unfold ir at *; omega))) cl_Tab_36 d_Tab_canCut_1 rfl ⟨by decide, by decide⟩ ⟨by decide, by decide⟩ (Nat.le_of_ble_eq_true rfl) (fun z1 hz2 hp3 => ?_)
  have z1e : z1 = 1 := hp3.trans (if_pos (by omega))
  subst z1e
  refine v_if_eq (tgt := 20) hX d_Tab_canCut_4 (by decide) (by first | assumption | (have := b3 c; unfold ir at *; omega)) (fun c9 => absurd c9 (by omega)) (fun c9 => ?_)
  refine v_iload_n hX d_Tab_canCut_7 3 rfl ?_
  refine v_if_lt (tgt := 20) hX d_Tab_canCut_8 (by decide) (by first | assumption | (have := b3 c; unfold ir at *; omega)) (fun c8_2 => ?_) (fun c8_2 => ?_)
  · refine v_iconst hX (0) d_Tab_canCut_20 ?_
    exact hret _ _ _ _ d_Tab_canCut_21 (by unfold ir; omega) ⟨_, rfl, rfl, pI_f (fun q => by obtain ⟨q0, q⟩ := q; rcases kCan_or q with ⟨g1, g2, g3⟩ | ⟨g1, g2, g3⟩ <;> first | omega | (exact absurd g3 (by assumption)))⟩ rfl
  · refine v_iload_n hX d_Tab_canCut_11 3 rfl ?_
    refine v_aload_n hX d_Tab_canCut_12 0 rfl ?_
    refine v_iload_n hX d_Tab_canCut_13 2 rfl ?_
    refine g_callVI (As := [.int (iv (((c : Nat) : Int)))]) (st := [.int (iv (num))]) hX hj (i := 1) (by omega) a1 (m_Tab_lastNumber hj hT hB c (by omega)) cl_Tab_47 d_Tab_canCut_14 rfl ⟨by decide, by decide⟩ ⟨by decide, by decide⟩ (Nat.le_of_ble_eq_true rfl) (fun z4 σ5 hz6 hp7 => ?_)
    obtain ⟨he8, hv9⟩ := hp7
    rw [he8]
    have hl1 : so c = 1 → z4 = 63 := fun h => hv9.trans (if_pos h)
    have hl2 : ¬ so c = 1 → z4 = 100 := fun h => hv9.trans (if_neg h)
    refine v_icmp_le (tgt := 22) hX d_Tab_canCut_17 (by decide) (by first | assumption | (have := b3 c; unfold ir at *; omega)) (by first | assumption | (have := b3 c; unfold ir at *; omega)) (fun c17_3 => ?_) (fun c17_3 => ?_)
    · refine v_aload_n hX d_Tab_canCut_22 0 rfl ?_
      refine g_get (i := 1) hX hj fl_Tab_24 d_Tab_canCut_23 (by omega) a1 rfl ?_
      refine v_iload_n hX d_Tab_canCut_26 2 rfl ?_
      refine g_iald (i := 14) hX hj d_Tab_canCut_27 (by omega) a4 (by decide) (c) rfl (by omega) ?_
      refine v_iconst hX (1) d_Tab_canCut_28 ?_
      refine v_icmp_ne (tgt := 42) hX d_Tab_canCut_29 (by decide) (by first | assumption | (have := b3 c; unfold ir at *; omega)) (by first | assumption | (have := b3 c; unfold ir at *; omega)) (fun c29_4 => ?_) (fun c29_4 => ?_)
      · refine v_aload_n hX d_Tab_canCut_42 0 rfl ?_
        refine v_iload_n hX d_Tab_canCut_43 1 rfl ?_
        refine v_iload_n hX d_Tab_canCut_44 2 rfl ?_
        refine v_iload_n hX d_Tab_canCut_45 3 rfl ?_
        refine v_top (x' := iv ((num.toNat : Nat) : Int)) (congrArg iv (by omega)) ?_
        refine g_callVI (As := [.int (iv (((rows : Nat) : Int))), .int (iv (((c : Nat) : Int))), .int (iv (((num.toNat : Nat) : Int)))]) (st := []) hX hj (i := 1) (by omega) a1 (m_Tab_isStep hj hT hB rows c num.toNat hR hc (by omega)) cl_Tab_69 d_Tab_canCut_46 rfl ⟨by decide, by decide⟩ ⟨by decide, by decide⟩ (Nat.le_of_ble_eq_true rfl) (fun z10 σ11 hz12 hp13 => ?_)
        obtain ⟨he14, hv15⟩ := hp13
        rw [he14]
        by_cases qz10 : kStep rK rL rows c num.toNat = true
        · have z10e : z10 = 1 := hv15.trans (if_pos qz10)
          subst z10e
          exact hret _ _ _ _ d_Tab_canCut_49 (by unfold ir; omega) ⟨_, rfl, rfl, pI_t ⟨by omega, (by first | exact kCan_g (by omega) (by omega) (by assumption) | exact kCan_s (by omega) (by omega) (by assumption))⟩⟩ rfl
        · have z10e : z10 = 0 := hv15.trans (if_neg qz10)
          subst z10e
          exact hret _ _ _ _ d_Tab_canCut_49 (by unfold ir; omega) ⟨_, rfl, rfl, pI_f (fun q => by obtain ⟨q0, q⟩ := q; rcases kCan_or q with ⟨g1, g2, g3⟩ | ⟨g1, g2, g3⟩ <;> first | omega | (exact absurd g3 (by assumption)))⟩ rfl
      · refine v_aload_n hX d_Tab_canCut_32 0 rfl ?_
        refine v_iload_n hX d_Tab_canCut_33 1 rfl ?_
        refine v_iload_n hX d_Tab_canCut_34 2 rfl ?_
        refine v_iload_n hX d_Tab_canCut_35 3 rfl ?_
        refine v_top (x' := iv ((num.toNat : Nat) : Int)) (congrArg iv (by omega)) ?_
        refine g_callVI (As := [.int (iv (((rows : Nat) : Int))), .int (iv (((c : Nat) : Int))), .int (iv (((num.toNat : Nat) : Int)))]) (st := []) hX hj (i := 1) (by omega) a1 (m_Tab_isGrouping hj hT hB rows c num.toNat hR hc (by omega)) cl_Tab_66 d_Tab_canCut_36 rfl ⟨by decide, by decide⟩ ⟨by decide, by decide⟩ (Nat.le_of_ble_eq_true rfl) (fun z16 σ17 hz18 hp19 => ?_)
        obtain ⟨he20, hv21⟩ := hp19
        rw [he20]
        by_cases qz16 : kGrp rL rows c num.toNat = true
        · have z16e : z16 = 1 := hv21.trans (if_pos qz16)
          subst z16e
          refine v_goto (tgt := 49) hX d_Tab_canCut_39 (by decide) ?_
          exact hret _ _ _ _ d_Tab_canCut_49 (by unfold ir; omega) ⟨_, rfl, rfl, pI_t ⟨by omega, (by first | exact kCan_g (by omega) (by omega) (by assumption) | exact kCan_s (by omega) (by omega) (by assumption))⟩⟩ rfl
        · have z16e : z16 = 0 := hv21.trans (if_neg qz16)
          subst z16e
          refine v_goto (tgt := 49) hX d_Tab_canCut_39 (by decide) ?_
          exact hret _ _ _ _ d_Tab_canCut_49 (by unfold ir; omega) ⟨_, rfl, rfl, pI_f (fun q => by obtain ⟨q0, q⟩ := q; rcases kCan_or q with ⟨g1, g2, g3⟩ | ⟨g1, g2, g3⟩ <;> first | omega | (exact absurd g3 (by assumption)))⟩ rfl
    · refine v_iconst hX (0) d_Tab_canCut_20 ?_
      exact hret _ _ _ _ d_Tab_canCut_21 (by unfold ir; omega) ⟨_, rfl, rfl, pI_f (fun q => by obtain ⟨q0, q⟩ := q; rcases kCan_or q with ⟨g1, g2, g3⟩ | ⟨g1, g2, g3⟩ <;> first | omega | (exact absurd g3 (by assumption)))⟩ rfl

set_option maxHeartbeats 1000000 in
set_option maxRecDepth 100000 in
theorem m_Tab_takes {G : xG} {f0 : xF} {ad : Nat → Nat} (hj : adOk ad 400) {σ : xF} {n : Nat} {val : Nat → Nat → Int} {cl so rC rK : Nat → Nat} {rL : Nat → Nat → Nat} (hT : pTab G ad σ n val cl so rC rK rL) (hB : bTab n cl so rC rK rL) (i : Nat) (hi : i < 400) (a : Nat → Int) (ha : σ i = eJ G 4 a) (hr : ∀ q, ir (a q)) : ∀ l, gI l G f0 ad 400 y_Tab_takes (.code y_Tab_takes c_Tab_takes 4 (some (.boolean))) rm_Tab_takes [.ref (ad 1), .ref (ad i)] σ (fun z σ' => σ' = σ ∧ z = pI (tks so a = true)) := by
  intro l
  refine mI_of (rt := .boolean) (by decide) (Nat.le_of_ble_eq_true rfl) (fun X hX hret => ?_)
  show vV G X 0 0 0 [(0, .ref (ad 1)), (1, .ref (ad i))] [] (ov f0 ad 400 σ)
  obtain ⟨a1, a2, a3, a4, a5, a6, a7, a8, a9⟩ := id hT
  obtain ⟨b1, b2, b3, b4, b5, b6⟩ := id hB
  refine v_iconst hX (0) d_Tab_takes_0 ?_
  refine v_istore_n (lv' := [(2, .int (iv (0))), (0, .ref (ad 1)), (1, .ref (ad i))]) hX d_Tab_takes_1 rfl (by decide) rfl ?_
  have LOOP : ∀ (fuel : Nat) (c : Nat), 4 - c < fuel → (c ≤ 4) → (∀ q, q < c → tk (so q) (a q) = true) → vV G X 0 0 2 [(0, .ref (ad 1)), (1, .ref (ad i)), (2, .int (iv (((c : Nat) : Int))))] [] (ov f0 ad 400 σ) := by
    intro fuel
    induction fuel with
    | zero => intro c hm; exact absurd hm (Nat.not_lt_zero _)
    | succ fuel ih_LOOP =>
      intro c hm hc hh
      refine v_iload_n hX d_Tab_takes_2 2 rfl ?_
      refine v_iconst hX (4) d_Tab_takes_3 ?_
      refine v_icmp_ge (tgt := 52) hX d_Tab_takes_4 (by decide) (by first | exact hr _ | (have := b3 c; unfold ir; omega)) (by first | exact hr _ | (have := b3 c; unfold ir; omega)) (fun c4_1 => ?_) (fun c4_1 => ?_)
      · refine v_iconst hX (1) d_Tab_takes_52 ?_
        exact hret _ _ _ _ d_Tab_takes_53 (by unfold ir; omega) ⟨_, rfl, rfl, pI_t (tks_iff.mpr (fun q h => hh q (by omega)))⟩ rfl
      · refine v_iload_n hX d_Tab_takes_7 2 rfl ?_
        refine v_aload_n hX d_Tab_takes_8 1 rfl ?_
        refine g_alenJ (i := i) hX hj d_Tab_takes_9 (by omega) ha ?_
        refine v_icmp_ge (tgt := 52) hX d_Tab_takes_10 (by decide) (by first | exact hr _ | (have := b3 c; unfold ir; omega)) (by first | exact hr _ | (have := b3 c; unfold ir; omega)) (fun c10_2 => absurd c10_2 (by omega)) (fun c10_2 => ?_)
        refine v_aload_n hX d_Tab_takes_13 0 rfl ?_
        refine g_get (i := 1) hX hj fl_Tab_24 d_Tab_takes_14 (by omega) a1 rfl ?_
        refine v_iload_n hX d_Tab_takes_17 2 rfl ?_
        refine g_iald (i := 14) hX hj d_Tab_takes_18 (by omega) a4 (by decide) (c) rfl (by omega) ?_
        refine v_iconst hX (1) d_Tab_takes_19 ?_
        refine v_icmp_ne (tgt := 27) hX d_Tab_takes_20 (by decide) (by first | exact hr _ | (have := b3 c; unfold ir; omega)) (by first | exact hr _ | (have := b3 c; unfold ir; omega)) (fun c20_3 => ?_) (fun c20_3 => ?_)
        · refine v_bipush hX (100) d_Tab_takes_27 rfl ?_
          refine v_istore_n (lv' := [(3, .int (iv (100))), (0, .ref (ad 1)), (1, .ref (ad i)), (2, .int (iv (((c : Nat) : Int))))]) hX d_Tab_takes_29 rfl (by decide) rfl ?_
          refine v_aload_n hX d_Tab_takes_30 2 rfl ?_
          refine v_iload_n hX d_Tab_takes_31 3 rfl ?_
          refine g_iald (i := i) hX hj d_Tab_takes_32 (by omega) ha (by decide) (c) rfl (by omega) ?_
          refine v_iconst hX (-1) d_Tab_takes_33 ?_
          refine v_icmp_lt (tgt := 44) hX d_Tab_takes_34 (by decide) (by first | exact hr _ | (have := b3 c; unfold ir; omega)) (by first | exact hr _ | (have := b3 c; unfold ir; omega)) (fun c34_4 => ?_) (fun c34_4 => ?_)
          · refine v_iconst hX (0) d_Tab_takes_44 ?_
            exact hret _ _ _ _ d_Tab_takes_45 (by unfold ir; omega) ⟨_, rfl, rfl, pI_f (fun q => by have g := tk_of (tks_iff.mp q c (by omega)); omega)⟩ rfl
          · refine v_aload_n hX d_Tab_takes_37 2 rfl ?_
            refine v_iload_n hX d_Tab_takes_38 3 rfl ?_
            refine g_iald (i := i) hX hj d_Tab_takes_39 (by omega) ha (by decide) (c) rfl (by omega) ?_
            refine v_iload_n hX d_Tab_takes_40 0 rfl ?_
            refine v_icmp_le (tgt := 46) hX d_Tab_takes_41 (by decide) (by first | exact hr _ | (have := b3 c; unfold ir; omega)) (by first | exact hr _ | (have := b3 c; unfold ir; omega)) (fun c41_5 => ?_) (fun c41_5 => ?_)
            · refine v_iincN (a := c) (n := 1) (lv' := [(2, .int (iv ((((c + 1) : Nat) : Int)))), (3, .int (iv (100))), (0, .ref (ad 1)), (1, .ref (ad i))]) hX d_Tab_takes_46 rfl 3 rfl (by decide) rfl ?_
              refine v_goto (tgt := 2) hX d_Tab_takes_49 (by decide) ?_
              refine v_lv [2, 3, 0] rfl ?_
              exact ih_LOOP (c + 1) (by omega) (by omega) (lt_s (p := fun q => tk (so q) (a q) = true) hh (tk_s (by omega) (by omega) (by omega)))
            · refine v_iconst hX (0) d_Tab_takes_44 ?_
              exact hret _ _ _ _ d_Tab_takes_45 (by unfold ir; omega) ⟨_, rfl, rfl, pI_f (fun q => by have g := tk_of (tks_iff.mp q c (by omega)); omega)⟩ rfl
        · refine v_iconst hX (5) d_Tab_takes_23 ?_
          refine v_goto (tgt := 29) hX d_Tab_takes_24 (by decide) ?_
          refine v_istore_n (lv' := [(3, .int (iv (5))), (0, .ref (ad 1)), (1, .ref (ad i)), (2, .int (iv (((c : Nat) : Int))))]) hX d_Tab_takes_29 rfl (by decide) rfl ?_
          refine v_aload_n hX d_Tab_takes_30 2 rfl ?_
          refine v_iload_n hX d_Tab_takes_31 3 rfl ?_
          refine g_iald (i := i) hX hj d_Tab_takes_32 (by omega) ha (by decide) (c) rfl (by omega) ?_
          refine v_iconst hX (-1) d_Tab_takes_33 ?_
          refine v_icmp_lt (tgt := 44) hX d_Tab_takes_34 (by decide) (by first | exact hr _ | (have := b3 c; unfold ir; omega)) (by first | exact hr _ | (have := b3 c; unfold ir; omega)) (fun c34_6 => ?_) (fun c34_6 => ?_)
          · refine v_iconst hX (0) d_Tab_takes_44 ?_
            exact hret _ _ _ _ d_Tab_takes_45 (by unfold ir; omega) ⟨_, rfl, rfl, pI_f (fun q => by have g := tk_of (tks_iff.mp q c (by omega)); omega)⟩ rfl
          · refine v_aload_n hX d_Tab_takes_37 2 rfl ?_
            refine v_iload_n hX d_Tab_takes_38 3 rfl ?_
            refine g_iald (i := i) hX hj d_Tab_takes_39 (by omega) ha (by decide) (c) rfl (by omega) ?_
            refine v_iload_n hX d_Tab_takes_40 0 rfl ?_
            refine v_icmp_le (tgt := 46) hX d_Tab_takes_41 (by decide) (by first | exact hr _ | (have := b3 c; unfold ir; omega)) (by first | exact hr _ | (have := b3 c; unfold ir; omega)) (fun c41_7 => ?_) (fun c41_7 => ?_)
            · refine v_iincN (a := c) (n := 1) (lv' := [(2, .int (iv ((((c + 1) : Nat) : Int)))), (3, .int (iv (5))), (0, .ref (ad 1)), (1, .ref (ad i))]) hX d_Tab_takes_46 rfl 3 rfl (by decide) rfl ?_
              refine v_goto (tgt := 2) hX d_Tab_takes_49 (by decide) ?_
              refine v_lv [2, 3, 0] rfl ?_
              exact ih_LOOP (c + 1) (by omega) (by omega) (lt_s (p := fun q => tk (so q) (a q) = true) hh (tk_s (by omega) (by omega) (by omega)))
            · refine v_iconst hX (0) d_Tab_takes_44 ?_
              exact hret _ _ _ _ d_Tab_takes_45 (by unfold ir; omega) ⟨_, rfl, rfl, pI_f (fun q => by have g := tk_of (tks_iff.mp q c (by omega)); omega)⟩ rfl
  refine v_lv [1, 2, 0] rfl ?_
  exact LOOP _ (0) (Nat.lt_succ_self _) (by decide) (fun q h => absurd h (Nat.not_lt_zero _))

set_option maxHeartbeats 1000000 in
set_option maxRecDepth 100000 in
theorem m_Tab_goesLeft {G : xG} {f0 : xF} {ad : Nat → Nat} (hj : adOk ad 400) {σ : xF} {n : Nat} {val : Nat → Nat → Int} {cl so rC rK : Nat → Nat} {rL : Nat → Nat → Nat} (hT : pTab G ad σ n val cl so rC rK rL) (hB : bTab n cl so rC rK rL) (i j g : Nat) (hi : i < 400) (hjj : j < 400) (a : Nat → Int) (ha : σ i = eJ G 4 a) (c num side : Nat) (hcu : pCut ad σ j g c num side) (hc : c < 4) (hn : num ≤ 100) (hs : side ≤ 1) (hv : tk (so c) (a c) = true) : ∀ l, gI l G f0 ad 400 y_Tab_goesLeft (.code y_Tab_goesLeft c_Tab_goesLeft 4 (some (.boolean))) rm_Tab_goesLeft [.ref (ad 1), .ref (ad i), .ref (ad j)] σ (fun z σ' => σ' = σ ∧ z = pI (kGo (so c) (a c) num side = true)) := by
  intro l
  refine mI_of (rt := .boolean) (by decide) (Nat.le_of_ble_eq_true rfl) (fun X hX hret => ?_)
  show vV G X 0 0 0 [(0, .ref (ad 1)), (1, .ref (ad i)), (2, .ref (ad j))] [] (ov f0 ad 400 σ)
  obtain ⟨a1, a2, a3, a4, a5, a6, a7, a8, a9⟩ := id hT
  obtain ⟨b1, b2, b3, b4, b5, b6⟩ := id hB
  have hv0 := tk_of hv
  obtain ⟨v1, v2, v3⟩ := hv0
  refine v_aload_n hX d_Tab_goesLeft_0 2 rfl ?_
  refine g_get (i := j) hX hj fl_Tab_55 d_Tab_goesLeft_1 (by omega) hcu rfl ?_
  refine v_istore_n (lv' := [(3, .int (iv (((c : Nat) : Int)))), (0, .ref (ad 1)), (1, .ref (ad i)), (2, .ref (ad j))]) hX d_Tab_goesLeft_4 rfl (by decide) rfl ?_
  refine v_iload_n hX d_Tab_goesLeft_5 0 rfl ?_
  refine g_callSI (As := [.int (iv (((c : Nat) : Int)))]) (st := []) hX (k0_Bs_isColumn (((c : Nat) : Int)) (by first | assumption | (unfold ir at *; omega))) cl_Tab_36 d_Tab_goesLeft_6 rfl ⟨by decide, by decide⟩ ⟨by decide, by decide⟩ (Nat.le_of_ble_eq_true rfl) (fun z1 hz2 hp3 => ?_)
  have z1e : z1 = 1 := hp3.trans (if_pos (by omega))
  subst z1e
  refine v_if_eq (tgt := 25) hX d_Tab_goesLeft_9 (by decide) (by unfold ir; omega) (fun c9 => absurd c9 (by omega)) (fun c9 => ?_)
  refine v_iload_n hX d_Tab_goesLeft_12 0 rfl ?_
  refine v_aload_n hX d_Tab_goesLeft_13 2 rfl ?_
  refine g_alenJ (i := i) hX hj d_Tab_goesLeft_14 (by omega) ha ?_
  refine v_icmp_ge (tgt := 25) hX d_Tab_goesLeft_15 (by decide) (by unfold ir; omega) (by unfold ir; omega) (fun c15_2 => absurd c15_2 (by omega)) (fun c15_2 => ?_)
  refine v_aload_n hX d_Tab_goesLeft_18 2 rfl ?_
  refine v_iload_n hX d_Tab_goesLeft_19 0 rfl ?_
  refine g_iald (i := i) hX hj d_Tab_goesLeft_20 (by omega) ha (by decide) (c) rfl (by omega) ?_
  refine v_iconst hX (-1) d_Tab_goesLeft_21 ?_
  refine v_icmp_ne (tgt := 38) hX d_Tab_goesLeft_22 (by decide) (by unfold ir; omega) (by unfold ir; omega) (fun c22_3 => ?_) (fun c22_3 => ?_)
  · refine v_aload_n hX d_Tab_goesLeft_38 1 rfl ?_
    refine v_iload_n hX d_Tab_goesLeft_39 0 rfl ?_
    refine v_aload_n hX d_Tab_goesLeft_40 3 rfl ?_
    refine g_get (i := j) hX hj fl_Tab_63 d_Tab_goesLeft_41 (by omega) hcu rfl ?_
    refine v_aload_n hX d_Tab_goesLeft_44 2 rfl ?_
    refine v_iload_n hX d_Tab_goesLeft_45 0 rfl ?_
    refine g_iald (i := i) hX hj d_Tab_goesLeft_46 (by omega) ha (by decide) (c) rfl (by omega) ?_
    refine v_top (x' := iv (((a c).toNat : Nat) : Int)) (congrArg iv (by omega)) ?_
    refine g_callVI (As := [.int (iv (((c : Nat) : Int))), .int (iv (((num : Nat) : Int))), .int (iv ((((a c).toNat : Nat) : Int)))]) (st := []) hX hj (i := 1) (by omega) a1 (m_Tab_isLeftOf hj hT hB c num (a c).toNat hc hn (by omega) (by omega)) cl_Tab_51 d_Tab_goesLeft_47 rfl ⟨by decide, by decide⟩ ⟨by decide, by decide⟩ (Nat.le_of_ble_eq_true rfl) (fun z4 σ5 hz6 hp7 => ?_)
    obtain ⟨he8, hv9⟩ := hp7
    rw [he8]
    by_cases qz4 : lfP (so c) num (a c).toNat = true
    · have z4e : z4 = 1 := hv9.trans (if_pos qz4)
      subst z4e
      exact hret _ _ _ _ d_Tab_goesLeft_50 (by unfold ir; omega) ⟨_, rfl, rfl, pI_t (by unfold kGo; rw [if_neg (by omega)]; assumption)⟩ rfl
    · have z4e : z4 = 0 := hv9.trans (if_neg qz4)
      subst z4e
      exact hret _ _ _ _ d_Tab_goesLeft_50 (by unfold ir; omega) ⟨_, rfl, rfl, pI_f (by unfold kGo; rw [if_neg (by omega)]; assumption)⟩ rfl
  · refine v_aload_n hX d_Tab_goesLeft_25 3 rfl ?_
    refine g_get (i := j) hX hj fl_Tab_60 d_Tab_goesLeft_26 (by omega) hcu rfl ?_
    refine v_if_ne (tgt := 36) hX d_Tab_goesLeft_29 (by decide) (by unfold ir; omega) (fun c29_4 => ?_) (fun c29_4 => ?_)
    · refine v_iconst hX (0) d_Tab_goesLeft_36 ?_
      exact hret _ _ _ _ d_Tab_goesLeft_37 (by unfold ir; omega) ⟨_, rfl, rfl, pI_f (by unfold kGo; rw [if_pos (by omega)]; exact ne_true_of_eq_false (decide_eq_false (by omega)))⟩ rfl
    · refine v_iconst hX (1) d_Tab_goesLeft_32 ?_
      refine v_goto (tgt := 37) hX d_Tab_goesLeft_33 (by decide) ?_
      exact hret _ _ _ _ d_Tab_goesLeft_37 (by unfold ir; omega) ⟨_, rfl, rfl, pI_t (by unfold kGo; rw [if_pos (by omega)]; exact decide_eq_true (by omega))⟩ rfl
