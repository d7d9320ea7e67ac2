/-! THE REFERENCE, read; by program -/
set_option maxHeartbeats 1000000 in
set_option maxRecDepth 100000 in
theorem m_Mo_isValue {G : xG} {f0 : xF} {ad : Nat → Nat} (hj : adOk ad 400) {σ : xF} {n : Nat} {val : Nat → Nat → Int} {cl so : Nat → Nat} {de le wo : Nat} {S : Nat → Int} (hM : pMo G ad σ n val cl so de le wo S) (hD : dTab n val cl so) (c : Nat) (hc : c < 4) (v : Int) (hv : ir v) : ∀ l, gI l G f0 ad 400 y_Mo_isValue (.code y_Mo_isValue c_Mo_isValue 3 (some (.boolean))) rm_Mo_isValue [.ref (ad 358), .int (iv (((c : Nat) : Int))), .int (iv (v))] σ (fun z σ' => σ' = σ ∧ z = pI (tk (so c) v = true)) := by
  intro l
  refine mI_of (rt := .boolean) (by decide) (Nat.le_of_ble_eq_true rfl) (fun X hX hret => ?_)
  show vV G X 0 0 0 [(0, .ref (ad 358)), (1, .int (iv (((c : Nat) : Int)))), (2, .int (iv (v)))] [] (ov f0 ad 400 σ)
  obtain ⟨m0, ⟨sf, m1, m1e⟩, ⟨vf, m2, m2e⟩, ⟨cf, m3, m3e⟩⟩ := id hM
  obtain ⟨d1, d2, d3, d4⟩ := id hD
  refine v_iload_n hX d_Mo_isValue_0 2 rfl ?_
  refine v_iconst hX (-1) d_Mo_isValue_1 ?_
  refine v_icmp_lt (tgt := 28) hX d_Mo_isValue_2 (by decide) (by first | assumption | (have := d4 c; unfold ir at *; omega)) (by first | assumption | (have := d4 c; unfold ir at *; omega)) (fun c2_1 => ?_) (fun c2_1 => ?_)
  · refine v_iconst hX (0) d_Mo_isValue_28 ?_
    exact hret _ _ _ _ d_Mo_isValue_29 (by first | assumption | (have := d4 c; unfold ir at *; omega)) ⟨_, rfl, rfl, (pI_f (fun q => by have t9 := tk_of q; have t8 := tk_le q; have := d4 c; omega))⟩ rfl
  · refine v_iload_n hX d_Mo_isValue_5 2 rfl ?_
    refine v_aload_n hX d_Mo_isValue_6 0 rfl ?_
    refine g_get (i := 358) hX hj fl_Mo_7 d_Mo_isValue_7 (by omega) m0 rfl ?_
    refine v_iload_n hX d_Mo_isValue_10 1 rfl ?_
    refine g_iald (i := 359) hX hj d_Mo_isValue_11 (by omega) m1 (by decide) (c) rfl (by omega) ?_
    refine v_top (x' := iv ((((so c) : Nat) : Int))) (congrArg iv (m1e c (by omega))) ?_
    refine v_if_ne (tgt := 20) hX d_Mo_isValue_12 (by decide) (by first | assumption | (have := d4 c; unfold ir at *; omega)) (fun c12_2 => ?_) (fun c12_2 => ?_)
    · refine v_iconst hX (5) d_Mo_isValue_20 ?_
      refine v_icmp_gt (tgt := 28) hX d_Mo_isValue_21 (by decide) (by first | assumption | (have := d4 c; unfold ir at *; omega)) (by first | assumption | (have := d4 c; unfold ir at *; omega)) (fun c21_3 => ?_) (fun c21_3 => ?_)
      · refine v_iconst hX (0) d_Mo_isValue_28 ?_
        exact hret _ _ _ _ d_Mo_isValue_29 (by first | assumption | (have := d4 c; unfold ir at *; omega)) ⟨_, rfl, rfl, (pI_f (fun q => by have t9 := tk_of q; have t8 := tk_le q; have := d4 c; omega))⟩ rfl
      · refine v_iconst hX (1) d_Mo_isValue_24 ?_
        refine v_goto (tgt := 29) hX d_Mo_isValue_25 (by decide) ?_
        exact hret _ _ _ _ d_Mo_isValue_29 (by first | assumption | (have := d4 c; unfold ir at *; omega)) ⟨_, rfl, rfl, (pI_t (tk_s (by omega) (by have := d4 c; omega) (by have := d4 c; omega)))⟩ rfl
    · refine v_bipush hX (100) d_Mo_isValue_15 rfl ?_
      refine v_goto (tgt := 21) hX d_Mo_isValue_17 (by decide) ?_
      refine v_icmp_gt (tgt := 28) hX d_Mo_isValue_21 (by decide) (by first | assumption | (have := d4 c; unfold ir at *; omega)) (by first | assumption | (have := d4 c; unfold ir at *; omega)) (fun c21_4 => ?_) (fun c21_4 => ?_)
      · refine v_iconst hX (0) d_Mo_isValue_28 ?_
        exact hret _ _ _ _ d_Mo_isValue_29 (by first | assumption | (have := d4 c; unfold ir at *; omega)) ⟨_, rfl, rfl, (pI_f (fun q => by have t9 := tk_of q; have t8 := tk_le q; have := d4 c; omega))⟩ rfl
      · refine v_iconst hX (1) d_Mo_isValue_24 ?_
        refine v_goto (tgt := 29) hX d_Mo_isValue_25 (by decide) ?_
        exact hret _ _ _ _ d_Mo_isValue_29 (by first | assumption | (have := d4 c; unfold ir at *; omega)) ⟨_, rfl, rfl, (pI_t (tk_s (by omega) (by have := d4 c; omega) (by have := d4 c; omega)))⟩ rfl

set_option maxHeartbeats 1000000 in
set_option maxRecDepth 100000 in
theorem m_Mo_isNode {G : xG} {f0 : xF} {ad : Nat → Nat} (hj : adOk ad 400) {σ : xF} {n : Nat} {val : Nat → Nat → Int} {cl so : Nat → Nat} {de le wo : Nat} {S : Nat → Int} (hM : pMo G ad σ n val cl so de le wo S) (hD : dTab n val cl so) (k : Int) (hk : ir k) (hn15 : ir (S 15)) : ∀ l, gI l G f0 ad 400 y_Mo_isNode (.code y_Mo_isNode c_Mo_isNode 2 (some (.boolean))) rm_Mo_isNode [.ref (ad 358), .int (iv (k))] σ (fun z σ' => σ' = σ ∧ z = pI (0 ≤ k ∧ k < S 15)) := by
  intro l
  refine mI_of (rt := .boolean) (by decide) (Nat.le_of_ble_eq_true rfl) (fun X hX hret => ?_)
  show vV G X 0 0 0 [(0, .ref (ad 358)), (1, .int (iv (k)))] [] (ov f0 ad 400 σ)
  obtain ⟨m0, ⟨sf, m1, m1e⟩, ⟨vf, m2, m2e⟩, ⟨cf, m3, m3e⟩⟩ := id hM
  obtain ⟨d1, d2, d3, d4⟩ := id hD
  refine v_iload_n hX d_Mo_isNode_0 1 rfl ?_
  refine v_if_lt (tgt := 16) hX d_Mo_isNode_1 (by decide) (by first | assumption | (unfold ir at *; omega)) (fun c1_1 => ?_) (fun c1_1 => ?_)
  · refine v_iconst hX (0) d_Mo_isNode_16 ?_
    exact hret _ _ _ _ d_Mo_isNode_17 (by first | assumption | (unfold ir at *; omega)) ⟨_, rfl, rfl, (pI_f (by omega))⟩ rfl
  · refine v_iload_n hX d_Mo_isNode_4 1 rfl ?_
    refine v_aload_n hX d_Mo_isNode_5 0 rfl ?_
    refine g_get (i := 358) hX hj fl_Mo_147 d_Mo_isNode_6 (by omega) m0 rfl ?_
    refine v_icmp_ge (tgt := 16) hX d_Mo_isNode_9 (by decide) (by first | assumption | (unfold ir at *; omega)) (by first | assumption | (unfold ir at *; omega)) (fun c9_2 => ?_) (fun c9_2 => ?_)
    · refine v_iconst hX (0) d_Mo_isNode_16 ?_
      exact hret _ _ _ _ d_Mo_isNode_17 (by first | assumption | (unfold ir at *; omega)) ⟨_, rfl, rfl, (pI_f (by omega))⟩ rfl
    · refine v_iconst hX (1) d_Mo_isNode_12 ?_
      refine v_goto (tgt := 17) hX d_Mo_isNode_13 (by decide) ?_
      exact hret _ _ _ _ d_Mo_isNode_17 (by first | assumption | (unfold ir at *; omega)) ⟨_, rfl, rfl, (pI_t (by omega))⟩ rfl

set_option maxHeartbeats 1000000 in
set_option maxRecDepth 100000 in
theorem m_Mo_isStage {G : xG} {f0 : xF} {ad : Nat → Nat} (hj : adOk ad 400) {σ : xF} {n : Nat} {val : Nat → Nat → Int} {cl so : Nat → Nat} {de le wo : Nat} {S : Nat → Int} (hM : pMo G ad σ n val cl so de le wo S) (hD : dTab n val cl so) (k : Int) (hk : ir k) (hn26 : ir (S 26)) : ∀ l, gI l G f0 ad 400 y_Mo_isStage (.code y_Mo_isStage c_Mo_isStage 2 (some (.boolean))) rm_Mo_isStage [.ref (ad 358), .int (iv (k))] σ (fun z σ' => σ' = σ ∧ z = pI (0 ≤ k ∧ k < S 26)) := by
  intro l
  refine mI_of (rt := .boolean) (by decide) (Nat.le_of_ble_eq_true rfl) (fun X hX hret => ?_)
  show vV G X 0 0 0 [(0, .ref (ad 358)), (1, .int (iv (k)))] [] (ov f0 ad 400 σ)
  obtain ⟨m0, ⟨sf, m1, m1e⟩, ⟨vf, m2, m2e⟩, ⟨cf, m3, m3e⟩⟩ := id hM
  obtain ⟨d1, d2, d3, d4⟩ := id hD
  refine v_iload_n hX d_Mo_isStage_0 1 rfl ?_
  refine v_if_lt (tgt := 16) hX d_Mo_isStage_1 (by decide) (by first | assumption | (unfold ir at *; omega)) (fun c1_1 => ?_) (fun c1_1 => ?_)
  · refine v_iconst hX (0) d_Mo_isStage_16 ?_
    exact hret _ _ _ _ d_Mo_isStage_17 (by first | assumption | (unfold ir at *; omega)) ⟨_, rfl, rfl, (pI_f (by omega))⟩ rfl
  · refine v_iload_n hX d_Mo_isStage_4 1 rfl ?_
    refine v_aload_n hX d_Mo_isStage_5 0 rfl ?_
    refine g_get (i := 358) hX hj fl_Mo_200 d_Mo_isStage_6 (by omega) m0 rfl ?_
    refine v_icmp_ge (tgt := 16) hX d_Mo_isStage_9 (by decide) (by first | assumption | (unfold ir at *; omega)) (by first | assumption | (unfold ir at *; omega)) (fun c9_2 => ?_) (fun c9_2 => ?_)
    · refine v_iconst hX (0) d_Mo_isStage_16 ?_
      exact hret _ _ _ _ d_Mo_isStage_17 (by first | assumption | (unfold ir at *; omega)) ⟨_, rfl, rfl, (pI_f (by omega))⟩ rfl
    · refine v_iconst hX (1) d_Mo_isStage_12 ?_
      refine v_goto (tgt := 17) hX d_Mo_isStage_13 (by decide) ?_
      exact hret _ _ _ _ d_Mo_isStage_17 (by first | assumption | (unfold ir at *; omega)) ⟨_, rfl, rfl, (pI_t (by omega))⟩ rfl

set_option maxHeartbeats 1000000 in
set_option maxRecDepth 100000 in
theorem m_Mo_many {G : xG} {f0 : xF} {ad : Nat → Nat} (hj : adOk ad 400) {σ : xF} {n : Nat} {val : Nat → Nat → Int} {cl so : Nat → Nat} {de le wo : Nat} {S : Nat → Int} (hM : pMo G ad σ n val cl so de le wo S) (hD : dTab n val cl so) (set : Nat) (hs24 : set < 16777216) : ∀ l, gI l G f0 ad 400 y_Mo_many (.code y_Mo_many c_Mo_many 4 (some (.int))) rm_Mo_many [.ref (ad 358), .int (iv (((set : Nat) : Int)))] σ (fun z σ' => σ' = σ ∧ z = ((cnt set : Nat) : Int)) := by
  intro l
  refine mI_of (rt := .int) (by decide) (Nat.le_of_ble_eq_true rfl) (fun X hX hret => ?_)
  show vV G X 0 0 0 [(0, .ref (ad 358)), (1, .int (iv (((set : Nat) : Int))))] [] (ov f0 ad 400 σ)
  obtain ⟨m0, ⟨sf, m1, m1e⟩, ⟨vf, m2, m2e⟩, ⟨cf, m3, m3e⟩⟩ := id hM
  obtain ⟨d1, d2, d3, d4⟩ := id hD
  refine v_iconst hX (0) d_Mo_many_0 ?_
  refine v_istore_n (lv' := [(2, .int (iv (0))), (0, .ref (ad 358)), (1, .int (iv (((set : Nat) : Int))))]) hX d_Mo_many_1 rfl (by decide) rfl ?_
  refine v_iconst hX (0) d_Mo_many_2 ?_
  refine v_istore_n (lv' := [(3, .int (iv (0))), (2, .int (iv (0))), (0, .ref (ad 358)), (1, .int (iv (((set : Nat) : Int))))]) hX d_Mo_many_3 rfl (by decide) rfl ?_
  have LOOP : ∀ (fuel : Nat) (r : Nat), 24 - r < fuel → (r ≤ 24) → vV G X 0 0 4 [(0, .ref (ad 358)), (1, .int (iv (((set : Nat) : Int)))), (2, .int (iv ((((pop r set) : Nat) : Int)))), (3, .int (iv (((r : Nat) : Int))))] [] (ov f0 ad 400 σ) := by
    intro fuel
    induction fuel with
    | zero => intro r hm; exact absurd hm (Nat.not_lt_zero _)
    | succ fuel ih_LOOP =>
      intro r hm hr
      have hp := pop_le r set
      refine v_iload_n hX d_Mo_many_4 3 rfl ?_
      refine v_bipush hX (24) d_Mo_many_5 rfl ?_
      refine v_icmp_ge (tgt := 24) hX d_Mo_many_7 (by decide) (by unfold ir; omega) (by unfold ir; omega) (fun c7_1 => ?_) (fun c7_1 => ?_)
      · refine v_iload_n hX d_Mo_many_24 2 rfl ?_
        have e : r = 24 := by omega
        subst e
        exact hret _ _ _ _ d_Mo_many_25 (by unfold ir; omega) ⟨_, rfl, rfl, congrArg (fun q : Nat => (q : Int)) (cnt_eq set).symm⟩ rfl
      · refine v_iload_n hX d_Mo_many_10 2 rfl ?_
        refine v_iload_n hX d_Mo_many_11 1 rfl ?_
        refine v_iload_n hX d_Mo_many_12 3 rfl ?_
        refine v_ishr (z := (((set / 2 ^ r) : Nat) : Int)) hX d_Mo_many_13 (iv_shr (set) (by omega) (r) (by omega)) ?_
        refine v_iconst hX (1) d_Mo_many_14 ?_
        refine v_iand (z := ((((set / 2 ^ r) &&& 1) : Nat) : Int)) hX d_Mo_many_15 (iv_and ((set / 2 ^ r)) (1)) ?_
        refine v_iaddN (a := (pop r set)) (b := ((set / 2 ^ r) &&& 1)) hX d_Mo_many_16 ?_
        refine v_top (x' := iv ((pop (r + 1) set : Nat) : Int)) (congrArg (fun q : Nat => iv (q : Int)) (by rw [pop_bit, bit1])) ?_
        refine v_istore_n (lv' := [(2, .int (iv ((((pop (r + 1) set) : Nat) : Int)))), (0, .ref (ad 358)), (1, .int (iv (((set : Nat) : Int)))), (3, .int (iv (((r : Nat) : Int))))]) hX d_Mo_many_17 rfl (by decide) rfl ?_
        refine v_iincN (a := r) (n := 1) (lv' := [(3, .int (iv ((((r + 1) : Nat) : Int)))), (2, .int (iv ((((pop (r + 1) set) : Nat) : Int)))), (0, .ref (ad 358)), (1, .int (iv (((set : Nat) : Int))))]) hX d_Mo_many_18 rfl 3 rfl (by decide) rfl ?_
        refine v_goto (tgt := 4) hX d_Mo_many_21 (by decide) ?_
        refine v_lv [2, 3, 1, 0] rfl ?_
        exact ih_LOOP (r + 1) (by omega) (by omega)
  refine v_lv [2, 3, 1, 0] rfl ?_
  exact LOOP _ (0) (Nat.lt_succ_self _) (by decide)

set_option maxHeartbeats 1000000 in
set_option maxRecDepth 100000 in
theorem m_Mo_of {G : xG} {f0 : xF} {ad : Nat → Nat} (hj : adOk ad 400) {σ : xF} {n : Nat} {val : Nat → Nat → Int} {cl so : Nat → Nat} {de le wo : Nat} {S : Nat → Int} (hM : pMo G ad σ n val cl so de le wo S) (hD : dTab n val cl so) (set k : Nat) (hs24 : set < 16777216) (hk : k < 3) : ∀ l, gI l G f0 ad 400 y_Mo_of (.code y_Mo_of c_Mo_of 5 (some (.int))) rm_Mo_of [.ref (ad 358), .int (iv (((set : Nat) : Int))), .int (iv (((k : Nat) : Int)))] σ (fun z σ' => σ' = σ ∧ z = ((kCnt (mC n cl) set k : Nat) : Int)) := by
  intro l
  refine mI_of (rt := .int) (by decide) (Nat.le_of_ble_eq_true rfl) (fun X hX hret => ?_)
  show vV G X 0 0 0 [(0, .ref (ad 358)), (1, .int (iv (((set : Nat) : Int)))), (2, .int (iv (((k : Nat) : Int))))] [] (ov f0 ad 400 σ)
  obtain ⟨m0, ⟨sf, m1, m1e⟩, ⟨vf, m2, m2e⟩, ⟨cf, m3, m3e⟩⟩ := id hM
  obtain ⟨d1, d2, d3, d4⟩ := id hD
  refine v_iconst hX (0) d_Mo_of_0 ?_
  refine v_istore_n (lv' := [(3, .int (iv (0))), (0, .ref (ad 358)), (1, .int (iv (((set : Nat) : Int)))), (2, .int (iv (((k : Nat) : Int))))]) hX d_Mo_of_1 rfl (by decide) rfl ?_
  refine v_iconst hX (0) d_Mo_of_2 ?_
  refine v_istore (lv' := [(4, .int (iv (0))), (3, .int (iv (0))), (0, .ref (ad 358)), (1, .int (iv (((set : Nat) : Int)))), (2, .int (iv (((k : Nat) : Int))))]) hX d_Mo_of_3 (by decide) rfl ?_
  have LOOP : ∀ (fuel : Nat) (r : Nat), n - r < fuel → (r ≤ n) → vV G X 0 0 5 [(0, .ref (ad 358)), (1, .int (iv (((set : Nat) : Int)))), (2, .int (iv (((k : Nat) : Int)))), (3, .int (iv ((((pop r (set &&& mC n cl k)) : Nat) : Int)))), (4, .int (iv (((r : Nat) : Int))))] [] (ov f0 ad 400 σ) := by
    intro fuel
    induction fuel with
    | zero => intro r hm; exact absurd hm (Nat.not_lt_zero _)
    | succ fuel ih_LOOP =>
      intro r hm hr
      have hp := pop_le r (set &&& mC n cl k)
      refine v_iload hX d_Mo_of_5 4 rfl ?_
      refine v_aload_n hX d_Mo_of_7 0 rfl ?_
      refine g_get (i := 358) hX hj fl_Mo_69 d_Mo_of_8 (by omega) m0 rfl ?_
      refine v_icmp_ge (tgt := 49) hX d_Mo_of_11 (by decide) (by first | assumption | (have := d3 r; unfold ir at *; omega)) (by first | assumption | (have := d3 r; unfold ir at *; omega)) (fun c11_1 => ?_) (fun c11_1 => ?_)
      · refine v_iload_n hX d_Mo_of_49 3 rfl ?_
        have e : r = n := by omega
        subst e
        exact hret _ _ _ _ d_Mo_of_50 (by unfold ir; omega) ⟨_, rfl, rfl, congrArg (fun q : Nat => (q : Int)) (cnt_of d1 set k).symm⟩ rfl
      · refine v_iload_n hX d_Mo_of_14 3 rfl ?_
        refine v_iload_n hX d_Mo_of_15 1 rfl ?_
        refine v_iload hX d_Mo_of_16 4 rfl ?_
        refine v_ishr (z := (((set / 2 ^ r) : Nat) : Int)) hX d_Mo_of_18 (iv_shr (set) (by omega) (r) (by omega)) ?_
        refine v_iconst hX (1) d_Mo_of_19 ?_
        refine v_iand (z := ((((set / 2 ^ r) &&& 1) : Nat) : Int)) hX d_Mo_of_20 (iv_and ((set / 2 ^ r)) (1)) ?_
        by_cases hbit : set.testBit r = true
        · refine v_top (x' := iv ((1 : Nat) : Int)) (congrArg (fun q : Nat => iv (q : Int)) (bit1_t hbit)) ?_
          refine v_iconst hX (1) d_Mo_of_21 ?_
          refine v_icmp_ne (tgt := 40) hX d_Mo_of_22 (by decide) (by first | assumption | (have := d3 r; unfold ir at *; omega)) (by first | assumption | (have := d3 r; unfold ir at *; omega)) (fun c9 => absurd c9 (by omega)) (fun c9 => ?_)
          refine v_aload_n hX d_Mo_of_25 0 rfl ?_
          refine g_get (i := 358) hX hj fl_Mo_16 d_Mo_of_26 (by omega) m0 rfl ?_
          refine v_iload hX d_Mo_of_29 4 rfl ?_
          refine g_iald (i := 361) hX hj d_Mo_of_31 (by omega) m3 (by decide) (r) rfl (by omega) ?_
          refine v_top (x' := iv ((((cl r) : Nat) : Int))) (congrArg iv (m3e r (by omega))) ?_
          refine v_iload_n hX d_Mo_of_32 2 rfl ?_
          refine v_icmp_ne (tgt := 40) hX d_Mo_of_33 (by decide) (by first | assumption | (have := d3 r; unfold ir at *; omega)) (by first | assumption | (have := d3 r; unfold ir at *; omega)) (fun c33_3 => ?_) (fun c33_3 => ?_)
          · refine v_iconst hX (0) d_Mo_of_40 ?_
            refine v_iaddN (a := (pop r (set &&& mC n cl k))) (b := 0) hX d_Mo_of_41 ?_
            refine v_top (x' := iv (((pop (r + 1) (set &&& mC n cl k)) : Nat) : Int)) (congrArg (fun q : Nat => iv (q : Int)) (by rw [ofC_bit (by omega), if_neg (fun q => by first | exact absurd q.1 hbit | exact absurd q.2 (by omega))])) ?_
            refine v_istore_n (lv' := [(3, .int (iv ((((pop (r + 1) (set &&& mC n cl k)) : Nat) : Int)))), (0, .ref (ad 358)), (1, .int (iv (((set : Nat) : Int)))), (2, .int (iv (((k : Nat) : Int)))), (4, .int (iv (((r : Nat) : Int))))]) hX d_Mo_of_42 rfl (by decide) rfl ?_
            refine v_iincN (a := r) (n := 1) (lv' := [(4, .int (iv ((((r + 1) : Nat) : Int)))), (3, .int (iv ((((pop (r + 1) (set &&& mC n cl k)) : Nat) : Int)))), (0, .ref (ad 358)), (1, .int (iv (((set : Nat) : Int)))), (2, .int (iv (((k : Nat) : Int))))]) hX d_Mo_of_43 rfl 4 rfl (by decide) rfl ?_
            refine v_goto (tgt := 5) hX d_Mo_of_46 (by decide) ?_
            refine v_lv [2, 3, 4, 1, 0] rfl ?_
            exact ih_LOOP (r + 1) (by omega) (by omega)
          · refine v_iconst hX (1) d_Mo_of_36 ?_
            refine v_goto (tgt := 41) hX d_Mo_of_37 (by decide) ?_
            refine v_iaddN (a := (pop r (set &&& mC n cl k))) (b := 1) hX d_Mo_of_41 ?_
            refine v_top (x' := iv (((pop (r + 1) (set &&& mC n cl k)) : Nat) : Int)) (congrArg (fun q : Nat => iv (q : Int)) (by rw [ofC_bit (by omega), if_pos ⟨hbit, by omega⟩])) ?_
            refine v_istore_n (lv' := [(3, .int (iv ((((pop (r + 1) (set &&& mC n cl k)) : Nat) : Int)))), (0, .ref (ad 358)), (1, .int (iv (((set : Nat) : Int)))), (2, .int (iv (((k : Nat) : Int)))), (4, .int (iv (((r : Nat) : Int))))]) hX d_Mo_of_42 rfl (by decide) rfl ?_
            refine v_iincN (a := r) (n := 1) (lv' := [(4, .int (iv ((((r + 1) : Nat) : Int)))), (3, .int (iv ((((pop (r + 1) (set &&& mC n cl k)) : Nat) : Int)))), (0, .ref (ad 358)), (1, .int (iv (((set : Nat) : Int)))), (2, .int (iv (((k : Nat) : Int))))]) hX d_Mo_of_43 rfl 4 rfl (by decide) rfl ?_
            refine v_goto (tgt := 5) hX d_Mo_of_46 (by decide) ?_
            refine v_lv [2, 3, 4, 1, 0] rfl ?_
            exact ih_LOOP (r + 1) (by omega) (by omega)
        · refine v_top (x' := iv ((0 : Nat) : Int)) (congrArg (fun q : Nat => iv (q : Int)) (bit1_f hbit)) ?_
          refine v_iconst hX (1) d_Mo_of_21 ?_
          refine v_icmp_ne (tgt := 40) hX d_Mo_of_22 (by decide) (by first | assumption | (have := d3 r; unfold ir at *; omega)) (by first | assumption | (have := d3 r; unfold ir at *; omega)) (fun c9 => ?_) (fun c9 => absurd c9 (by omega))
          refine v_iconst hX (0) d_Mo_of_40 ?_
          refine v_iaddN (a := (pop r (set &&& mC n cl k))) (b := 0) hX d_Mo_of_41 ?_
          refine v_top (x' := iv (((pop (r + 1) (set &&& mC n cl k)) : Nat) : Int)) (congrArg (fun q : Nat => iv (q : Int)) (by rw [ofC_bit (by omega), if_neg (fun q => by first | exact absurd q.1 hbit | exact absurd q.2 (by omega))])) ?_
          refine v_istore_n (lv' := [(3, .int (iv ((((pop (r + 1) (set &&& mC n cl k)) : Nat) : Int)))), (0, .ref (ad 358)), (1, .int (iv (((set : Nat) : Int)))), (2, .int (iv (((k : Nat) : Int)))), (4, .int (iv (((r : Nat) : Int))))]) hX d_Mo_of_42 rfl (by decide) rfl ?_
          refine v_iincN (a := r) (n := 1) (lv' := [(4, .int (iv ((((r + 1) : Nat) : Int)))), (3, .int (iv ((((pop (r + 1) (set &&& mC n cl k)) : Nat) : Int)))), (0, .ref (ad 358)), (1, .int (iv (((set : Nat) : Int)))), (2, .int (iv (((k : Nat) : Int))))]) hX d_Mo_of_43 rfl 4 rfl (by decide) rfl ?_
          refine v_goto (tgt := 5) hX d_Mo_of_46 (by decide) ?_
          refine v_lv [2, 3, 4, 1, 0] rfl ?_
          exact ih_LOOP (r + 1) (by omega) (by omega)
  refine v_lv [2, 3, 4, 1, 0] rfl ?_
  exact LOOP _ (0) (Nat.lt_succ_self _) (Nat.zero_le _)

set_option maxHeartbeats 1000000 in
set_option maxRecDepth 100000 in
theorem m_Mo_squares {G : xG} {f0 : xF} {ad : Nat → Nat} (hj : adOk ad 400) {σ : xF} {n : Nat} {val : Nat → Nat → Int} {cl so : Nat → Nat} {de le wo : Nat} {S : Nat → Int} (hM : pMo G ad σ n val cl so de le wo S) (hD : dTab n val cl so) (set : Nat) (hs24 : set < 16777216) : ∀ l, gL l G f0 ad 400 y_Mo_squares (.code y_Mo_squares c_Mo_squares 7 (some (.long))) rm_Mo_squares [.ref (ad 358), .int (iv (((set : Nat) : Int)))] σ (fun z σ' => σ' = σ ∧ z = ((kSq (mC n cl) set : Nat) : Int)) := by
  intro l
  refine mL_of (by decide) (Nat.le_of_ble_eq_true rfl) (fun X hX hret => ?_)
  show vV G X 0 0 0 [(0, .ref (ad 358)), (1, .int (iv (((set : Nat) : Int))))] [] (ov f0 ad 400 σ)
  obtain ⟨m0, ⟨sf, m1, m1e⟩, ⟨vf, m2, m2e⟩, ⟨cf, m3, m3e⟩⟩ := id hM
  obtain ⟨d1, d2, d3, d4⟩ := id hD
  refine v_lconst hX 0 d_Mo_squares_0 rfl ?_
  refine v_lstore_n (lv' := [(2, .long (jv (0))), (0, .ref (ad 358)), (1, .int (iv (((set : Nat) : Int))))]) hX d_Mo_squares_1 rfl (by decide) rfl ?_
  refine v_iconst hX (0) d_Mo_squares_2 ?_
  refine v_istore (lv' := [(4, .int (iv (0))), (2, .long (jv (0))), (0, .ref (ad 358)), (1, .int (iv (((set : Nat) : Int))))]) hX d_Mo_squares_3 (by decide) rfl ?_
  refine v_iload hX d_Mo_squares_5 0 rfl ?_
  refine v_iconst hX (3) d_Mo_squares_7 ?_
  refine v_icmp_ge (tgt := 35) hX d_Mo_squares_8 (by decide) (by have := kCnt_le (mC n cl) set 0; have := kCnt_le (mC n cl) set 1; have := kCnt_le (mC n cl) set 2; unfold ir; omega) (by have := kCnt_le (mC n cl) set 0; have := kCnt_le (mC n cl) set 1; have := kCnt_le (mC n cl) set 2; unfold ir; omega) (fun c9 => absurd c9 (by omega)) (fun c9 => ?_)
  refine v_aload_n hX d_Mo_squares_11 2 rfl ?_
  refine v_iload_n hX d_Mo_squares_12 3 rfl ?_
  refine v_iload hX d_Mo_squares_13 0 rfl ?_
  refine g_callVI (As := [.int (iv (((set : Nat) : Int))), .int (iv (0))]) (st := []) hX hj (i := 358) (by omega) m0 (m_Mo_of hj hM hD set 0 (by omega) (by omega)) cl_Mo_83 d_Mo_squares_15 rfl ⟨by decide, by decide⟩ ⟨by decide, by decide⟩ (Nat.le_of_ble_eq_true rfl) (fun z1 σ2 hz3 hp4 => ?_)
  obtain ⟨he5, hv6⟩ := hp4
  rw [he5]
  subst hv6
  refine v_i2l hX d_Mo_squares_18 (by have := kCnt_le (mC n cl) set 0; have := kCnt_le (mC n cl) set 1; have := kCnt_le (mC n cl) set 2; unfold ir; omega) ?_
  refine v_lstore (lv' := [(5, .long (jv ((((kCnt (mC n cl) set 0) : Nat) : Int)))), (4, .int (iv (0))), (2, .long (jv (0))), (0, .ref (ad 358)), (1, .int (iv (((set : Nat) : Int))))]) hX d_Mo_squares_19 (by decide) rfl ?_
  refine v_lload_n hX d_Mo_squares_21 2 rfl ?_
  refine v_lload hX d_Mo_squares_22 0 rfl ?_
  refine v_lload hX d_Mo_squares_24 0 rfl ?_
  refine v_lmul hX d_Mo_squares_26 ?_
  refine v_ladd hX d_Mo_squares_27 ?_
  refine v_lstore_n (lv' := [(2, .long (jv ((0 + ((((kCnt (mC n cl) set 0) : Nat) : Int) * (((kCnt (mC n cl) set 0) : Nat) : Int)))))), (5, .long (jv ((((kCnt (mC n cl) set 0) : Nat) : Int)))), (4, .int (iv (0))), (0, .ref (ad 358)), (1, .int (iv (((set : Nat) : Int))))]) hX d_Mo_squares_28 rfl (by decide) rfl ?_
  refine v_iincN (a := 0) (n := 1) (lv' := [(4, .int (iv (1))), (2, .long (jv ((0 + ((((kCnt (mC n cl) set 0) : Nat) : Int) * (((kCnt (mC n cl) set 0) : Nat) : Int)))))), (5, .long (jv ((((kCnt (mC n cl) set 0) : Nat) : Int)))), (0, .ref (ad 358)), (1, .int (iv (((set : Nat) : Int))))]) hX d_Mo_squares_29 rfl 2 rfl (by decide) rfl ?_
  refine v_goto (tgt := 5) hX d_Mo_squares_32 (by decide) ?_
  refine v_iload hX d_Mo_squares_5 0 rfl ?_
  refine v_iconst hX (3) d_Mo_squares_7 ?_
  refine v_icmp_ge (tgt := 35) hX d_Mo_squares_8 (by decide) (by have := kCnt_le (mC n cl) set 0; have := kCnt_le (mC n cl) set 1; have := kCnt_le (mC n cl) set 2; unfold ir; omega) (by have := kCnt_le (mC n cl) set 0; have := kCnt_le (mC n cl) set 1; have := kCnt_le (mC n cl) set 2; unfold ir; omega) (fun c9 => absurd c9 (by omega)) (fun c9 => ?_)
  refine v_aload_n hX d_Mo_squares_11 3 rfl ?_
  refine v_iload_n hX d_Mo_squares_12 4 rfl ?_
  refine v_iload hX d_Mo_squares_13 0 rfl ?_
  refine g_callVI (As := [.int (iv (((set : Nat) : Int))), .int (iv (1))]) (st := []) hX hj (i := 358) (by omega) m0 (m_Mo_of hj hM hD set 1 (by omega) (by omega)) cl_Mo_83 d_Mo_squares_15 rfl ⟨by decide, by decide⟩ ⟨by decide, by decide⟩ (Nat.le_of_ble_eq_true rfl) (fun z7 σ8 hz9 hp10 => ?_)
  obtain ⟨he11, hv12⟩ := hp10
  rw [he11]
  subst hv12
  refine v_i2l hX d_Mo_squares_18 (by have := kCnt_le (mC n cl) set 0; have := kCnt_le (mC n cl) set 1; have := kCnt_le (mC n cl) set 2; unfold ir; omega) ?_
  refine v_lstore (lv' := [(5, .long (jv ((((kCnt (mC n cl) set 1) : Nat) : Int)))), (4, .int (iv (1))), (2, .long (jv ((0 + ((((kCnt (mC n cl) set 0) : Nat) : Int) * (((kCnt (mC n cl) set 0) : Nat) : Int)))))), (0, .ref (ad 358)), (1, .int (iv (((set : Nat) : Int))))]) hX d_Mo_squares_19 (by decide) rfl ?_
  refine v_lload_n hX d_Mo_squares_21 2 rfl ?_
  refine v_lload hX d_Mo_squares_22 0 rfl ?_
  refine v_lload hX d_Mo_squares_24 0 rfl ?_
  refine v_lmul hX d_Mo_squares_26 ?_
  refine v_ladd hX d_Mo_squares_27 ?_
  refine v_lstore_n (lv' := [(2, .long (jv (((0 + ((((kCnt (mC n cl) set 0) : Nat) : Int) * (((kCnt (mC n cl) set 0) : Nat) : Int))) + ((((kCnt (mC n cl) set 1) : Nat) : Int) * (((kCnt (mC n cl) set 1) : Nat) : Int)))))), (5, .long (jv ((((kCnt (mC n cl) set 1) : Nat) : Int)))), (4, .int (iv (1))), (0, .ref (ad 358)), (1, .int (iv (((set : Nat) : Int))))]) hX d_Mo_squares_28 rfl (by decide) rfl ?_
  refine v_iincN (a := 1) (n := 1) (lv' := [(4, .int (iv (2))), (2, .long (jv (((0 + ((((kCnt (mC n cl) set 0) : Nat) : Int) * (((kCnt (mC n cl) set 0) : Nat) : Int))) + ((((kCnt (mC n cl) set 1) : Nat) : Int) * (((kCnt (mC n cl) set 1) : Nat) : Int)))))), (5, .long (jv ((((kCnt (mC n cl) set 1) : Nat) : Int)))), (0, .ref (ad 358)), (1, .int (iv (((set : Nat) : Int))))]) hX d_Mo_squares_29 rfl 2 rfl (by decide) rfl ?_
  refine v_goto (tgt := 5) hX d_Mo_squares_32 (by decide) ?_
  refine v_iload hX d_Mo_squares_5 0 rfl ?_
  refine v_iconst hX (3) d_Mo_squares_7 ?_
  refine v_icmp_ge (tgt := 35) hX d_Mo_squares_8 (by decide) (by have := kCnt_le (mC n cl) set 0; have := kCnt_le (mC n cl) set 1; have := kCnt_le (mC n cl) set 2; unfold ir; omega) (by have := kCnt_le (mC n cl) set 0; have := kCnt_le (mC n cl) set 1; have := kCnt_le (mC n cl) set 2; unfold ir; omega) (fun c9 => absurd c9 (by omega)) (fun c9 => ?_)
  refine v_aload_n hX d_Mo_squares_11 3 rfl ?_
  refine v_iload_n hX d_Mo_squares_12 4 rfl ?_
  refine v_iload hX d_Mo_squares_13 0 rfl ?_
  refine g_callVI (As := [.int (iv (((set : Nat) : Int))), .int (iv (2))]) (st := []) hX hj (i := 358) (by omega) m0 (m_Mo_of hj hM hD set 2 (by omega) (by omega)) cl_Mo_83 d_Mo_squares_15 rfl ⟨by decide, by decide⟩ ⟨by decide, by decide⟩ (Nat.le_of_ble_eq_true rfl) (fun z13 σ14 hz15 hp16 => ?_)
  obtain ⟨he17, hv18⟩ := hp16
  rw [he17]
  subst hv18
  refine v_i2l hX d_Mo_squares_18 (by have := kCnt_le (mC n cl) set 0; have := kCnt_le (mC n cl) set 1; have := kCnt_le (mC n cl) set 2; unfold ir; omega) ?_
  refine v_lstore (lv' := [(5, .long (jv ((((kCnt (mC n cl) set 2) : Nat) : Int)))), (4, .int (iv (2))), (2, .long (jv (((0 + ((((kCnt (mC n cl) set 0) : Nat) : Int) * (((kCnt (mC n cl) set 0) : Nat) : Int))) + ((((kCnt (mC n cl) set 1) : Nat) : Int) * (((kCnt (mC n cl) set 1) : Nat) : Int)))))), (0, .ref (ad 358)), (1, .int (iv (((set : Nat) : Int))))]) hX d_Mo_squares_19 (by decide) rfl ?_
  refine v_lload_n hX d_Mo_squares_21 2 rfl ?_
  refine v_lload hX d_Mo_squares_22 0 rfl ?_
  refine v_lload hX d_Mo_squares_24 0 rfl ?_
  refine v_lmul hX d_Mo_squares_26 ?_
  refine v_ladd hX d_Mo_squares_27 ?_
  refine v_lstore_n (lv' := [(2, .long (jv ((((0 + ((((kCnt (mC n cl) set 0) : Nat) : Int) * (((kCnt (mC n cl) set 0) : Nat) : Int))) + ((((kCnt (mC n cl) set 1) : Nat) : Int) * (((kCnt (mC n cl) set 1) : Nat) : Int))) + ((((kCnt (mC n cl) set 2) : Nat) : Int) * (((kCnt (mC n cl) set 2) : Nat) : Int)))))), (5, .long (jv ((((kCnt (mC n cl) set 2) : Nat) : Int)))), (4, .int (iv (2))), (0, .ref (ad 358)), (1, .int (iv (((set : Nat) : Int))))]) hX d_Mo_squares_28 rfl (by decide) rfl ?_
  refine v_iincN (a := 2) (n := 1) (lv' := [(4, .int (iv (3))), (2, .long (jv ((((0 + ((((kCnt (mC n cl) set 0) : Nat) : Int) * (((kCnt (mC n cl) set 0) : Nat) : Int))) + ((((kCnt (mC n cl) set 1) : Nat) : Int) * (((kCnt (mC n cl) set 1) : Nat) : Int))) + ((((kCnt (mC n cl) set 2) : Nat) : Int) * (((kCnt (mC n cl) set 2) : Nat) : Int)))))), (5, .long (jv ((((kCnt (mC n cl) set 2) : Nat) : Int)))), (0, .ref (ad 358)), (1, .int (iv (((set : Nat) : Int))))]) hX d_Mo_squares_29 rfl 2 rfl (by decide) rfl ?_
  refine v_goto (tgt := 5) hX d_Mo_squares_32 (by decide) ?_
  refine v_iload hX d_Mo_squares_5 0 rfl ?_
  refine v_iconst hX (3) d_Mo_squares_7 ?_
  refine v_icmp_ge (tgt := 35) hX d_Mo_squares_8 (by decide) (by have := kCnt_le (mC n cl) set 0; have := kCnt_le (mC n cl) set 1; have := kCnt_le (mC n cl) set 2; unfold ir; omega) (by have := kCnt_le (mC n cl) set 0; have := kCnt_le (mC n cl) set 1; have := kCnt_le (mC n cl) set 2; unfold ir; omega) (fun c9 => ?_) (fun c9 => absurd c9 (by omega))
  refine v_lload_n hX d_Mo_squares_35 1 rfl ?_
  exact hret _ _ _ _ d_Mo_squares_36 (by unfold jr; have := Nat.mul_le_mul (kCnt_le (mC n cl) set 0) (kCnt_le (mC n cl) set 0); have := Nat.mul_le_mul (kCnt_le (mC n cl) set 1) (kCnt_le (mC n cl) set 1); have := Nat.mul_le_mul (kCnt_le (mC n cl) set 2) (kCnt_le (mC n cl) set 2); simp only [← Int.natCast_mul]; omega) ⟨_, rfl, rfl, by unfold kSq; simp only [Int.natCast_add, Int.natCast_mul]; omega⟩

set_option maxHeartbeats 1000000 in
set_option maxRecDepth 100000 in
theorem m_Mo_labelOf {G : xG} {f0 : xF} {ad : Nat → Nat} (hj : adOk ad 400) {σ : xF} {n : Nat} {val : Nat → Nat → Int} {cl so : Nat → Nat} {de le wo : Nat} {S : Nat → Int} (hM : pMo G ad σ n val cl so de le wo S) (hD : dTab n val cl so) (set : Nat) (hs24 : set < 16777216) : ∀ l, gI l G f0 ad 400 y_Mo_labelOf (.code y_Mo_labelOf c_Mo_labelOf 4 (some (.int))) rm_Mo_labelOf [.ref (ad 358), .int (iv (((set : Nat) : Int)))] σ (fun z σ' => σ' = σ ∧ z = ((kLab (mC n cl) set : Nat) : Int)) := by
  intro l
  refine mI_of (rt := .int) (by decide) (Nat.le_of_ble_eq_true rfl) (fun X hX hret => ?_)
  show vV G X 0 0 0 [(0, .ref (ad 358)), (1, .int (iv (((set : Nat) : Int))))] [] (ov f0 ad 400 σ)
  obtain ⟨m0, ⟨sf, m1, m1e⟩, ⟨vf, m2, m2e⟩, ⟨cf, m3, m3e⟩⟩ := id hM
  obtain ⟨d1, d2, d3, d4⟩ := id hD
  refine v_iconst hX (0) d_Mo_labelOf_0 ?_
  refine v_istore_n (lv' := [(2, .int (iv (0))), (0, .ref (ad 358)), (1, .int (iv (((set : Nat) : Int))))]) hX d_Mo_labelOf_1 rfl (by decide) rfl ?_
  refine v_iconst hX (1) d_Mo_labelOf_2 ?_
  refine v_istore_n (lv' := [(3, .int (iv (1))), (2, .int (iv (0))), (0, .ref (ad 358)), (1, .int (iv (((set : Nat) : Int))))]) hX d_Mo_labelOf_3 rfl (by decide) rfl ?_
  refine v_iload_n hX d_Mo_labelOf_4 0 rfl ?_
  refine v_iconst hX (3) d_Mo_labelOf_5 ?_
  refine v_icmp_ge (tgt := 36) hX d_Mo_labelOf_6 (by decide) (by have := kCnt_le (mC n cl) set 0; have := kCnt_le (mC n cl) set 1; have := kCnt_le (mC n cl) set 2; unfold ir; omega) (by have := kCnt_le (mC n cl) set 0; have := kCnt_le (mC n cl) set 1; have := kCnt_le (mC n cl) set 2; unfold ir; omega) (fun c9 => absurd c9 (by omega)) (fun c9 => ?_)
  refine v_aload_n hX d_Mo_labelOf_9 2 rfl ?_
  refine v_iload_n hX d_Mo_labelOf_10 3 rfl ?_
  refine v_iload_n hX d_Mo_labelOf_11 0 rfl ?_
  refine g_callVI (As := [.int (iv (((set : Nat) : Int))), .int (iv (1))]) (st := []) hX hj (i := 358) (by omega) m0 (m_Mo_of hj hM hD set 1 (by omega) (by omega)) cl_Mo_83 d_Mo_labelOf_12 rfl ⟨by decide, by decide⟩ ⟨by decide, by decide⟩ (Nat.le_of_ble_eq_true rfl) (fun z1 σ2 hz3 hp4 => ?_)
  obtain ⟨he5, hv6⟩ := hp4
  rw [he5]
  subst hv6
  refine v_aload_n hX d_Mo_labelOf_15 2 rfl ?_
  refine v_iload_n hX d_Mo_labelOf_16 3 rfl ?_
  refine v_iload_n hX d_Mo_labelOf_17 1 rfl ?_
  refine g_callVI (As := [.int (iv (((set : Nat) : Int))), .int (iv (0))]) (st := [.int (iv ((((kCnt (mC n cl) set 1) : Nat) : Int)))]) hX hj (i := 358) (by omega) m0 (m_Mo_of hj hM hD set 0 (by omega) (by omega)) cl_Mo_83 d_Mo_labelOf_18 rfl ⟨by decide, by decide⟩ ⟨by decide, by decide⟩ (Nat.le_of_ble_eq_true rfl) (fun z7 σ8 hz9 hp10 => ?_)
  obtain ⟨he11, hv12⟩ := hp10
  rw [he11]
  subst hv12
  refine v_icmp_le (tgt := 28) hX d_Mo_labelOf_21 (by decide) (by have := kCnt_le (mC n cl) set 0; have := kCnt_le (mC n cl) set 1; have := kCnt_le (mC n cl) set 2; unfold ir; omega) (by have := kCnt_le (mC n cl) set 0; have := kCnt_le (mC n cl) set 1; have := kCnt_le (mC n cl) set 2; unfold ir; omega) (fun c21_2 => ?_) (fun c21_2 => ?_)
  · refine v_iload_n hX d_Mo_labelOf_28 1 rfl ?_
    refine v_istore_n (lv' := [(2, .int (iv (0))), (3, .int (iv (1))), (0, .ref (ad 358)), (1, .int (iv (((set : Nat) : Int))))]) hX d_Mo_labelOf_29 rfl (by decide) rfl ?_
    refine v_iincN (a := 1) (n := 1) (lv' := [(3, .int (iv (2))), (2, .int (iv (0))), (0, .ref (ad 358)), (1, .int (iv (((set : Nat) : Int))))]) hX d_Mo_labelOf_30 rfl 1 rfl (by decide) rfl ?_
    refine v_goto (tgt := 4) hX d_Mo_labelOf_33 (by decide) ?_
    refine v_iload_n hX d_Mo_labelOf_4 0 rfl ?_
    refine v_iconst hX (3) d_Mo_labelOf_5 ?_
    refine v_icmp_ge (tgt := 36) hX d_Mo_labelOf_6 (by decide) (by have := kCnt_le (mC n cl) set 0; have := kCnt_le (mC n cl) set 1; have := kCnt_le (mC n cl) set 2; unfold ir; omega) (by have := kCnt_le (mC n cl) set 0; have := kCnt_le (mC n cl) set 1; have := kCnt_le (mC n cl) set 2; unfold ir; omega) (fun c9 => absurd c9 (by omega)) (fun c9 => ?_)
    refine v_aload_n hX d_Mo_labelOf_9 2 rfl ?_
    refine v_iload_n hX d_Mo_labelOf_10 3 rfl ?_
    refine v_iload_n hX d_Mo_labelOf_11 0 rfl ?_
    refine g_callVI (As := [.int (iv (((set : Nat) : Int))), .int (iv (2))]) (st := []) hX hj (i := 358) (by omega) m0 (m_Mo_of hj hM hD set 2 (by omega) (by omega)) cl_Mo_83 d_Mo_labelOf_12 rfl ⟨by decide, by decide⟩ ⟨by decide, by decide⟩ (Nat.le_of_ble_eq_true rfl) (fun z13 σ14 hz15 hp16 => ?_)
    obtain ⟨he17, hv18⟩ := hp16
    rw [he17]
    subst hv18
    refine v_aload_n hX d_Mo_labelOf_15 2 rfl ?_
    refine v_iload_n hX d_Mo_labelOf_16 3 rfl ?_
    refine v_iload_n hX d_Mo_labelOf_17 1 rfl ?_
    refine g_callVI (As := [.int (iv (((set : Nat) : Int))), .int (iv (0))]) (st := [.int (iv ((((kCnt (mC n cl) set 2) : Nat) : Int)))]) hX hj (i := 358) (by omega) m0 (m_Mo_of hj hM hD set 0 (by omega) (by omega)) cl_Mo_83 d_Mo_labelOf_18 rfl ⟨by decide, by decide⟩ ⟨by decide, by decide⟩ (Nat.le_of_ble_eq_true rfl) (fun z19 σ20 hz21 hp22 => ?_)
    obtain ⟨he23, hv24⟩ := hp22
    rw [he23]
    subst hv24
    refine v_icmp_le (tgt := 28) hX d_Mo_labelOf_21 (by decide) (by have := kCnt_le (mC n cl) set 0; have := kCnt_le (mC n cl) set 1; have := kCnt_le (mC n cl) set 2; unfold ir; omega) (by have := kCnt_le (mC n cl) set 0; have := kCnt_le (mC n cl) set 1; have := kCnt_le (mC n cl) set 2; unfold ir; omega) (fun c21_4 => ?_) (fun c21_4 => ?_)
    · refine v_iload_n hX d_Mo_labelOf_28 1 rfl ?_
      refine v_istore_n (lv' := [(2, .int (iv (0))), (3, .int (iv (2))), (0, .ref (ad 358)), (1, .int (iv (((set : Nat) : Int))))]) hX d_Mo_labelOf_29 rfl (by decide) rfl ?_
      refine v_iincN (a := 2) (n := 1) (lv' := [(3, .int (iv (3))), (2, .int (iv (0))), (0, .ref (ad 358)), (1, .int (iv (((set : Nat) : Int))))]) hX d_Mo_labelOf_30 rfl 1 rfl (by decide) rfl ?_
      refine v_goto (tgt := 4) hX d_Mo_labelOf_33 (by decide) ?_
      refine v_iload_n hX d_Mo_labelOf_4 0 rfl ?_
      refine v_iconst hX (3) d_Mo_labelOf_5 ?_
      refine v_icmp_ge (tgt := 36) hX d_Mo_labelOf_6 (by decide) (by have := kCnt_le (mC n cl) set 0; have := kCnt_le (mC n cl) set 1; have := kCnt_le (mC n cl) set 2; unfold ir; omega) (by have := kCnt_le (mC n cl) set 0; have := kCnt_le (mC n cl) set 1; have := kCnt_le (mC n cl) set 2; unfold ir; omega) (fun c9 => ?_) (fun c9 => absurd c9 (by omega))
      refine v_iload_n hX d_Mo_labelOf_36 1 rfl ?_
      exact hret _ _ _ _ d_Mo_labelOf_37 (by unfold ir; omega) ⟨_, rfl, rfl, (by first | (rw [kLab_00 (by omega) (by omega)]; rfl) | (rw [kLab_02 (by omega) (by omega)]; rfl) | (rw [kLab_11 (by omega) (by omega)]; rfl) | (rw [kLab_12 (by omega) (by omega)]; rfl))⟩ rfl
    · refine v_iload_n hX d_Mo_labelOf_24 0 rfl ?_
      refine v_goto (tgt := 29) hX d_Mo_labelOf_25 (by decide) ?_
      refine v_istore_n (lv' := [(2, .int (iv (2))), (3, .int (iv (2))), (0, .ref (ad 358)), (1, .int (iv (((set : Nat) : Int))))]) hX d_Mo_labelOf_29 rfl (by decide) rfl ?_
      refine v_iincN (a := 2) (n := 1) (lv' := [(3, .int (iv (3))), (2, .int (iv (2))), (0, .ref (ad 358)), (1, .int (iv (((set : Nat) : Int))))]) hX d_Mo_labelOf_30 rfl 1 rfl (by decide) rfl ?_
      refine v_goto (tgt := 4) hX d_Mo_labelOf_33 (by decide) ?_
      refine v_iload_n hX d_Mo_labelOf_4 0 rfl ?_
      refine v_iconst hX (3) d_Mo_labelOf_5 ?_
      refine v_icmp_ge (tgt := 36) hX d_Mo_labelOf_6 (by decide) (by have := kCnt_le (mC n cl) set 0; have := kCnt_le (mC n cl) set 1; have := kCnt_le (mC n cl) set 2; unfold ir; omega) (by have := kCnt_le (mC n cl) set 0; have := kCnt_le (mC n cl) set 1; have := kCnt_le (mC n cl) set 2; unfold ir; omega) (fun c9 => ?_) (fun c9 => absurd c9 (by omega))
      refine v_iload_n hX d_Mo_labelOf_36 1 rfl ?_
      exact hret _ _ _ _ d_Mo_labelOf_37 (by unfold ir; omega) ⟨_, rfl, rfl, (by first | (rw [kLab_00 (by omega) (by omega)]; rfl) | (rw [kLab_02 (by omega) (by omega)]; rfl) | (rw [kLab_11 (by omega) (by omega)]; rfl) | (rw [kLab_12 (by omega) (by omega)]; rfl))⟩ rfl
  · refine v_iload_n hX d_Mo_labelOf_24 0 rfl ?_
    refine v_goto (tgt := 29) hX d_Mo_labelOf_25 (by decide) ?_
    refine v_istore_n (lv' := [(2, .int (iv (1))), (3, .int (iv (1))), (0, .ref (ad 358)), (1, .int (iv (((set : Nat) : Int))))]) hX d_Mo_labelOf_29 rfl (by decide) rfl ?_
    refine v_iincN (a := 1) (n := 1) (lv' := [(3, .int (iv (2))), (2, .int (iv (1))), (0, .ref (ad 358)), (1, .int (iv (((set : Nat) : Int))))]) hX d_Mo_labelOf_30 rfl 1 rfl (by decide) rfl ?_
    refine v_goto (tgt := 4) hX d_Mo_labelOf_33 (by decide) ?_
    refine v_iload_n hX d_Mo_labelOf_4 0 rfl ?_
    refine v_iconst hX (3) d_Mo_labelOf_5 ?_
    refine v_icmp_ge (tgt := 36) hX d_Mo_labelOf_6 (by decide) (by have := kCnt_le (mC n cl) set 0; have := kCnt_le (mC n cl) set 1; have := kCnt_le (mC n cl) set 2; unfold ir; omega) (by have := kCnt_le (mC n cl) set 0; have := kCnt_le (mC n cl) set 1; have := kCnt_le (mC n cl) set 2; unfold ir; omega) (fun c9 => absurd c9 (by omega)) (fun c9 => ?_)
    refine v_aload_n hX d_Mo_labelOf_9 2 rfl ?_
    refine v_iload_n hX d_Mo_labelOf_10 3 rfl ?_
    refine v_iload_n hX d_Mo_labelOf_11 0 rfl ?_
    refine g_callVI (As := [.int (iv (((set : Nat) : Int))), .int (iv (2))]) (st := []) hX hj (i := 358) (by omega) m0 (m_Mo_of hj hM hD set 2 (by omega) (by omega)) cl_Mo_83 d_Mo_labelOf_12 rfl ⟨by decide, by decide⟩ ⟨by decide, by decide⟩ (Nat.le_of_ble_eq_true rfl) (fun z25 σ26 hz27 hp28 => ?_)
    obtain ⟨he29, hv30⟩ := hp28
    rw [he29]
    subst hv30
    refine v_aload_n hX d_Mo_labelOf_15 2 rfl ?_
    refine v_iload_n hX d_Mo_labelOf_16 3 rfl ?_
    refine v_iload_n hX d_Mo_labelOf_17 1 rfl ?_
    refine g_callVI (As := [.int (iv (((set : Nat) : Int))), .int (iv (1))]) (st := [.int (iv ((((kCnt (mC n cl) set 2) : Nat) : Int)))]) hX hj (i := 358) (by omega) m0 (m_Mo_of hj hM hD set 1 (by omega) (by omega)) cl_Mo_83 d_Mo_labelOf_18 rfl ⟨by decide, by decide⟩ ⟨by decide, by decide⟩ (Nat.le_of_ble_eq_true rfl) (fun z31 σ32 hz33 hp34 => ?_)
    obtain ⟨he35, hv36⟩ := hp34
    rw [he35]
    subst hv36
    refine v_icmp_le (tgt := 28) hX d_Mo_labelOf_21 (by decide) (by have := kCnt_le (mC n cl) set 0; have := kCnt_le (mC n cl) set 1; have := kCnt_le (mC n cl) set 2; unfold ir; omega) (by have := kCnt_le (mC n cl) set 0; have := kCnt_le (mC n cl) set 1; have := kCnt_le (mC n cl) set 2; unfold ir; omega) (fun c21_8 => ?_) (fun c21_8 => ?_)
    · refine v_iload_n hX d_Mo_labelOf_28 1 rfl ?_
      refine v_istore_n (lv' := [(2, .int (iv (1))), (3, .int (iv (2))), (0, .ref (ad 358)), (1, .int (iv (((set : Nat) : Int))))]) hX d_Mo_labelOf_29 rfl (by decide) rfl ?_
      refine v_iincN (a := 2) (n := 1) (lv' := [(3, .int (iv (3))), (2, .int (iv (1))), (0, .ref (ad 358)), (1, .int (iv (((set : Nat) : Int))))]) hX d_Mo_labelOf_30 rfl 1 rfl (by decide) rfl ?_
      refine v_goto (tgt := 4) hX d_Mo_labelOf_33 (by decide) ?_
      refine v_iload_n hX d_Mo_labelOf_4 0 rfl ?_
      refine v_iconst hX (3) d_Mo_labelOf_5 ?_
      refine v_icmp_ge (tgt := 36) hX d_Mo_labelOf_6 (by decide) (by have := kCnt_le (mC n cl) set 0; have := kCnt_le (mC n cl) set 1; have := kCnt_le (mC n cl) set 2; unfold ir; omega) (by have := kCnt_le (mC n cl) set 0; have := kCnt_le (mC n cl) set 1; have := kCnt_le (mC n cl) set 2; unfold ir; omega) (fun c9 => ?_) (fun c9 => absurd c9 (by omega))
      refine v_iload_n hX d_Mo_labelOf_36 1 rfl ?_
      exact hret _ _ _ _ d_Mo_labelOf_37 (by unfold ir; omega) ⟨_, rfl, rfl, (by first | (rw [kLab_00 (by omega) (by omega)]; rfl) | (rw [kLab_02 (by omega) (by omega)]; rfl) | (rw [kLab_11 (by omega) (by omega)]; rfl) | (rw [kLab_12 (by omega) (by omega)]; rfl))⟩ rfl
    · refine v_iload_n hX d_Mo_labelOf_24 0 rfl ?_
      refine v_goto (tgt := 29) hX d_Mo_labelOf_25 (by decide) ?_
      refine v_istore_n (lv' := [(2, .int (iv (2))), (3, .int (iv (2))), (0, .ref (ad 358)), (1, .int (iv (((set : Nat) : Int))))]) hX d_Mo_labelOf_29 rfl (by decide) rfl ?_
      refine v_iincN (a := 2) (n := 1) (lv' := [(3, .int (iv (3))), (2, .int (iv (2))), (0, .ref (ad 358)), (1, .int (iv (((set : Nat) : Int))))]) hX d_Mo_labelOf_30 rfl 1 rfl (by decide) rfl ?_
      refine v_goto (tgt := 4) hX d_Mo_labelOf_33 (by decide) ?_
      refine v_iload_n hX d_Mo_labelOf_4 0 rfl ?_
      refine v_iconst hX (3) d_Mo_labelOf_5 ?_
      refine v_icmp_ge (tgt := 36) hX d_Mo_labelOf_6 (by decide) (by have := kCnt_le (mC n cl) set 0; have := kCnt_le (mC n cl) set 1; have := kCnt_le (mC n cl) set 2; unfold ir; omega) (by have := kCnt_le (mC n cl) set 0; have := kCnt_le (mC n cl) set 1; have := kCnt_le (mC n cl) set 2; unfold ir; omega) (fun c9 => ?_) (fun c9 => absurd c9 (by omega))
      refine v_iload_n hX d_Mo_labelOf_36 1 rfl ?_
      exact hret _ _ _ _ d_Mo_labelOf_37 (by unfold ir; omega) ⟨_, rfl, rfl, (by first | (rw [kLab_00 (by omega) (by omega)]; rfl) | (rw [kLab_02 (by omega) (by omega)]; rfl) | (rw [kLab_11 (by omega) (by omega)]; rfl) | (rw [kLab_12 (by omega) (by omega)]; rfl))⟩ rfl

set_option maxHeartbeats 1000000 in
set_option maxRecDepth 100000 in
theorem m_Mo_wrongOf {G : xG} {f0 : xF} {ad : Nat → Nat} (hj : adOk ad 400) {σ : xF} {n : Nat} {val : Nat → Nat → Int} {cl so : Nat → Nat} {de le wo : Nat} {S : Nat → Int} (hM : pMo G ad σ n val cl so de le wo S) (hD : dTab n val cl so) (set : Nat) (hs24 : set < 16777216) : ∀ l, gI l G f0 ad 400 y_Mo_wrongOf (.code y_Mo_wrongOf c_Mo_wrongOf 2 (some (.int))) rm_Mo_wrongOf [.ref (ad 358), .int (iv (((set : Nat) : Int)))] σ (fun z σ' => σ' = σ ∧ z = (((cnt set : Nat) : Int) - ((kCnt (mC n cl) set (kLab (mC n cl) set) : Nat) : Int))) := by
  intro l
  refine mI_of (rt := .int) (by decide) (Nat.le_of_ble_eq_true rfl) (fun X hX hret => ?_)
  show vV G X 0 0 0 [(0, .ref (ad 358)), (1, .int (iv (((set : Nat) : Int))))] [] (ov f0 ad 400 σ)
  obtain ⟨m0, ⟨sf, m1, m1e⟩, ⟨vf, m2, m2e⟩, ⟨cf, m3, m3e⟩⟩ := id hM
  obtain ⟨d1, d2, d3, d4⟩ := id hD
  refine v_aload_n hX d_Mo_wrongOf_0 0 rfl ?_
  refine v_iload_n hX d_Mo_wrongOf_1 1 rfl ?_
  refine g_callVI (As := [.int (iv (((set : Nat) : Int)))]) (st := []) hX hj (i := 358) (by omega) m0 (m_Mo_many hj hM hD set (by omega)) cl_Mo_87 d_Mo_wrongOf_2 rfl ⟨by decide, by decide⟩ ⟨by decide, by decide⟩ (Nat.le_of_ble_eq_true rfl) (fun z1 σ2 hz3 hp4 => ?_)
  obtain ⟨he5, hv6⟩ := hp4
  rw [he5]
  subst hv6
  refine v_aload_n hX d_Mo_wrongOf_5 0 rfl ?_
  refine v_iload_n hX d_Mo_wrongOf_6 1 rfl ?_
  refine v_aload_n hX d_Mo_wrongOf_7 0 rfl ?_
  refine v_iload_n hX d_Mo_wrongOf_8 1 rfl ?_
  refine g_callVI (As := [.int (iv (((set : Nat) : Int)))]) (st := [.int (iv (((set : Nat) : Int))), .ref (ad 358), .int (iv ((((cnt set) : Nat) : Int)))]) hX hj (i := 358) (by omega) m0 (m_Mo_labelOf hj hM hD set (by omega)) cl_Mo_91 d_Mo_wrongOf_9 rfl ⟨by decide, by decide⟩ ⟨by decide, by decide⟩ (Nat.le_of_ble_eq_true rfl) (fun z7 σ8 hz9 hp10 => ?_)
  obtain ⟨he11, hv12⟩ := hp10
  rw [he11]
  subst hv12
  refine g_callVI (As := [.int (iv (((set : Nat) : Int))), .int (iv ((((kLab (mC n cl) set) : Nat) : Int)))]) (st := [.int (iv ((((cnt set) : Nat) : Int)))]) hX hj (i := 358) (by omega) m0 (m_Mo_of hj hM hD set (kLab (mC n cl) set) (by omega) (kLab_lt _ _)) cl_Mo_83 d_Mo_wrongOf_12 rfl ⟨by decide, by decide⟩ ⟨by decide, by decide⟩ (Nat.le_of_ble_eq_true rfl) (fun z13 σ14 hz15 hp16 => ?_)
  obtain ⟨he17, hv18⟩ := hp16
  rw [he17]
  subst hv18
  refine v_isub hX d_Mo_wrongOf_15 ?_
  exact hret _ _ _ _ d_Mo_wrongOf_16 (by have := cnt_le set; have := kCnt_le (mC n cl) set (kLab (mC n cl) set); unfold ir; omega) ⟨_, rfl, rfl, rfl⟩ rfl

set_option maxHeartbeats 1000000 in
set_option maxRecDepth 100000 in
theorem m_Mo_isMixed {G : xG} {f0 : xF} {ad : Nat → Nat} (hj : adOk ad 400) {σ : xF} {n : Nat} {val : Nat → Nat → Int} {cl so : Nat → Nat} {de le wo : Nat} {S : Nat → Int} (hM : pMo G ad σ n val cl so de le wo S) (hD : dTab n val cl so) (set : Nat) (hs24 : set < 16777216) : ∀ l, gI l G f0 ad 400 y_Mo_isMixed (.code y_Mo_isMixed c_Mo_isMixed 2 (some (.boolean))) rm_Mo_isMixed [.ref (ad 358), .int (iv (((set : Nat) : Int)))] σ (fun z σ' => σ' = σ ∧ z = pI (0 < (((cnt set : Nat) : Int) - ((kCnt (mC n cl) set (kLab (mC n cl) set) : Nat) : Int)))) := by
  intro l
  refine mI_of (rt := .boolean) (by decide) (Nat.le_of_ble_eq_true rfl) (fun X hX hret => ?_)
  show vV G X 0 0 0 [(0, .ref (ad 358)), (1, .int (iv (((set : Nat) : Int))))] [] (ov f0 ad 400 σ)
  obtain ⟨m0, ⟨sf, m1, m1e⟩, ⟨vf, m2, m2e⟩, ⟨cf, m3, m3e⟩⟩ := id hM
  obtain ⟨d1, d2, d3, d4⟩ := id hD
  refine v_aload_n hX d_Mo_isMixed_0 0 rfl ?_
  refine v_iload_n hX d_Mo_isMixed_1 1 rfl ?_
  refine g_callVI (As := [.int (iv (((set : Nat) : Int)))]) (st := []) hX hj (i := 358) (by omega) m0 (m_Mo_wrongOf hj hM hD set (by omega)) cl_Mo_150 d_Mo_isMixed_2 rfl ⟨by decide, by decide⟩ ⟨by decide, by decide⟩ (Nat.le_of_ble_eq_true rfl) (fun z1 σ2 hz3 hp4 => ?_)
  obtain ⟨he5, hv6⟩ := hp4
  rw [he5]
  refine v_if_le (tgt := 12) hX d_Mo_isMixed_5 (by decide) (by first | assumption | (unfold ir at *; omega)) (fun c5_1 => ?_) (fun c5_1 => ?_)
  · refine v_iconst hX (0) d_Mo_isMixed_12 ?_
    exact hret _ _ _ _ d_Mo_isMixed_13 (by first | assumption | (unfold ir at *; omega)) ⟨_, rfl, rfl, (pI_f (by omega))⟩ rfl
  · refine v_iconst hX (1) d_Mo_isMixed_8 ?_
    refine v_goto (tgt := 13) hX d_Mo_isMixed_9 (by decide) ?_
    exact hret _ _ _ _ d_Mo_isMixed_13 (by first | assumption | (unfold ir at *; omega)) ⟨_, rfl, rfl, (pI_t (by omega))⟩ rfl

set_option maxHeartbeats 1000000 in
set_option maxRecDepth 100000 in
theorem m_Mo_isLeft {G : xG} {f0 : xF} {ad : Nat → Nat} (hj : adOk ad 400) {σ : xF} {n : Nat} {val : Nat → Nat → Int} {cl so : Nat → Nat} {de le wo : Nat} {S : Nat → Int} (hM : pMo G ad σ n val cl so de le wo S) (hD : dTab n val cl so) (v : Int) (c num side : Nat) (hc : c < 4) (hv : tk (so c) v = true) (hn : num < 128) (hsd : side ≤ 1) : ∀ l, gI l G f0 ad 400 y_Mo_isLeft (.code y_Mo_isLeft c_Mo_isLeft 5 (some (.boolean))) rm_Mo_isLeft [.ref (ad 358), .int (iv (v)), .int (iv (((c : Nat) : Int))), .int (iv (((num : Nat) : Int))), .int (iv (((side : Nat) : Int)))] σ (fun z σ' => σ' = σ ∧ z = pI (kGo (so c) v num side = true)) := by
  intro l
  refine mI_of (rt := .boolean) (by decide) (Nat.le_of_ble_eq_true rfl) (fun X hX hret => ?_)
  show vV G X 0 0 0 [(0, .ref (ad 358)), (1, .int (iv (v))), (2, .int (iv (((c : Nat) : Int)))), (3, .int (iv (((num : Nat) : Int)))), (4, .int (iv (((side : Nat) : Int))))] [] (ov f0 ad 400 σ)
  obtain ⟨m0, ⟨sf, m1, m1e⟩, ⟨vf, m2, m2e⟩, ⟨cf, m3, m3e⟩⟩ := id hM
  obtain ⟨d1, d2, d3, d4⟩ := id hD
  have hv9 := tk_of hv
  have := d4 c
  refine v_iload_n hX d_Mo_isLeft_0 1 rfl ?_
  refine v_if_ge (tgt := 17) hX d_Mo_isLeft_1 (by decide) (by first | exact ir_n (Nat.lt_of_le_of_lt Nat.and_le_right (by decide)) | (unfold ir; omega) | (have := d4 c; unfold ir; omega)) (fun c1_1 => ?_) (fun c1_1 => ?_)
  · refine v_aload_n hX d_Mo_isLeft_17 0 rfl ?_
    refine g_get (i := 358) hX hj fl_Mo_7 d_Mo_isLeft_18 (by omega) m0 rfl ?_
    refine v_iload_n hX d_Mo_isLeft_21 2 rfl ?_
    refine g_iald (i := 359) hX hj d_Mo_isLeft_22 (by omega) m1 (by decide) (c) rfl (by omega) ?_
    refine v_top (x' := iv ((((so c) : Nat) : Int))) (congrArg iv (m1e c (by omega))) ?_
    refine v_if_ne (tgt := 39) hX d_Mo_isLeft_23 (by decide) (by first | exact ir_n (Nat.lt_of_le_of_lt Nat.and_le_right (by decide)) | (unfold ir; omega) | (have := d4 c; unfold ir; omega)) (fun c23_2 => ?_) (fun c23_2 => ?_)
    · refine v_iload_n hX d_Mo_isLeft_39 3 rfl ?_
      refine v_iload_n hX d_Mo_isLeft_40 1 rfl ?_
      refine v_eq (st' := [.int (iv (((v.toNat : Nat) : Int))), .int (iv (((num : Nat) : Int)))]) (by rw [show ((v.toNat : Nat) : Int) = v by omega]) ?_
      refine v_ishr (z := (((num / 2 ^ v.toNat) : Nat) : Int)) hX d_Mo_isLeft_41 (iv_shr (num) (by omega) (v.toNat) (by omega)) ?_
      refine v_iconst hX (1) d_Mo_isLeft_42 ?_
      refine v_iand (z := ((((num / 2 ^ v.toNat) &&& 1) : Nat) : Int)) hX d_Mo_isLeft_43 (iv_and ((num / 2 ^ v.toNat)) (1)) ?_
      refine v_iconst hX (1) d_Mo_isLeft_44 ?_
      refine v_icmp_ne (tgt := 52) hX d_Mo_isLeft_45 (by decide) (by first | exact ir_n (Nat.lt_of_le_of_lt Nat.and_le_right (by decide)) | (unfold ir; omega) | (have := d4 c; unfold ir; omega)) (by first | exact ir_n (Nat.lt_of_le_of_lt Nat.and_le_right (by decide)) | (unfold ir; omega) | (have := d4 c; unfold ir; omega)) (fun c45_3 => ?_) (fun c45_3 => ?_)
      · refine v_iconst hX (0) d_Mo_isLeft_52 ?_
        exact hret _ _ _ _ d_Mo_isLeft_53 (by unfold ir; omega) ⟨_, rfl, rfl, by first | exact pI_f (by (try simp only [kGo, lfP]); (first | rw [if_pos (show v < 0 by omega)] | rw [if_neg (show ¬ v < 0 by omega)]); (try (first | rw [if_pos (show so c = 1 by omega)] | rw [if_neg (show ¬ so c = 1 by omega)])); simp only [decide_eq_true_eq]; omega)⟩ rfl
      · refine v_iconst hX (1) d_Mo_isLeft_48 ?_
        refine v_goto (tgt := 53) hX d_Mo_isLeft_49 (by decide) ?_
        exact hret _ _ _ _ d_Mo_isLeft_53 (by unfold ir; omega) ⟨_, rfl, rfl, by first | exact pI_t (by (try simp only [kGo, lfP]); (first | rw [if_pos (show v < 0 by omega)] | rw [if_neg (show ¬ v < 0 by omega)]); (try (first | rw [if_pos (show so c = 1 by omega)] | rw [if_neg (show ¬ so c = 1 by omega)])); simp only [decide_eq_true_eq]; omega)⟩ rfl
    · refine v_iload_n hX d_Mo_isLeft_26 1 rfl ?_
      refine v_iload_n hX d_Mo_isLeft_27 3 rfl ?_
      refine v_icmp_gt (tgt := 35) hX d_Mo_isLeft_28 (by decide) (by first | exact ir_n (Nat.lt_of_le_of_lt Nat.and_le_right (by decide)) | (unfold ir; omega) | (have := d4 c; unfold ir; omega)) (by first | exact ir_n (Nat.lt_of_le_of_lt Nat.and_le_right (by decide)) | (unfold ir; omega) | (have := d4 c; unfold ir; omega)) (fun c28_4 => ?_) (fun c28_4 => ?_)
      · refine v_iconst hX (0) d_Mo_isLeft_35 ?_
        refine v_goto (tgt := 53) hX d_Mo_isLeft_36 (by decide) ?_
        exact hret _ _ _ _ d_Mo_isLeft_53 (by unfold ir; omega) ⟨_, rfl, rfl, by first | exact pI_f (by (try simp only [kGo, lfP]); (first | rw [if_pos (show v < 0 by omega)] | rw [if_neg (show ¬ v < 0 by omega)]); (try (first | rw [if_pos (show so c = 1 by omega)] | rw [if_neg (show ¬ so c = 1 by omega)])); simp only [decide_eq_true_eq]; omega)⟩ rfl
      · refine v_iconst hX (1) d_Mo_isLeft_31 ?_
        refine v_goto (tgt := 53) hX d_Mo_isLeft_32 (by decide) ?_
        exact hret _ _ _ _ d_Mo_isLeft_53 (by unfold ir; omega) ⟨_, rfl, rfl, by first | exact pI_t (by (try simp only [kGo, lfP]); (first | rw [if_pos (show v < 0 by omega)] | rw [if_neg (show ¬ v < 0 by omega)]); (try (first | rw [if_pos (show so c = 1 by omega)] | rw [if_neg (show ¬ so c = 1 by omega)])); simp only [decide_eq_true_eq]; omega)⟩ rfl
  · refine v_iload hX d_Mo_isLeft_4 4 rfl ?_
    refine v_if_ne (tgt := 13) hX d_Mo_isLeft_6 (by decide) (by first | exact ir_n (Nat.lt_of_le_of_lt Nat.and_le_right (by decide)) | (unfold ir; omega) | (have := d4 c; unfold ir; omega)) (fun c6_5 => ?_) (fun c6_5 => ?_)
    · refine v_iconst hX (0) d_Mo_isLeft_13 ?_
      refine v_goto (tgt := 53) hX d_Mo_isLeft_14 (by decide) ?_
      exact hret _ _ _ _ d_Mo_isLeft_53 (by unfold ir; omega) ⟨_, rfl, rfl, by first | exact pI_f (by (try simp only [kGo, lfP]); (first | rw [if_pos (show v < 0 by omega)] | rw [if_neg (show ¬ v < 0 by omega)]); (try (first | rw [if_pos (show so c = 1 by omega)] | rw [if_neg (show ¬ so c = 1 by omega)])); simp only [decide_eq_true_eq]; omega)⟩ rfl
    · refine v_iconst hX (1) d_Mo_isLeft_9 ?_
      refine v_goto (tgt := 53) hX d_Mo_isLeft_10 (by decide) ?_
      exact hret _ _ _ _ d_Mo_isLeft_53 (by unfold ir; omega) ⟨_, rfl, rfl, by first | exact pI_t (by (try simp only [kGo, lfP]); (first | rw [if_pos (show v < 0 by omega)] | rw [if_neg (show ¬ v < 0 by omega)]); (try (first | rw [if_pos (show so c = 1 by omega)] | rw [if_neg (show ¬ so c = 1 by omega)])); simp only [decide_eq_true_eq]; omega)⟩ rfl

set_option maxHeartbeats 1000000 in
set_option maxRecDepth 100000 in
theorem m_Mo_goesLeft {G : xG} {f0 : xF} {ad : Nat → Nat} (hj : adOk ad 400) {σ : xF} {n : Nat} {val : Nat → Nat → Int} {cl so : Nat → Nat} {de le wo : Nat} {S : Nat → Int} (hM : pMo G ad σ n val cl so de le wo S) (hD : dTab n val cl so) (r c num side : Nat) (hr : r < n) (hc : c < 4) (hn : num < 128) (hsd : side ≤ 1) : ∀ l, gI l G f0 ad 400 y_Mo_goesLeft (.code y_Mo_goesLeft c_Mo_goesLeft 6 (some (.boolean))) rm_Mo_goesLeft [.ref (ad 358), .int (iv (((r : Nat) : Int))), .int (iv (((c : Nat) : Int))), .int (iv (((num : Nat) : Int))), .int (iv (((side : Nat) : Int)))] σ (fun z σ' => σ' = σ ∧ z = pI (goP val so c num side r = true)) := by
  intro l
  refine mI_of (rt := .boolean) (by decide) (Nat.le_of_ble_eq_true rfl) (fun X hX hret => ?_)
  show vV G X 0 0 0 [(0, .ref (ad 358)), (1, .int (iv (((r : Nat) : Int)))), (2, .int (iv (((c : Nat) : Int)))), (3, .int (iv (((num : Nat) : Int)))), (4, .int (iv (((side : Nat) : Int))))] [] (ov f0 ad 400 σ)
  obtain ⟨m0, ⟨sf, m1, m1e⟩, ⟨vf, m2, m2e⟩, ⟨cf, m3, m3e⟩⟩ := id hM
  obtain ⟨d1, d2, d3, d4⟩ := id hD
  refine v_aload_n hX d_Mo_goesLeft_0 0 rfl ?_
  refine g_get (i := 358) hX hj fl_Mo_13 d_Mo_goesLeft_1 (by omega) m0 rfl ?_
  refine v_iconst hX (4) d_Mo_goesLeft_4 ?_
  refine v_iload_n hX d_Mo_goesLeft_5 1 rfl ?_
  refine v_imulN (a := 4) (b := r) hX d_Mo_goesLeft_6 ?_
  refine v_iload_n hX d_Mo_goesLeft_7 2 rfl ?_
  refine v_iaddN (a := (4 * r)) (b := c) hX d_Mo_goesLeft_8 ?_
  refine g_iald (i := 360) hX hj d_Mo_goesLeft_9 (by omega) m2 (by decide) (((4 * r) + c)) rfl (by omega) ?_
  refine v_top (x' := iv ((val r c))) (congrArg iv (m2e r c (by omega) (by omega))) ?_
  refine v_istore (lv' := [(5, .int (iv ((val r c)))), (0, .ref (ad 358)), (1, .int (iv (((r : Nat) : Int)))), (2, .int (iv (((c : Nat) : Int)))), (3, .int (iv (((num : Nat) : Int)))), (4, .int (iv (((side : Nat) : Int))))]) hX d_Mo_goesLeft_10 (by decide) rfl ?_
  refine v_aload_n hX d_Mo_goesLeft_12 1 rfl ?_
  refine v_iload hX d_Mo_goesLeft_13 0 rfl ?_
  refine v_iload_n hX d_Mo_goesLeft_15 3 rfl ?_
  refine v_iload_n hX d_Mo_goesLeft_16 4 rfl ?_
  refine v_iload hX d_Mo_goesLeft_17 5 rfl ?_
  refine g_callVI (As := [.int (iv ((val r c))), .int (iv (((c : Nat) : Int))), .int (iv (((num : Nat) : Int))), .int (iv (((side : Nat) : Int)))]) (st := []) hX hj (i := 358) (by omega) m0 (m_Mo_isLeft hj hM hD (val r c) c num side hc (tks_iff.mp (d2 r hr) c hc) hn hsd) cl_Mo_94 d_Mo_goesLeft_19 rfl ⟨by decide, by decide⟩ ⟨by decide, by decide⟩ (Nat.le_of_ble_eq_true rfl) (fun z1 σ2 hz3 hp4 => ?_)
  obtain ⟨he5, hv6⟩ := hp4
  rw [he5]
  by_cases qz1 : kGo (so c) (val r c) num side = true
  · have z1e : z1 = 1 := hv6.trans (if_pos qz1)
    subst z1e
    exact hret _ _ _ _ d_Mo_goesLeft_22 (by unfold ir; omega) ⟨_, rfl, rfl, (pI_t (by assumption))⟩ rfl
  · have z1e : z1 = 0 := hv6.trans (if_neg qz1)
    subst z1e
    exact hret _ _ _ _ d_Mo_goesLeft_22 (by unfold ir; omega) ⟨_, rfl, rfl, (pI_f (by assumption))⟩ rfl

set_option maxHeartbeats 1000000 in
set_option maxRecDepth 100000 in
theorem m_Mo_leftOf {G : xG} {f0 : xF} {ad : Nat → Nat} (hj : adOk ad 400) {σ : xF} {n : Nat} {val : Nat → Nat → Int} {cl so : Nat → Nat} {de le wo : Nat} {S : Nat → Int} (hM : pMo G ad σ n val cl so de le wo S) (hD : dTab n val cl so) (set : Nat) (hs : set < 2 ^ n) (c num side : Nat) (hc : c < 4) (hnl : num < lstN (so c)) (hsd : side ≤ 1) : ∀ l, gI l G f0 ad 400 y_Mo_leftOf (.code y_Mo_leftOf c_Mo_leftOf 7 (some (.int))) rm_Mo_leftOf [.ref (ad 358), .int (iv (((set : Nat) : Int))), .int (iv (((c : Nat) : Int))), .int (iv (((num : Nat) : Int))), .int (iv (((side : Nat) : Int)))] σ (fun z σ' => σ' = σ ∧ z = ((kLeft (mK n val) (mLf n val so) set c num side : Nat) : Int)) := by
  intro l
  refine mI_of (rt := .int) (by decide) (Nat.le_of_ble_eq_true rfl) (fun X hX hret => ?_)
  show vV G X 0 0 0 [(0, .ref (ad 358)), (1, .int (iv (((set : Nat) : Int)))), (2, .int (iv (((c : Nat) : Int)))), (3, .int (iv (((num : Nat) : Int)))), (4, .int (iv (((side : Nat) : Int))))] [] (ov f0 ad 400 σ)
  obtain ⟨m0, ⟨sf, m1, m1e⟩, ⟨vf, m2, m2e⟩, ⟨cf, m3, m3e⟩⟩ := id hM
  obtain ⟨d1, d2, d3, d4⟩ := id hD
  have hs24 : set < 16777216 := Nat.lt_of_lt_of_le hs (Nat.pow_le_pow_right (by decide) d1 : 2 ^ n ≤ 2 ^ 24)
  have hn : num < 128 := by have h9 : lstN (so c) ≤ 101 := (by unfold lstN; split <;> omega); omega
  refine v_iconst hX (0) d_Mo_leftOf_0 ?_
  refine v_istore (lv' := [(5, .int (iv (0))), (0, .ref (ad 358)), (1, .int (iv (((set : Nat) : Int)))), (2, .int (iv (((c : Nat) : Int)))), (3, .int (iv (((num : Nat) : Int)))), (4, .int (iv (((side : Nat) : Int))))]) hX d_Mo_leftOf_1 (by decide) rfl ?_
  refine v_iconst hX (0) d_Mo_leftOf_3 ?_
  refine v_istore (lv' := [(6, .int (iv (0))), (5, .int (iv (0))), (0, .ref (ad 358)), (1, .int (iv (((set : Nat) : Int)))), (2, .int (iv (((c : Nat) : Int)))), (3, .int (iv (((num : Nat) : Int)))), (4, .int (iv (((side : Nat) : Int))))]) hX d_Mo_leftOf_4 (by decide) rfl ?_
  have LOOP : ∀ (fuel : Nat) (r : Nat), n - r < fuel → (r ≤ n) → vV G X 0 0 6 [(0, .ref (ad 358)), (1, .int (iv (((set : Nat) : Int)))), (2, .int (iv (((c : Nat) : Int)))), (3, .int (iv (((num : Nat) : Int)))), (4, .int (iv (((side : Nat) : Int)))), (5, .int (iv ((((lfF val so set c num side r) : Nat) : Int)))), (6, .int (iv (((r : Nat) : Int))))] [] (ov f0 ad 400 σ) := by
    intro fuel
    induction fuel with
    | zero => intro r hm; exact absurd hm (Nat.not_lt_zero _)
    | succ fuel ih_LOOP =>
      intro r hm hr
      have hp : (lfF val so set c num side r) < 2 ^ 24 := Nat.lt_of_lt_of_le (lfF_lt val so set c num side r) (Nat.pow_le_pow_right (by decide) (by omega))
      refine v_iload hX d_Mo_leftOf_6 6 rfl ?_
      refine v_aload_n hX d_Mo_leftOf_8 0 rfl ?_
      refine g_get (i := 358) hX hj fl_Mo_69 d_Mo_leftOf_9 (by omega) m0 rfl ?_
      refine v_icmp_ge (tgt := 57) hX d_Mo_leftOf_12 (by decide) (by unfold ir; omega) (by unfold ir; omega) (fun c12_1 => ?_) (fun c12_1 => ?_)
      · refine v_iload hX d_Mo_leftOf_57 5 rfl ?_
        have e : r = n := by omega
        subst e
        exact hret _ _ _ _ d_Mo_leftOf_59 (by unfold ir; omega) ⟨_, rfl, rfl, congrArg (fun q : Nat => (q : Int)) (lfF_k hs hc hnl hsd)⟩ rfl
      · refine v_iload hX d_Mo_leftOf_15 5 rfl ?_
        refine v_iload_n hX d_Mo_leftOf_17 1 rfl ?_
        refine v_iload hX d_Mo_leftOf_18 6 rfl ?_
        refine v_ishr (z := (((set / 2 ^ r) : Nat) : Int)) hX d_Mo_leftOf_20 (iv_shr (set) (by omega) (r) (by omega)) ?_
        refine v_iconst hX (1) d_Mo_leftOf_21 ?_
        refine v_iand (z := ((((set / 2 ^ r) &&& 1) : Nat) : Int)) hX d_Mo_leftOf_22 (iv_and ((set / 2 ^ r)) (1)) ?_
        by_cases hbit : set.testBit r = true
        · refine v_top (x' := iv ((1 : Nat) : Int)) (congrArg (fun q : Nat => iv (q : Int)) (bit1_t hbit)) ?_
          refine v_iconst hX (1) d_Mo_leftOf_23 ?_
          refine v_icmp_ne (tgt := 47) hX d_Mo_leftOf_24 (by decide) (by unfold ir; omega) (by unfold ir; omega) (fun c9 => absurd c9 (by omega)) (fun c9 => ?_)
          refine v_aload_n hX d_Mo_leftOf_27 0 rfl ?_
          refine v_iload hX d_Mo_leftOf_28 6 rfl ?_
          refine v_iload_n hX d_Mo_leftOf_30 2 rfl ?_
          refine v_iload_n hX d_Mo_leftOf_31 3 rfl ?_
          refine v_iload hX d_Mo_leftOf_32 4 rfl ?_
          refine g_callVI (As := [.int (iv (((r : Nat) : Int))), .int (iv (((c : Nat) : Int))), .int (iv (((num : Nat) : Int))), .int (iv (((side : Nat) : Int)))]) (st := [.int (iv ((((lfF val so set c num side r) : Nat) : Int)))]) hX hj (i := 358) (by omega) m0 (m_Mo_goesLeft hj hM hD r c num side (by omega) hc hn hsd) cl_Mo_108 d_Mo_leftOf_34 rfl ⟨by decide, by decide⟩ ⟨by decide, by decide⟩ (Nat.le_of_ble_eq_true rfl) (fun z1 σ2 hz3 hp4 => ?_)
          obtain ⟨he5, hv6⟩ := hp4
          rw [he5]
          by_cases qz1 : goP val so c num side r = true
          · have z1e : z1 = 1 := hv6.trans (if_pos qz1)
            subst z1e
            refine v_if_eq (tgt := 47) hX d_Mo_leftOf_37 (by decide) (by unfold ir; omega) (fun c9 => absurd c9 (by omega)) (fun c9 => ?_)
            refine v_iconst hX (1) d_Mo_leftOf_40 ?_
            refine v_iload hX d_Mo_leftOf_41 6 rfl ?_
            refine v_ishl (z := (((2 ^ r) : Nat) : Int)) hX d_Mo_leftOf_43 (iv_shl1 (r) (by omega)) ?_
            refine v_goto (tgt := 48) hX d_Mo_leftOf_44 (by decide) ?_
            refine v_ior (z := ((((lfF val so set c num side r) ||| (2 ^ r)) : Nat) : Int)) hX d_Mo_leftOf_48 (iv_or ((lfF val so set c num side r)) ((2 ^ r))) ?_
            refine v_top (x' := iv (((lfF val so set c num side (r + 1)) : Nat) : Int)) (congrArg (fun q : Nat => iv (q : Int)) (lfF_t ⟨hbit, by assumption⟩)) ?_
            refine v_istore (lv' := [(5, .int (iv ((((lfF val so set c num side (r + 1)) : Nat) : Int)))), (0, .ref (ad 358)), (1, .int (iv (((set : Nat) : Int)))), (2, .int (iv (((c : Nat) : Int)))), (3, .int (iv (((num : Nat) : Int)))), (4, .int (iv (((side : Nat) : Int)))), (6, .int (iv (((r : Nat) : Int))))]) hX d_Mo_leftOf_49 (by decide) rfl ?_
            refine v_iincN (a := r) (n := 1) (lv' := [(6, .int (iv ((((r + 1) : Nat) : Int)))), (5, .int (iv ((((lfF val so set c num side (r + 1)) : Nat) : Int)))), (0, .ref (ad 358)), (1, .int (iv (((set : Nat) : Int)))), (2, .int (iv (((c : Nat) : Int)))), (3, .int (iv (((num : Nat) : Int)))), (4, .int (iv (((side : Nat) : Int))))]) hX d_Mo_leftOf_51 rfl 6 rfl (by decide) rfl ?_
            refine v_goto (tgt := 6) hX d_Mo_leftOf_54 (by decide) ?_
            refine v_lv [2, 3, 4, 5, 6, 1, 0] rfl ?_
            exact ih_LOOP (r + 1) (by omega) (by omega)
          · have z1e : z1 = 0 := hv6.trans (if_neg qz1)
            subst z1e
            refine v_if_eq (tgt := 47) hX d_Mo_leftOf_37 (by decide) (by unfold ir; omega) (fun c9 => ?_) (fun c9 => absurd c9 (by omega))
            refine v_iconst hX (0) d_Mo_leftOf_47 ?_
            refine v_ior (z := ((((lfF val so set c num side r) ||| 0) : Nat) : Int)) hX d_Mo_leftOf_48 (iv_or ((lfF val so set c num side r)) (0)) ?_
            refine v_top (x' := iv (((lfF val so set c num side (r + 1)) : Nat) : Int)) (congrArg (fun q : Nat => iv (q : Int)) (lfF_f (fun q => by first | exact absurd q.1 hbit | exact absurd q.2 (by assumption)))) ?_
            refine v_istore (lv' := [(5, .int (iv ((((lfF val so set c num side (r + 1)) : Nat) : Int)))), (0, .ref (ad 358)), (1, .int (iv (((set : Nat) : Int)))), (2, .int (iv (((c : Nat) : Int)))), (3, .int (iv (((num : Nat) : Int)))), (4, .int (iv (((side : Nat) : Int)))), (6, .int (iv (((r : Nat) : Int))))]) hX d_Mo_leftOf_49 (by decide) rfl ?_
            refine v_iincN (a := r) (n := 1) (lv' := [(6, .int (iv ((((r + 1) : Nat) : Int)))), (5, .int (iv ((((lfF val so set c num side (r + 1)) : Nat) : Int)))), (0, .ref (ad 358)), (1, .int (iv (((set : Nat) : Int)))), (2, .int (iv (((c : Nat) : Int)))), (3, .int (iv (((num : Nat) : Int)))), (4, .int (iv (((side : Nat) : Int))))]) hX d_Mo_leftOf_51 rfl 6 rfl (by decide) rfl ?_
            refine v_goto (tgt := 6) hX d_Mo_leftOf_54 (by decide) ?_
            refine v_lv [2, 3, 4, 5, 6, 1, 0] rfl ?_
            exact ih_LOOP (r + 1) (by omega) (by omega)
        · refine v_top (x' := iv ((0 : Nat) : Int)) (congrArg (fun q : Nat => iv (q : Int)) (bit1_f hbit)) ?_
          refine v_iconst hX (1) d_Mo_leftOf_23 ?_
          refine v_icmp_ne (tgt := 47) hX d_Mo_leftOf_24 (by decide) (by unfold ir; omega) (by unfold ir; omega) (fun c9 => ?_) (fun c9 => absurd c9 (by omega))
          refine v_iconst hX (0) d_Mo_leftOf_47 ?_
          refine v_ior (z := ((((lfF val so set c num side r) ||| 0) : Nat) : Int)) hX d_Mo_leftOf_48 (iv_or ((lfF val so set c num side r)) (0)) ?_
          refine v_top (x' := iv (((lfF val so set c num side (r + 1)) : Nat) : Int)) (congrArg (fun q : Nat => iv (q : Int)) (lfF_f (fun q => by first | exact absurd q.1 hbit | exact absurd q.2 (by assumption)))) ?_
          refine v_istore (lv' := [(5, .int (iv ((((lfF val so set c num side (r + 1)) : Nat) : Int)))), (0, .ref (ad 358)), (1, .int (iv (((set : Nat) : Int)))), (2, .int (iv (((c : Nat) : Int)))), (3, .int (iv (((num : Nat) : Int)))), (4, .int (iv (((side : Nat) : Int)))), (6, .int (iv (((r : Nat) : Int))))]) hX d_Mo_leftOf_49 (by decide) rfl ?_
          refine v_iincN (a := r) (n := 1) (lv' := [(6, .int (iv ((((r + 1) : Nat) : Int)))), (5, .int (iv ((((lfF val so set c num side (r + 1)) : Nat) : Int)))), (0, .ref (ad 358)), (1, .int (iv (((set : Nat) : Int)))), (2, .int (iv (((c : Nat) : Int)))), (3, .int (iv (((num : Nat) : Int)))), (4, .int (iv (((side : Nat) : Int))))]) hX d_Mo_leftOf_51 rfl 6 rfl (by decide) rfl ?_
          refine v_goto (tgt := 6) hX d_Mo_leftOf_54 (by decide) ?_
          refine v_lv [2, 3, 4, 5, 6, 1, 0] rfl ?_
          exact ih_LOOP (r + 1) (by omega) (by omega)
  refine v_lv [2, 3, 4, 5, 6, 1, 0] rfl ?_
  exact LOOP _ (0) (Nat.lt_succ_self _) (Nat.zero_le _)

set_option maxHeartbeats 1000000 in
set_option maxRecDepth 100000 in
theorem m_Mo_kindsOf {G : xG} {f0 : xF} {ad : Nat → Nat} (hj : adOk ad 400) {σ : xF} {n : Nat} {val : Nat → Nat → Int} {cl so : Nat → Nat} {de le wo : Nat} {S : Nat → Int} (hM : pMo G ad σ n val cl so de le wo S) (hD : dTab n val cl so) (set : Nat) (hs : set < 2 ^ n) (c : Nat) (hc : c < 4) (h1 : so c = 1) : ∀ l, gI l G f0 ad 400 y_Mo_kindsOf (.code y_Mo_kindsOf c_Mo_kindsOf 5 (some (.int))) rm_Mo_kindsOf [.ref (ad 358), .int (iv (((set : Nat) : Int))), .int (iv (((c : Nat) : Int)))] σ (fun z σ' => σ' = σ ∧ z = (((kdF val set c n) : Nat) : Int)) := by
  intro l
  refine mI_of (rt := .int) (by decide) (Nat.le_of_ble_eq_true rfl) (fun X hX hret => ?_)
  show vV G X 0 0 0 [(0, .ref (ad 358)), (1, .int (iv (((set : Nat) : Int)))), (2, .int (iv (((c : Nat) : Int))))] [] (ov f0 ad 400 σ)
  obtain ⟨m0, ⟨sf, m1, m1e⟩, ⟨vf, m2, m2e⟩, ⟨cf, m3, m3e⟩⟩ := id hM
  obtain ⟨d1, d2, d3, d4⟩ := id hD
  have hs24 : set < 16777216 := Nat.lt_of_lt_of_le hs (Nat.pow_le_pow_right (by decide) d1 : 2 ^ n ≤ 2 ^ 24)
  have h5 : ∀ i, i < n → val i c ≤ 5 ∧ -1 ≤ val i c := fun i hi => ⟨(tk_of (tks_iff.mp (d2 i hi) c hc)).2.2 h1, (tk_of (tks_iff.mp (d2 i hi) c hc)).1⟩
  refine v_iconst hX (0) d_Mo_kindsOf_0 ?_
  refine v_istore_n (lv' := [(3, .int (iv (0))), (0, .ref (ad 358)), (1, .int (iv (((set : Nat) : Int)))), (2, .int (iv (((c : Nat) : Int))))]) hX d_Mo_kindsOf_1 rfl (by decide) rfl ?_
  refine v_iconst hX (0) d_Mo_kindsOf_2 ?_
  refine v_istore (lv' := [(4, .int (iv (0))), (3, .int (iv (0))), (0, .ref (ad 358)), (1, .int (iv (((set : Nat) : Int)))), (2, .int (iv (((c : Nat) : Int))))]) hX d_Mo_kindsOf_3 (by decide) rfl ?_
  have LOOP : ∀ (fuel : Nat) (r : Nat), n - r < fuel → (r ≤ n) → vV G X 0 0 5 [(0, .ref (ad 358)), (1, .int (iv (((set : Nat) : Int)))), (2, .int (iv (((c : Nat) : Int)))), (3, .int (iv ((((kdF val set c r) : Nat) : Int)))), (4, .int (iv (((r : Nat) : Int))))] [] (ov f0 ad 400 σ) := by
    intro fuel
    induction fuel with
    | zero => intro r hm; exact absurd hm (Nat.not_lt_zero _)
    | succ fuel ih_LOOP =>
      intro r hm hr
      have hp : (kdF val set c r) < 64 := kdF_lt r (fun i hi => (h5 i (by omega)).1)
      refine v_iload hX d_Mo_kindsOf_5 4 rfl ?_
      refine v_aload_n hX d_Mo_kindsOf_7 0 rfl ?_
      refine g_get (i := 358) hX hj fl_Mo_69 d_Mo_kindsOf_8 (by omega) m0 rfl ?_
      refine v_icmp_ge (tgt := 64) hX d_Mo_kindsOf_11 (by decide) (by first | (unfold ir; omega) | (have := h5 r (by omega); unfold ir; omega)) (by first | (unfold ir; omega) | (have := h5 r (by omega); unfold ir; omega)) (fun c11_1 => ?_) (fun c11_1 => ?_)
      · refine v_iload_n hX d_Mo_kindsOf_64 3 rfl ?_
        have e : r = n := by omega
        subst e
        exact hret _ _ _ _ d_Mo_kindsOf_65 (by unfold ir; omega) ⟨_, rfl, rfl, rfl⟩ rfl
      · refine v_iload_n hX d_Mo_kindsOf_14 3 rfl ?_
        refine v_iload_n hX d_Mo_kindsOf_15 1 rfl ?_
        refine v_iload hX d_Mo_kindsOf_16 4 rfl ?_
        refine v_ishr (z := (((set / 2 ^ r) : Nat) : Int)) hX d_Mo_kindsOf_18 (iv_shr (set) (by omega) (r) (by omega)) ?_
        refine v_iconst hX (1) d_Mo_kindsOf_19 ?_
        refine v_iand (z := ((((set / 2 ^ r) &&& 1) : Nat) : Int)) hX d_Mo_kindsOf_20 (iv_and ((set / 2 ^ r)) (1)) ?_
        by_cases hbit : set.testBit r = true
        · refine v_top (x' := iv ((1 : Nat) : Int)) (congrArg (fun q : Nat => iv (q : Int)) (bit1_t hbit)) ?_
          refine v_iconst hX (1) d_Mo_kindsOf_21 ?_
          refine v_icmp_ne (tgt := 55) hX d_Mo_kindsOf_22 (by decide) (by first | (unfold ir; omega) | (have := h5 r (by omega); unfold ir; omega)) (by first | (unfold ir; omega) | (have := h5 r (by omega); unfold ir; omega)) (fun c9 => absurd c9 (by omega)) (fun c9 => ?_)
          refine v_aload_n hX d_Mo_kindsOf_25 0 rfl ?_
          refine g_get (i := 358) hX hj fl_Mo_13 d_Mo_kindsOf_26 (by omega) m0 rfl ?_
          refine v_iconst hX (4) d_Mo_kindsOf_29 ?_
          refine v_iload hX d_Mo_kindsOf_30 4 rfl ?_
          refine v_imulN (a := 4) (b := r) hX d_Mo_kindsOf_32 ?_
          refine v_iload_n hX d_Mo_kindsOf_33 2 rfl ?_
          refine v_iaddN (a := (4 * r)) (b := c) hX d_Mo_kindsOf_34 ?_
          refine g_iald (i := 360) hX hj d_Mo_kindsOf_35 (by omega) m2 (by decide) (((4 * r) + c)) rfl (by omega) ?_
          refine v_top (x' := iv ((val r c))) (congrArg iv (m2e r c (by omega) (by omega))) ?_
          refine v_if_lt (tgt := 55) hX d_Mo_kindsOf_36 (by decide) (by first | (unfold ir; omega) | (have := h5 r (by omega); unfold ir; omega)) (fun c36_3 => ?_) (fun c36_3 => ?_)
          · refine v_iconst hX (0) d_Mo_kindsOf_55 ?_
            refine v_ior (z := ((((kdF val set c r) ||| 0) : Nat) : Int)) hX d_Mo_kindsOf_56 (iv_or ((kdF val set c r)) (0)) ?_
            refine v_top (x' := iv (((kdF val set c (r + 1)) : Nat) : Int)) (congrArg (fun q : Nat => iv (q : Int)) (kdF_f (fun q => by first | exact absurd q.1 hbit | exact absurd q.2 (by omega)))) ?_
            refine v_istore_n (lv' := [(3, .int (iv ((((kdF val set c (r + 1)) : Nat) : Int)))), (0, .ref (ad 358)), (1, .int (iv (((set : Nat) : Int)))), (2, .int (iv (((c : Nat) : Int)))), (4, .int (iv (((r : Nat) : Int))))]) hX d_Mo_kindsOf_57 rfl (by decide) rfl ?_
            refine v_iincN (a := r) (n := 1) (lv' := [(4, .int (iv ((((r + 1) : Nat) : Int)))), (3, .int (iv ((((kdF val set c (r + 1)) : Nat) : Int)))), (0, .ref (ad 358)), (1, .int (iv (((set : Nat) : Int)))), (2, .int (iv (((c : Nat) : Int))))]) hX d_Mo_kindsOf_58 rfl 4 rfl (by decide) rfl ?_
            refine v_goto (tgt := 5) hX d_Mo_kindsOf_61 (by decide) ?_
            refine v_lv [2, 3, 4, 1, 0] rfl ?_
            exact ih_LOOP (r + 1) (by omega) (by omega)
          · refine v_iconst hX (1) d_Mo_kindsOf_39 ?_
            refine v_aload_n hX d_Mo_kindsOf_40 0 rfl ?_
            refine g_get (i := 358) hX hj fl_Mo_13 d_Mo_kindsOf_41 (by omega) m0 rfl ?_
            refine v_iconst hX (4) d_Mo_kindsOf_44 ?_
            refine v_iload hX d_Mo_kindsOf_45 4 rfl ?_
            refine v_imulN (a := 4) (b := r) hX d_Mo_kindsOf_47 ?_
            refine v_iload_n hX d_Mo_kindsOf_48 2 rfl ?_
            refine v_iaddN (a := (4 * r)) (b := c) hX d_Mo_kindsOf_49 ?_
            refine g_iald (i := 360) hX hj d_Mo_kindsOf_50 (by omega) m2 (by decide) (((4 * r) + c)) rfl (by omega) ?_
            refine v_top (x' := iv ((val r c))) (congrArg iv (m2e r c (by omega) (by omega))) ?_
            have h5r := h5 r (by omega)
            refine v_eq (st' := [.int (iv ((((val r c).toNat : Nat) : Int))), .int (iv (1)), .int (iv ((((kdF val set c r) : Nat) : Int)))]) (by rw [show (((val r c).toNat : Nat) : Int) = val r c by omega]) ?_
            refine v_ishl (z := (((2 ^ (val r c).toNat) : Nat) : Int)) hX d_Mo_kindsOf_51 (iv_shl1 ((val r c).toNat) (by omega)) ?_
            refine v_goto (tgt := 56) hX d_Mo_kindsOf_52 (by decide) ?_
            refine v_ior (z := ((((kdF val set c r) ||| (2 ^ (val r c).toNat)) : Nat) : Int)) hX d_Mo_kindsOf_56 (iv_or ((kdF val set c r)) ((2 ^ (val r c).toNat))) ?_
            refine v_top (x' := iv (((kdF val set c (r + 1)) : Nat) : Int)) (congrArg (fun q : Nat => iv (q : Int)) (kdF_t ⟨hbit, by omega⟩)) ?_
            refine v_istore_n (lv' := [(3, .int (iv ((((kdF val set c (r + 1)) : Nat) : Int)))), (0, .ref (ad 358)), (1, .int (iv (((set : Nat) : Int)))), (2, .int (iv (((c : Nat) : Int)))), (4, .int (iv (((r : Nat) : Int))))]) hX d_Mo_kindsOf_57 rfl (by decide) rfl ?_
            refine v_iincN (a := r) (n := 1) (lv' := [(4, .int (iv ((((r + 1) : Nat) : Int)))), (3, .int (iv ((((kdF val set c (r + 1)) : Nat) : Int)))), (0, .ref (ad 358)), (1, .int (iv (((set : Nat) : Int)))), (2, .int (iv (((c : Nat) : Int))))]) hX d_Mo_kindsOf_58 rfl 4 rfl (by decide) rfl ?_
            refine v_goto (tgt := 5) hX d_Mo_kindsOf_61 (by decide) ?_
            refine v_lv [2, 3, 4, 1, 0] rfl ?_
            exact ih_LOOP (r + 1) (by omega) (by omega)
        · refine v_top (x' := iv ((0 : Nat) : Int)) (congrArg (fun q : Nat => iv (q : Int)) (bit1_f hbit)) ?_
          refine v_iconst hX (1) d_Mo_kindsOf_21 ?_
          refine v_icmp_ne (tgt := 55) hX d_Mo_kindsOf_22 (by decide) (by first | (unfold ir; omega) | (have := h5 r (by omega); unfold ir; omega)) (by first | (unfold ir; omega) | (have := h5 r (by omega); unfold ir; omega)) (fun c9 => ?_) (fun c9 => absurd c9 (by omega))
          refine v_iconst hX (0) d_Mo_kindsOf_55 ?_
          refine v_ior (z := ((((kdF val set c r) ||| 0) : Nat) : Int)) hX d_Mo_kindsOf_56 (iv_or ((kdF val set c r)) (0)) ?_
          refine v_top (x' := iv (((kdF val set c (r + 1)) : Nat) : Int)) (congrArg (fun q : Nat => iv (q : Int)) (kdF_f (fun q => by first | exact absurd q.1 hbit | exact absurd q.2 (by omega)))) ?_
          refine v_istore_n (lv' := [(3, .int (iv ((((kdF val set c (r + 1)) : Nat) : Int)))), (0, .ref (ad 358)), (1, .int (iv (((set : Nat) : Int)))), (2, .int (iv (((c : Nat) : Int)))), (4, .int (iv (((r : Nat) : Int))))]) hX d_Mo_kindsOf_57 rfl (by decide) rfl ?_
          refine v_iincN (a := r) (n := 1) (lv' := [(4, .int (iv ((((r + 1) : Nat) : Int)))), (3, .int (iv ((((kdF val set c (r + 1)) : Nat) : Int)))), (0, .ref (ad 358)), (1, .int (iv (((set : Nat) : Int)))), (2, .int (iv (((c : Nat) : Int))))]) hX d_Mo_kindsOf_58 rfl 4 rfl (by decide) rfl ?_
          refine v_goto (tgt := 5) hX d_Mo_kindsOf_61 (by decide) ?_
          refine v_lv [2, 3, 4, 1, 0] rfl ?_
          exact ih_LOOP (r + 1) (by omega) (by omega)
  refine v_lv [2, 3, 4, 1, 0] rfl ?_
  exact LOOP _ (0) (Nat.lt_succ_self _) (Nat.zero_le _)

set_option maxHeartbeats 1000000 in
set_option maxRecDepth 100000 in
theorem m_Mo_greatest {G : xG} {f0 : xF} {ad : Nat → Nat} (hj : adOk ad 400) {σ : xF} {n : Nat} {val : Nat → Nat → Int} {cl so : Nat → Nat} {de le wo : Nat} {S : Nat → Int} (hM : pMo G ad σ n val cl so de le wo S) (hD : dTab n val cl so) (set : Nat) (hs : set < 2 ^ n) (c : Nat) (hc : c < 4) : ∀ l, gI l G f0 ad 400 y_Mo_greatest (.code y_Mo_greatest c_Mo_greatest 5 (some (.int))) rm_Mo_greatest [.ref (ad 358), .int (iv (((set : Nat) : Int))), .int (iv (((c : Nat) : Int)))] σ (fun z σ' => σ' = σ ∧ z = (grF val set c n)) := by
  intro l
  refine mI_of (rt := .int) (by decide) (Nat.le_of_ble_eq_true rfl) (fun X hX hret => ?_)
  show vV G X 0 0 0 [(0, .ref (ad 358)), (1, .int (iv (((set : Nat) : Int)))), (2, .int (iv (((c : Nat) : Int))))] [] (ov f0 ad 400 σ)
  obtain ⟨m0, ⟨sf, m1, m1e⟩, ⟨vf, m2, m2e⟩, ⟨cf, m3, m3e⟩⟩ := id hM
  obtain ⟨d1, d2, d3, d4⟩ := id hD
  have hs24 : set < 16777216 := Nat.lt_of_lt_of_le hs (Nat.pow_le_pow_right (by decide) d1 : 2 ^ n ≤ 2 ^ 24)
  have h5 : ∀ i, i < n → val i c ≤ 100 ∧ -1 ≤ val i c := fun i hi => ⟨(tk_of (tks_iff.mp (d2 i hi) c hc)).2.1, (tk_of (tks_iff.mp (d2 i hi) c hc)).1⟩
  refine v_iconst hX (-1) d_Mo_greatest_0 ?_
  refine v_istore_n (lv' := [(3, .int (iv ((-1)))), (0, .ref (ad 358)), (1, .int (iv (((set : Nat) : Int)))), (2, .int (iv (((c : Nat) : Int))))]) hX d_Mo_greatest_1 rfl (by decide) rfl ?_
  refine v_iconst hX (0) d_Mo_greatest_2 ?_
  refine v_istore (lv' := [(4, .int (iv (0))), (3, .int (iv ((-1)))), (0, .ref (ad 358)), (1, .int (iv (((set : Nat) : Int)))), (2, .int (iv (((c : Nat) : Int))))]) hX d_Mo_greatest_3 (by decide) rfl ?_
  have LOOP : ∀ (fuel : Nat) (r : Nat), n - r < fuel → (r ≤ n) → vV G X 0 0 5 [(0, .ref (ad 358)), (1, .int (iv (((set : Nat) : Int)))), (2, .int (iv (((c : Nat) : Int)))), (3, .int (iv ((grF val set c r)))), (4, .int (iv (((r : Nat) : Int))))] [] (ov f0 ad 400 σ) := by
    intro fuel
    induction fuel with
    | zero => intro r hm; exact absurd hm (Nat.not_lt_zero _)
    | succ fuel ih_LOOP =>
      intro r hm hr
      have hp := grF_ge (val := val) (set := set) (c := c) r
      have hp2 := grF_le (n := r) (set := set) hc (fun i hi => d2 i (by omega))
      refine v_iload hX d_Mo_greatest_5 4 rfl ?_
      refine v_aload_n hX d_Mo_greatest_7 0 rfl ?_
      refine g_get (i := 358) hX hj fl_Mo_69 d_Mo_greatest_8 (by omega) m0 rfl ?_
      refine v_icmp_ge (tgt := 61) hX d_Mo_greatest_11 (by decide) (by first | (unfold ir; omega) | (have := h5 r (by omega); unfold ir; omega)) (by first | (unfold ir; omega) | (have := h5 r (by omega); unfold ir; omega)) (fun c11_1 => ?_) (fun c11_1 => ?_)
      · refine v_iload_n hX d_Mo_greatest_61 3 rfl ?_
        have e : r = n := by omega
        subst e
        exact hret _ _ _ _ d_Mo_greatest_62 (by unfold ir; omega) ⟨_, rfl, rfl, rfl⟩ rfl
      · refine v_iload_n hX d_Mo_greatest_14 1 rfl ?_
        refine v_iload hX d_Mo_greatest_15 4 rfl ?_
        refine v_ishr (z := (((set / 2 ^ r) : Nat) : Int)) hX d_Mo_greatest_17 (iv_shr (set) (by omega) (r) (by omega)) ?_
        refine v_iconst hX (1) d_Mo_greatest_18 ?_
        refine v_iand (z := ((((set / 2 ^ r) &&& 1) : Nat) : Int)) hX d_Mo_greatest_19 (iv_and ((set / 2 ^ r)) (1)) ?_
        by_cases hbit : set.testBit r = true
        · refine v_top (x' := iv ((1 : Nat) : Int)) (congrArg (fun q : Nat => iv (q : Int)) (bit1_t hbit)) ?_
          refine v_iconst hX (1) d_Mo_greatest_20 ?_
          refine v_icmp_ne (tgt := 53) hX d_Mo_greatest_21 (by decide) (by first | (unfold ir; omega) | (have := h5 r (by omega); unfold ir; omega)) (by first | (unfold ir; omega) | (have := h5 r (by omega); unfold ir; omega)) (fun c9 => absurd c9 (by omega)) (fun c9 => ?_)
          refine v_aload_n hX d_Mo_greatest_24 0 rfl ?_
          refine g_get (i := 358) hX hj fl_Mo_13 d_Mo_greatest_25 (by omega) m0 rfl ?_
          refine v_iconst hX (4) d_Mo_greatest_28 ?_
          refine v_iload hX d_Mo_greatest_29 4 rfl ?_
          refine v_imulN (a := 4) (b := r) hX d_Mo_greatest_31 ?_
          refine v_iload_n hX d_Mo_greatest_32 2 rfl ?_
          refine v_iaddN (a := (4 * r)) (b := c) hX d_Mo_greatest_33 ?_
          refine g_iald (i := 360) hX hj d_Mo_greatest_34 (by omega) m2 (by decide) (((4 * r) + c)) rfl (by omega) ?_
          refine v_top (x' := iv ((val r c))) (congrArg iv (m2e r c (by omega) (by omega))) ?_
          refine v_iload_n hX d_Mo_greatest_35 3 rfl ?_
          refine v_icmp_le (tgt := 53) hX d_Mo_greatest_36 (by decide) (by first | (unfold ir; omega) | (have := h5 r (by omega); unfold ir; omega)) (by first | (unfold ir; omega) | (have := h5 r (by omega); unfold ir; omega)) (fun c36_3 => ?_) (fun c36_3 => ?_)
          · refine v_iload_n hX d_Mo_greatest_53 3 rfl ?_
            refine v_top (x' := iv ((grF val set c (r + 1)))) (congrArg iv (grF_f (fun q => by first | exact absurd q.1 hbit | exact absurd q.2 (by omega)))) ?_
            refine v_istore_n (lv' := [(3, .int (iv ((grF val set c (r + 1))))), (0, .ref (ad 358)), (1, .int (iv (((set : Nat) : Int)))), (2, .int (iv (((c : Nat) : Int)))), (4, .int (iv (((r : Nat) : Int))))]) hX d_Mo_greatest_54 rfl (by decide) rfl ?_
            refine v_iincN (a := r) (n := 1) (lv' := [(4, .int (iv ((((r + 1) : Nat) : Int)))), (3, .int (iv ((grF val set c (r + 1))))), (0, .ref (ad 358)), (1, .int (iv (((set : Nat) : Int)))), (2, .int (iv (((c : Nat) : Int))))]) hX d_Mo_greatest_55 rfl 4 rfl (by decide) rfl ?_
            refine v_goto (tgt := 5) hX d_Mo_greatest_58 (by decide) ?_
            refine v_lv [2, 3, 4, 1, 0] rfl ?_
            exact ih_LOOP (r + 1) (by omega) (by omega)
          · refine v_aload_n hX d_Mo_greatest_39 0 rfl ?_
            refine g_get (i := 358) hX hj fl_Mo_13 d_Mo_greatest_40 (by omega) m0 rfl ?_
            refine v_iconst hX (4) d_Mo_greatest_43 ?_
            refine v_iload hX d_Mo_greatest_44 4 rfl ?_
            refine v_imulN (a := 4) (b := r) hX d_Mo_greatest_46 ?_
            refine v_iload_n hX d_Mo_greatest_47 2 rfl ?_
            refine v_iaddN (a := (4 * r)) (b := c) hX d_Mo_greatest_48 ?_
            refine g_iald (i := 360) hX hj d_Mo_greatest_49 (by omega) m2 (by decide) (((4 * r) + c)) rfl (by omega) ?_
            refine v_top (x' := iv ((val r c))) (congrArg iv (m2e r c (by omega) (by omega))) ?_
            refine v_goto (tgt := 54) hX d_Mo_greatest_50 (by decide) ?_
            refine v_top (x' := iv ((grF val set c (r + 1)))) (congrArg iv (grF_t ⟨hbit, by omega⟩)) ?_
            refine v_istore_n (lv' := [(3, .int (iv ((grF val set c (r + 1))))), (0, .ref (ad 358)), (1, .int (iv (((set : Nat) : Int)))), (2, .int (iv (((c : Nat) : Int)))), (4, .int (iv (((r : Nat) : Int))))]) hX d_Mo_greatest_54 rfl (by decide) rfl ?_
            refine v_iincN (a := r) (n := 1) (lv' := [(4, .int (iv ((((r + 1) : Nat) : Int)))), (3, .int (iv ((grF val set c (r + 1))))), (0, .ref (ad 358)), (1, .int (iv (((set : Nat) : Int)))), (2, .int (iv (((c : Nat) : Int))))]) hX d_Mo_greatest_55 rfl 4 rfl (by decide) rfl ?_
            refine v_goto (tgt := 5) hX d_Mo_greatest_58 (by decide) ?_
            refine v_lv [2, 3, 4, 1, 0] rfl ?_
            exact ih_LOOP (r + 1) (by omega) (by omega)
        · refine v_top (x' := iv ((0 : Nat) : Int)) (congrArg (fun q : Nat => iv (q : Int)) (bit1_f hbit)) ?_
          refine v_iconst hX (1) d_Mo_greatest_20 ?_
          refine v_icmp_ne (tgt := 53) hX d_Mo_greatest_21 (by decide) (by first | (unfold ir; omega) | (have := h5 r (by omega); unfold ir; omega)) (by first | (unfold ir; omega) | (have := h5 r (by omega); unfold ir; omega)) (fun c9 => ?_) (fun c9 => absurd c9 (by omega))
          refine v_iload_n hX d_Mo_greatest_53 3 rfl ?_
          refine v_top (x' := iv ((grF val set c (r + 1)))) (congrArg iv (grF_f (fun q => by first | exact absurd q.1 hbit | exact absurd q.2 (by omega)))) ?_
          refine v_istore_n (lv' := [(3, .int (iv ((grF val set c (r + 1))))), (0, .ref (ad 358)), (1, .int (iv (((set : Nat) : Int)))), (2, .int (iv (((c : Nat) : Int)))), (4, .int (iv (((r : Nat) : Int))))]) hX d_Mo_greatest_54 rfl (by decide) rfl ?_
          refine v_iincN (a := r) (n := 1) (lv' := [(4, .int (iv ((((r + 1) : Nat) : Int)))), (3, .int (iv ((grF val set c (r + 1))))), (0, .ref (ad 358)), (1, .int (iv (((set : Nat) : Int)))), (2, .int (iv (((c : Nat) : Int))))]) hX d_Mo_greatest_55 rfl 4 rfl (by decide) rfl ?_
          refine v_goto (tgt := 5) hX d_Mo_greatest_58 (by decide) ?_
          refine v_lv [2, 3, 4, 1, 0] rfl ?_
          exact ih_LOOP (r + 1) (by omega) (by omega)
  refine v_lv [2, 3, 4, 1, 0] rfl ?_
  exact LOOP _ (0) (Nat.lt_succ_self _) (Nat.zero_le _)

set_option maxHeartbeats 1000000 in
set_option maxRecDepth 100000 in
theorem m_Mo_hasValue {G : xG} {f0 : xF} {ad : Nat → Nat} (hj : adOk ad 400) {σ : xF} {n : Nat} {val : Nat → Nat → Int} {cl so : Nat → Nat} {de le wo : Nat} {S : Nat → Int} (hM : pMo G ad σ n val cl so de le wo S) (hD : dTab n val cl so) (set : Nat) (hs : set < 2 ^ n) (c : Nat) (hc : c < 4) (v : Int) (hv : ir v) : ∀ l, gI l G f0 ad 400 y_Mo_hasValue (.code y_Mo_hasValue c_Mo_hasValue 5 (some (.boolean))) rm_Mo_hasValue [.ref (ad 358), .int (iv (((set : Nat) : Int))), .int (iv (((c : Nat) : Int))), .int (iv (v))] σ (fun z σ' => σ' = σ ∧ z = pI (hvF val set c v n = true)) := by
  intro l
  refine mI_of (rt := .boolean) (by decide) (Nat.le_of_ble_eq_true rfl) (fun X hX hret => ?_)
  show vV G X 0 0 0 [(0, .ref (ad 358)), (1, .int (iv (((set : Nat) : Int)))), (2, .int (iv (((c : Nat) : Int)))), (3, .int (iv (v)))] [] (ov f0 ad 400 σ)
  obtain ⟨m0, ⟨sf, m1, m1e⟩, ⟨vf, m2, m2e⟩, ⟨cf, m3, m3e⟩⟩ := id hM
  obtain ⟨d1, d2, d3, d4⟩ := id hD
  have hs24 : set < 16777216 := Nat.lt_of_lt_of_le hs (Nat.pow_le_pow_right (by decide) d1 : 2 ^ n ≤ 2 ^ 24)
  have h5 : ∀ i, i < n → val i c ≤ 100 ∧ -1 ≤ val i c := fun i hi => ⟨(tk_of (tks_iff.mp (d2 i hi) c hc)).2.1, (tk_of (tks_iff.mp (d2 i hi) c hc)).1⟩
  refine v_iconst hX (0) d_Mo_hasValue_0 ?_
  refine v_istore (lv' := [(4, .int (iv (0))), (0, .ref (ad 358)), (1, .int (iv (((set : Nat) : Int)))), (2, .int (iv (((c : Nat) : Int)))), (3, .int (iv (v)))]) hX d_Mo_hasValue_1 (by decide) rfl ?_
  have LOOP : ∀ (fuel : Nat) (r : Nat), n - r < fuel → (r ≤ n) → (hvF val set c v r = false) → vV G X 0 0 3 [(0, .ref (ad 358)), (1, .int (iv (((set : Nat) : Int)))), (2, .int (iv (((c : Nat) : Int)))), (3, .int (iv (v))), (4, .int (iv (((r : Nat) : Int))))] [] (ov f0 ad 400 σ) := by
    intro fuel
    induction fuel with
    | zero => intro r hm; exact absurd hm (Nat.not_lt_zero _)
    | succ fuel ih_LOOP =>
      intro r hm hr hh
      refine v_iload hX d_Mo_hasValue_3 4 rfl ?_
      refine v_aload_n hX d_Mo_hasValue_5 0 rfl ?_
      refine g_get (i := 358) hX hj fl_Mo_69 d_Mo_hasValue_6 (by omega) m0 rfl ?_
      refine v_icmp_ge (tgt := 45) hX d_Mo_hasValue_9 (by decide) (by first | assumption | (unfold ir; omega) | (have := h5 r (by omega); unfold ir; omega)) (by first | assumption | (unfold ir; omega) | (have := h5 r (by omega); unfold ir; omega)) (fun c9_1 => ?_) (fun c9_1 => ?_)
      · refine v_iconst hX (0) d_Mo_hasValue_45 ?_
        have e : r = n := by omega
        rw [e] at hh
        exact hret _ _ _ _ d_Mo_hasValue_46 (by unfold ir; omega) ⟨_, rfl, rfl, pI_f (by rw [hh]; decide)⟩ rfl
      · refine v_iload_n hX d_Mo_hasValue_12 1 rfl ?_
        refine v_iload hX d_Mo_hasValue_13 4 rfl ?_
        refine v_ishr (z := (((set / 2 ^ r) : Nat) : Int)) hX d_Mo_hasValue_15 (iv_shr (set) (by omega) (r) (by omega)) ?_
        refine v_iconst hX (1) d_Mo_hasValue_16 ?_
        refine v_iand (z := ((((set / 2 ^ r) &&& 1) : Nat) : Int)) hX d_Mo_hasValue_17 (iv_and ((set / 2 ^ r)) (1)) ?_
        by_cases hbit : set.testBit r = true
        · refine v_top (x' := iv ((1 : Nat) : Int)) (congrArg (fun q : Nat => iv (q : Int)) (bit1_t hbit)) ?_
          refine v_iconst hX (1) d_Mo_hasValue_18 ?_
          refine v_icmp_ne (tgt := 39) hX d_Mo_hasValue_19 (by decide) (by first | assumption | (unfold ir; omega) | (have := h5 r (by omega); unfold ir; omega)) (by first | assumption | (unfold ir; omega) | (have := h5 r (by omega); unfold ir; omega)) (fun c9 => absurd c9 (by omega)) (fun c9 => ?_)
          refine v_aload_n hX d_Mo_hasValue_22 0 rfl ?_
          refine g_get (i := 358) hX hj fl_Mo_13 d_Mo_hasValue_23 (by omega) m0 rfl ?_
          refine v_iconst hX (4) d_Mo_hasValue_26 ?_
          refine v_iload hX d_Mo_hasValue_27 4 rfl ?_
          refine v_imulN (a := 4) (b := r) hX d_Mo_hasValue_29 ?_
          refine v_iload_n hX d_Mo_hasValue_30 2 rfl ?_
          refine v_iaddN (a := (4 * r)) (b := c) hX d_Mo_hasValue_31 ?_
          refine g_iald (i := 360) hX hj d_Mo_hasValue_32 (by omega) m2 (by decide) (((4 * r) + c)) rfl (by omega) ?_
          refine v_top (x' := iv ((val r c))) (congrArg iv (m2e r c (by omega) (by omega))) ?_
          refine v_iload_n hX d_Mo_hasValue_33 3 rfl ?_
          refine v_icmp_ne (tgt := 39) hX d_Mo_hasValue_34 (by decide) (by first | assumption | (unfold ir; omega) | (have := h5 r (by omega); unfold ir; omega)) (by first | assumption | (unfold ir; omega) | (have := h5 r (by omega); unfold ir; omega)) (fun c34_3 => ?_) (fun c34_3 => ?_)
          · refine v_iincN (a := r) (n := 1) (lv' := [(4, .int (iv ((((r + 1) : Nat) : Int)))), (0, .ref (ad 358)), (1, .int (iv (((set : Nat) : Int)))), (2, .int (iv (((c : Nat) : Int)))), (3, .int (iv (v)))]) hX d_Mo_hasValue_39 rfl 4 rfl (by decide) rfl ?_
            refine v_goto (tgt := 3) hX d_Mo_hasValue_42 (by decide) ?_
            refine v_lv [1, 2, 3, 4, 0] rfl ?_
            exact ih_LOOP (r + 1) (by omega) (by omega) (by unfold hvF; rw [hh, Bool.false_or]; first | (rw [show set.testBit r = false from Bool.eq_false_iff.mpr hbit]; rfl) | (rw [decide_eq_false (by omega)]; exact Bool.and_false _))
          · refine v_iconst hX (1) d_Mo_hasValue_37 ?_
            exact hret _ _ _ _ d_Mo_hasValue_38 (by unfold ir; omega) ⟨_, rfl, rfl, pI_t ((hvF_iff n).mpr ⟨r, by omega, hbit, by omega⟩)⟩ rfl
        · refine v_top (x' := iv ((0 : Nat) : Int)) (congrArg (fun q : Nat => iv (q : Int)) (bit1_f hbit)) ?_
          refine v_iconst hX (1) d_Mo_hasValue_18 ?_
          refine v_icmp_ne (tgt := 39) hX d_Mo_hasValue_19 (by decide) (by first | assumption | (unfold ir; omega) | (have := h5 r (by omega); unfold ir; omega)) (by first | assumption | (unfold ir; omega) | (have := h5 r (by omega); unfold ir; omega)) (fun c9 => ?_) (fun c9 => absurd c9 (by omega))
          refine v_iincN (a := r) (n := 1) (lv' := [(4, .int (iv ((((r + 1) : Nat) : Int)))), (0, .ref (ad 358)), (1, .int (iv (((set : Nat) : Int)))), (2, .int (iv (((c : Nat) : Int)))), (3, .int (iv (v)))]) hX d_Mo_hasValue_39 rfl 4 rfl (by decide) rfl ?_
          refine v_goto (tgt := 3) hX d_Mo_hasValue_42 (by decide) ?_
          refine v_lv [1, 2, 3, 4, 0] rfl ?_
          exact ih_LOOP (r + 1) (by omega) (by omega) (by unfold hvF; rw [hh, Bool.false_or]; first | (rw [show set.testBit r = false from Bool.eq_false_iff.mpr hbit]; rfl) | (rw [decide_eq_false (by omega)]; exact Bool.and_false _))
  refine v_lv [1, 2, 3, 4, 0] rfl ?_
  exact LOOP _ (0) (Nat.lt_succ_self _) (Nat.zero_le _) rfl

set_option maxHeartbeats 1000000 in
set_option maxRecDepth 100000 in
theorem m_Mo_isCut {G : xG} {f0 : xF} {ad : Nat → Nat} (hj : adOk ad 400) {σ : xF} {n : Nat} {val : Nat → Nat → Int} {cl so : Nat → Nat} {de le wo : Nat} {S : Nat → Int} (hM : pMo G ad σ n val cl so de le wo S) (hD : dTab n val cl so) (set : Nat) (hs : set < 2 ^ n) (c : Nat) (hc : c < 4) (num : Int) (hnum : ir num) (side : Nat) (hsd : side ≤ 1) : ∀ l, gI l G f0 ad 400 y_Mo_isCut (.code y_Mo_isCut c_Mo_isCut 6 (some (.boolean))) rm_Mo_isCut [.ref (ad 358), .int (iv (((set : Nat) : Int))), .int (iv (((c : Nat) : Int))), .int (iv (num)), .int (iv (((side : Nat) : Int)))] σ (fun z σ' => σ' = σ ∧ z = pI ((side = 1 → nd set ((mK n val) c) ≠ 0) ∧ 0 ≤ num ∧ kCan so (mK n val) (mLf n val so) set c num.toNat = true)) := by
  intro l
  refine mI_of (rt := .boolean) (by decide) (Nat.le_of_ble_eq_true rfl) (fun X hX hret => ?_)
  show vV G X 0 0 0 [(0, .ref (ad 358)), (1, .int (iv (((set : Nat) : Int)))), (2, .int (iv (((c : Nat) : Int)))), (3, .int (iv (num))), (4, .int (iv (((side : Nat) : Int))))] [] (ov f0 ad 400 σ)
  obtain ⟨m0, ⟨sf, m1, m1e⟩, ⟨vf, m2, m2e⟩, ⟨cf, m3, m3e⟩⟩ := id hM
  obtain ⟨d1, d2, d3, d4⟩ := id hD
  have hs24 : set < 16777216 := Nat.lt_of_lt_of_le hs (Nat.pow_le_pow_right (by decide) d1 : 2 ^ n ≤ 2 ^ 24)
  have dc := d4 c
  refine v_iload hX d_Mo_isCut_0 4 rfl ?_
  refine v_iconst hX (1) d_Mo_isCut_2 ?_
  refine v_icmp_ne (tgt := 18) hX d_Mo_isCut_3 (by decide) (by first | assumption | (unfold ir; omega) | (have := d4 c; unfold ir; omega) | (have := kdF_lt (val := val) (set := set) (c := c) n (fun i hi => (tk_of (tks_iff.mp (d2 i hi) c hc)).2.2 (by omega)); unfold ir; omega) | exact ir_n (by have h1 := nd_le num.toNat (kdF val set c n); omega) | exact ir_n (Nat.lt_of_le_of_lt Nat.and_le_left (by omega))) (by first | assumption | (unfold ir; omega) | (have := d4 c; unfold ir; omega) | (have := kdF_lt (val := val) (set := set) (c := c) n (fun i hi => (tk_of (tks_iff.mp (d2 i hi) c hc)).2.2 (by omega)); unfold ir; omega) | exact ir_n (by have h1 := nd_le num.toNat (kdF val set c n); omega) | exact ir_n (Nat.lt_of_le_of_lt Nat.and_le_left (by omega))) (fun c3_1 => ?_) (fun c3_1 => ?_)
  · refine v_aload_n hX d_Mo_isCut_18 0 rfl ?_
    refine g_get (i := 358) hX hj fl_Mo_7 d_Mo_isCut_19 (by omega) m0 rfl ?_
    refine v_iload_n hX d_Mo_isCut_22 2 rfl ?_
    refine g_iald (i := 359) hX hj d_Mo_isCut_23 (by omega) m1 (by decide) (c) rfl (by omega) ?_
    refine v_top (x' := iv ((((so c) : Nat) : Int))) (congrArg iv (m1e c (by omega))) ?_
    refine v_if_ne (tgt := 57) hX d_Mo_isCut_24 (by decide) (by first | assumption | (unfold ir; omega) | (have := d4 c; unfold ir; omega) | (have := kdF_lt (val := val) (set := set) (c := c) n (fun i hi => (tk_of (tks_iff.mp (d2 i hi) c hc)).2.2 (by omega)); unfold ir; omega) | exact ir_n (by have h1 := nd_le num.toNat (kdF val set c n); omega) | exact ir_n (Nat.lt_of_le_of_lt Nat.and_le_left (by omega))) (fun c24_2 => ?_) (fun c24_2 => ?_)
    · refine v_aload_n hX d_Mo_isCut_57 0 rfl ?_
      refine v_iload_n hX d_Mo_isCut_58 1 rfl ?_
      refine v_iload_n hX d_Mo_isCut_59 2 rfl ?_
      refine g_callVI (As := [.int (iv (((set : Nat) : Int))), .int (iv (((c : Nat) : Int)))]) (st := []) hX hj (i := 358) (by omega) m0 (m_Mo_kindsOf hj hM hD set hs c hc (by have := d4 c; omega)) cl_Mo_105 d_Mo_isCut_60 rfl ⟨by decide, by decide⟩ ⟨by decide, by decide⟩ (Nat.le_of_ble_eq_true rfl) (fun z1 σ2 hz3 hp4 => ?_)
      obtain ⟨he5, hv6⟩ := hp4
      rw [he5]
      subst hv6
      refine v_istore (lv' := [(5, .int (iv ((((kdF val set c n) : Nat) : Int)))), (0, .ref (ad 358)), (1, .int (iv (((set : Nat) : Int)))), (2, .int (iv (((c : Nat) : Int)))), (3, .int (iv (num))), (4, .int (iv (((side : Nat) : Int))))]) hX d_Mo_isCut_63 (by decide) rfl ?_
      refine v_iload_n hX d_Mo_isCut_65 4 rfl ?_
      refine v_if_le (tgt := 105) hX d_Mo_isCut_66 (by decide) (by first | assumption | (unfold ir; omega) | (have := d4 c; unfold ir; omega) | (have := kdF_lt (val := val) (set := set) (c := c) n (fun i hi => (tk_of (tks_iff.mp (d2 i hi) c hc)).2.2 (by omega)); unfold ir; omega) | exact ir_n (by have h1 := nd_le num.toNat (kdF val set c n); omega) | exact ir_n (Nat.lt_of_le_of_lt Nat.and_le_left (by omega))) (fun c66_3 => ?_) (fun c66_3 => ?_)
      · refine v_iconst hX (0) d_Mo_isCut_105 ?_
        exact hret _ _ _ _ d_Mo_isCut_106 (by unfold ir; omega) ⟨_, rfl, rfl, pI_f (fun q => by first | (obtain ⟨x1, x2, x3⟩ := (cut_n hD hs hc (by omega)).mpr q.2; first | omega | exact absurd x3 (by assumption)) | (obtain ⟨x1, x2, x3, x4, x5⟩ := (cut_k hD hc (by omega)).mpr q.2; omega))⟩ rfl
      · refine v_iload_n hX d_Mo_isCut_69 4 rfl ?_
        refine v_bipush hX (64) d_Mo_isCut_70 rfl ?_
        refine v_icmp_ge (tgt := 105) hX d_Mo_isCut_72 (by decide) (by first | assumption | (unfold ir; omega) | (have := d4 c; unfold ir; omega) | (have := kdF_lt (val := val) (set := set) (c := c) n (fun i hi => (tk_of (tks_iff.mp (d2 i hi) c hc)).2.2 (by omega)); unfold ir; omega) | exact ir_n (by have h1 := nd_le num.toNat (kdF val set c n); omega) | exact ir_n (Nat.lt_of_le_of_lt Nat.and_le_left (by omega))) (by first | assumption | (unfold ir; omega) | (have := d4 c; unfold ir; omega) | (have := kdF_lt (val := val) (set := set) (c := c) n (fun i hi => (tk_of (tks_iff.mp (d2 i hi) c hc)).2.2 (by omega)); unfold ir; omega) | exact ir_n (by have h1 := nd_le num.toNat (kdF val set c n); omega) | exact ir_n (Nat.lt_of_le_of_lt Nat.and_le_left (by omega))) (fun c72_4 => ?_) (fun c72_4 => ?_)
        · refine v_iconst hX (0) d_Mo_isCut_105 ?_
          exact hret _ _ _ _ d_Mo_isCut_106 (by unfold ir; omega) ⟨_, rfl, rfl, pI_f (fun q => by first | (obtain ⟨x1, x2, x3⟩ := (cut_n hD hs hc (by omega)).mpr q.2; first | omega | exact absurd x3 (by assumption)) | (obtain ⟨x1, x2, x3, x4, x5⟩ := (cut_k hD hc (by omega)).mpr q.2; omega))⟩ rfl
        · refine v_iload_n hX d_Mo_isCut_75 4 rfl ?_
          refine v_eq (st' := [.int (iv (((num.toNat : Nat) : Int)))]) (by rw [show ((num.toNat : Nat) : Int) = num by omega]) ?_
          refine v_iload hX d_Mo_isCut_76 0 rfl ?_
          refine v_iconst hX (-1) d_Mo_isCut_78 ?_
          refine v_ixor (z := (-1 - (((kdF val set c n) : Nat) : Int))) hX d_Mo_isCut_79 (iv_not ((kdF val set c n))) ?_
          refine v_iand (z := (((nd num.toNat (kdF val set c n)) : Nat) : Int)) hX d_Mo_isCut_80 (iv_andnot (num.toNat) ((kdF val set c n))) ?_
          refine v_if_ne (tgt := 105) hX d_Mo_isCut_81 (by decide) (by first | assumption | (unfold ir; omega) | (have := d4 c; unfold ir; omega) | (have := kdF_lt (val := val) (set := set) (c := c) n (fun i hi => (tk_of (tks_iff.mp (d2 i hi) c hc)).2.2 (by omega)); unfold ir; omega) | exact ir_n (by have h1 := nd_le num.toNat (kdF val set c n); omega) | exact ir_n (Nat.lt_of_le_of_lt Nat.and_le_left (by omega))) (fun c81_5 => ?_) (fun c81_5 => ?_)
          · refine v_iconst hX (0) d_Mo_isCut_105 ?_
            exact hret _ _ _ _ d_Mo_isCut_106 (by unfold ir; omega) ⟨_, rfl, rfl, pI_f (fun q => by first | (obtain ⟨x1, x2, x3⟩ := (cut_n hD hs hc (by omega)).mpr q.2; first | omega | exact absurd x3 (by assumption)) | (obtain ⟨x1, x2, x3, x4, x5⟩ := (cut_k hD hc (by omega)).mpr q.2; omega))⟩ rfl
          · refine v_iload_n hX d_Mo_isCut_84 4 rfl ?_
            refine v_iload hX d_Mo_isCut_85 0 rfl ?_
            refine v_icmp_eq (tgt := 105) hX d_Mo_isCut_87 (by decide) (by first | assumption | (unfold ir; omega) | (have := d4 c; unfold ir; omega) | (have := kdF_lt (val := val) (set := set) (c := c) n (fun i hi => (tk_of (tks_iff.mp (d2 i hi) c hc)).2.2 (by omega)); unfold ir; omega) | exact ir_n (by have h1 := nd_le num.toNat (kdF val set c n); omega) | exact ir_n (Nat.lt_of_le_of_lt Nat.and_le_left (by omega))) (by first | assumption | (unfold ir; omega) | (have := d4 c; unfold ir; omega) | (have := kdF_lt (val := val) (set := set) (c := c) n (fun i hi => (tk_of (tks_iff.mp (d2 i hi) c hc)).2.2 (by omega)); unfold ir; omega) | exact ir_n (by have h1 := nd_le num.toNat (kdF val set c n); omega) | exact ir_n (Nat.lt_of_le_of_lt Nat.and_le_left (by omega))) (fun c87_6 => ?_) (fun c87_6 => ?_)
            · refine v_iconst hX (0) d_Mo_isCut_105 ?_
              exact hret _ _ _ _ d_Mo_isCut_106 (by unfold ir; omega) ⟨_, rfl, rfl, pI_f (fun q => by first | (obtain ⟨x1, x2, x3⟩ := (cut_n hD hs hc (by omega)).mpr q.2; first | omega | exact absurd x3 (by assumption)) | (obtain ⟨x1, x2, x3, x4, x5⟩ := (cut_k hD hc (by omega)).mpr q.2; omega))⟩ rfl
            · refine v_iload_n hX d_Mo_isCut_90 4 rfl ?_
              refine v_eq (st' := [.int (iv (((num.toNat : Nat) : Int)))]) (by rw [show ((num.toNat : Nat) : Int) = num by omega]) ?_
              refine v_iload hX d_Mo_isCut_91 0 rfl ?_
              refine v_iand (z := (((num.toNat &&& (kdF val set c n)) : Nat) : Int)) hX d_Mo_isCut_93 (iv_and (num.toNat) ((kdF val set c n))) ?_
              refine v_iload hX d_Mo_isCut_94 0 rfl ?_
              refine v_ineg hX d_Mo_isCut_96 ?_
              refine v_iand (z := ((num.toNat &&& low (kdF val set c n) : Nat) : Int)) hX d_Mo_isCut_97 (iv_low2 num.toNat (kdF val set c n) (kdF_lt n (fun i hi => (tk_of (tks_iff.mp (d2 i hi) c hc)).2.2 (by omega)))) ?_
              refine v_if_eq (tgt := 105) hX d_Mo_isCut_98 (by decide) (by first | assumption | (unfold ir; omega) | (have := d4 c; unfold ir; omega) | (have := kdF_lt (val := val) (set := set) (c := c) n (fun i hi => (tk_of (tks_iff.mp (d2 i hi) c hc)).2.2 (by omega)); unfold ir; omega) | exact ir_n (by have h1 := nd_le num.toNat (kdF val set c n); omega) | exact ir_n (Nat.lt_of_le_of_lt Nat.and_le_left (by omega))) (fun c98_7 => ?_) (fun c98_7 => ?_)
              · refine v_iconst hX (0) d_Mo_isCut_105 ?_
                exact hret _ _ _ _ d_Mo_isCut_106 (by unfold ir; omega) ⟨_, rfl, rfl, pI_f (fun q => by first | (obtain ⟨x1, x2, x3⟩ := (cut_n hD hs hc (by omega)).mpr q.2; first | omega | exact absurd x3 (by assumption)) | (obtain ⟨x1, x2, x3, x4, x5⟩ := (cut_k hD hc (by omega)).mpr q.2; omega))⟩ rfl
              · refine v_iconst hX (1) d_Mo_isCut_101 ?_
                refine v_goto (tgt := 106) hX d_Mo_isCut_102 (by decide) ?_
                exact hret _ _ _ _ d_Mo_isCut_106 (by unfold ir; omega) ⟨_, rfl, rfl, pI_t ⟨(fun q1 => (unk_iff hs hc d2).mpr (by first | assumption | (exfalso; omega))), by first | exact (cut_n hD hs hc (by omega)).mp ⟨by omega, by omega, by assumption⟩ | exact (cut_k hD hc (by omega)).mp ⟨by omega, by omega, by omega, by omega, by omega⟩⟩⟩ rfl
    · refine v_iload_n hX d_Mo_isCut_27 3 rfl ?_
      refine v_if_lt (tgt := 55) hX d_Mo_isCut_28 (by decide) (by first | assumption | (unfold ir; omega) | (have := d4 c; unfold ir; omega) | (have := kdF_lt (val := val) (set := set) (c := c) n (fun i hi => (tk_of (tks_iff.mp (d2 i hi) c hc)).2.2 (by omega)); unfold ir; omega) | exact ir_n (by have h1 := nd_le num.toNat (kdF val set c n); omega) | exact ir_n (Nat.lt_of_le_of_lt Nat.and_le_left (by omega))) (fun c28_8 => ?_) (fun c28_8 => ?_)
      · refine v_iconst hX (0) d_Mo_isCut_55 ?_
        exact hret _ _ _ _ d_Mo_isCut_56 (by unfold ir; omega) ⟨_, rfl, rfl, pI_f (fun q => by first | (obtain ⟨x1, x2, x3⟩ := (cut_n hD hs hc (by omega)).mpr q.2; first | omega | exact absurd x3 (by assumption)) | (obtain ⟨x1, x2, x3, x4, x5⟩ := (cut_k hD hc (by omega)).mpr q.2; omega))⟩ rfl
      · refine v_iload_n hX d_Mo_isCut_31 3 rfl ?_
        refine v_aload_n hX d_Mo_isCut_32 0 rfl ?_
        refine v_iload_n hX d_Mo_isCut_33 1 rfl ?_
        refine v_iload_n hX d_Mo_isCut_34 2 rfl ?_
        refine g_callVI (As := [.int (iv (((set : Nat) : Int))), .int (iv (((c : Nat) : Int)))]) (st := [.int (iv (num))]) hX hj (i := 358) (by omega) m0 (m_Mo_greatest hj hM hD set hs c hc) cl_Mo_102 d_Mo_isCut_35 rfl ⟨by decide, by decide⟩ ⟨by decide, by decide⟩ (Nat.le_of_ble_eq_true rfl) (fun z7 σ8 hz9 hp10 => ?_)
        obtain ⟨he9, hv9⟩ := hp10
        rw [he9]
        have hzr := hz9
        rw [hv9] at hzr
        subst hv9
        refine v_icmp_ge (tgt := 55) hX d_Mo_isCut_38 (by decide) (by first | assumption | (unfold ir; omega) | (have := d4 c; unfold ir; omega) | (have := kdF_lt (val := val) (set := set) (c := c) n (fun i hi => (tk_of (tks_iff.mp (d2 i hi) c hc)).2.2 (by omega)); unfold ir; omega) | exact ir_n (by have h1 := nd_le num.toNat (kdF val set c n); omega) | exact ir_n (Nat.lt_of_le_of_lt Nat.and_le_left (by omega))) (by first | assumption | (unfold ir; omega) | (have := d4 c; unfold ir; omega) | (have := kdF_lt (val := val) (set := set) (c := c) n (fun i hi => (tk_of (tks_iff.mp (d2 i hi) c hc)).2.2 (by omega)); unfold ir; omega) | exact ir_n (by have h1 := nd_le num.toNat (kdF val set c n); omega) | exact ir_n (Nat.lt_of_le_of_lt Nat.and_le_left (by omega))) (fun c38_9 => ?_) (fun c38_9 => ?_)
        · refine v_iconst hX (0) d_Mo_isCut_55 ?_
          exact hret _ _ _ _ d_Mo_isCut_56 (by unfold ir; omega) ⟨_, rfl, rfl, pI_f (fun q => by first | (obtain ⟨x1, x2, x3⟩ := (cut_n hD hs hc (by omega)).mpr q.2; first | omega | exact absurd x3 (by assumption)) | (obtain ⟨x1, x2, x3, x4, x5⟩ := (cut_k hD hc (by omega)).mpr q.2; omega))⟩ rfl
        · refine v_aload_n hX d_Mo_isCut_41 0 rfl ?_
          refine v_iload_n hX d_Mo_isCut_42 1 rfl ?_
          refine v_iload_n hX d_Mo_isCut_43 2 rfl ?_
          refine v_iload_n hX d_Mo_isCut_44 3 rfl ?_
          refine g_callVI (As := [.int (iv (((set : Nat) : Int))), .int (iv (((c : Nat) : Int))), .int (iv (num))]) (st := []) hX hj (i := 358) (by omega) m0 (m_Mo_hasValue hj hM hD set hs c hc num (by first | assumption | (unfold ir; omega))) cl_Mo_98 d_Mo_isCut_45 rfl ⟨by decide, by decide⟩ ⟨by decide, by decide⟩ (Nat.le_of_ble_eq_true rfl) (fun z11 σ12 hz13 hp14 => ?_)
          obtain ⟨he15, hv16⟩ := hp14
          rw [he15]
          by_cases qz11 : hvF val set c num n = true
          · have z11e : z11 = 1 := hv16.trans (if_pos qz11)
            subst z11e
            refine v_if_eq (tgt := 55) hX d_Mo_isCut_48 (by decide) (by first | assumption | (unfold ir; omega) | (have := d4 c; unfold ir; omega) | (have := kdF_lt (val := val) (set := set) (c := c) n (fun i hi => (tk_of (tks_iff.mp (d2 i hi) c hc)).2.2 (by omega)); unfold ir; omega) | exact ir_n (by have h1 := nd_le num.toNat (kdF val set c n); omega) | exact ir_n (Nat.lt_of_le_of_lt Nat.and_le_left (by omega))) (fun c9 => absurd c9 (by omega)) (fun c9 => ?_)
            refine v_iconst hX (1) d_Mo_isCut_51 ?_
            refine v_goto (tgt := 56) hX d_Mo_isCut_52 (by decide) ?_
            exact hret _ _ _ _ d_Mo_isCut_56 (by unfold ir; omega) ⟨_, rfl, rfl, pI_t ⟨(fun q1 => (unk_iff hs hc d2).mpr (by first | assumption | (exfalso; omega))), by first | exact (cut_n hD hs hc (by omega)).mp ⟨by omega, by omega, by assumption⟩ | exact (cut_k hD hc (by omega)).mp ⟨by omega, by omega, by omega, by omega, by omega⟩⟩⟩ rfl
          · have z11e : z11 = 0 := hv16.trans (if_neg qz11)
            subst z11e
            refine v_if_eq (tgt := 55) hX d_Mo_isCut_48 (by decide) (by first | assumption | (unfold ir; omega) | (have := d4 c; unfold ir; omega) | (have := kdF_lt (val := val) (set := set) (c := c) n (fun i hi => (tk_of (tks_iff.mp (d2 i hi) c hc)).2.2 (by omega)); unfold ir; omega) | exact ir_n (by have h1 := nd_le num.toNat (kdF val set c n); omega) | exact ir_n (Nat.lt_of_le_of_lt Nat.and_le_left (by omega))) (fun c9 => ?_) (fun c9 => absurd c9 (by omega))
            refine v_iconst hX (0) d_Mo_isCut_55 ?_
            exact hret _ _ _ _ d_Mo_isCut_56 (by unfold ir; omega) ⟨_, rfl, rfl, pI_f (fun q => by first | (obtain ⟨x1, x2, x3⟩ := (cut_n hD hs hc (by omega)).mpr q.2; first | omega | exact absurd x3 (by assumption)) | (obtain ⟨x1, x2, x3, x4, x5⟩ := (cut_k hD hc (by omega)).mpr q.2; omega))⟩ rfl
  · refine v_aload_n hX d_Mo_isCut_6 0 rfl ?_
    refine v_iload_n hX d_Mo_isCut_7 1 rfl ?_
    refine v_iload_n hX d_Mo_isCut_8 2 rfl ?_
    refine v_iconst hX (-1) d_Mo_isCut_9 ?_
    refine g_callVI (As := [.int (iv (((set : Nat) : Int))), .int (iv (((c : Nat) : Int))), .int (iv ((-1)))]) (st := []) hX hj (i := 358) (by omega) m0 (m_Mo_hasValue hj hM hD set hs c hc (-1) (by first | assumption | (unfold ir; omega))) cl_Mo_98 d_Mo_isCut_10 rfl ⟨by decide, by decide⟩ ⟨by decide, by decide⟩ (Nat.le_of_ble_eq_true rfl) (fun z17 σ18 hz19 hp20 => ?_)
    obtain ⟨he21, hv22⟩ := hp20
    rw [he21]
    by_cases qz17 : hvF val set c (-1) n = true
    · have z17e : z17 = 1 := hv22.trans (if_pos qz17)
      subst z17e
      refine v_if_ne (tgt := 18) hX d_Mo_isCut_13 (by decide) (by first | assumption | (unfold ir; omega) | (have := d4 c; unfold ir; omega) | (have := kdF_lt (val := val) (set := set) (c := c) n (fun i hi => (tk_of (tks_iff.mp (d2 i hi) c hc)).2.2 (by omega)); unfold ir; omega) | exact ir_n (by have h1 := nd_le num.toNat (kdF val set c n); omega) | exact ir_n (Nat.lt_of_le_of_lt Nat.and_le_left (by omega))) (fun c9 => ?_) (fun c9 => absurd c9 (by omega))
      refine v_aload_n hX d_Mo_isCut_18 0 rfl ?_
      refine g_get (i := 358) hX hj fl_Mo_7 d_Mo_isCut_19 (by omega) m0 rfl ?_
      refine v_iload_n hX d_Mo_isCut_22 2 rfl ?_
      refine g_iald (i := 359) hX hj d_Mo_isCut_23 (by omega) m1 (by decide) (c) rfl (by omega) ?_
      refine v_top (x' := iv ((((so c) : Nat) : Int))) (congrArg iv (m1e c (by omega))) ?_
      refine v_if_ne (tgt := 57) hX d_Mo_isCut_24 (by decide) (by first | assumption | (unfold ir; omega) | (have := d4 c; unfold ir; omega) | (have := kdF_lt (val := val) (set := set) (c := c) n (fun i hi => (tk_of (tks_iff.mp (d2 i hi) c hc)).2.2 (by omega)); unfold ir; omega) | exact ir_n (by have h1 := nd_le num.toNat (kdF val set c n); omega) | exact ir_n (Nat.lt_of_le_of_lt Nat.and_le_left (by omega))) (fun c24_13 => ?_) (fun c24_13 => ?_)
      · refine v_aload_n hX d_Mo_isCut_57 0 rfl ?_
        refine v_iload_n hX d_Mo_isCut_58 1 rfl ?_
        refine v_iload_n hX d_Mo_isCut_59 2 rfl ?_
        refine g_callVI (As := [.int (iv (((set : Nat) : Int))), .int (iv (((c : Nat) : Int)))]) (st := []) hX hj (i := 358) (by omega) m0 (m_Mo_kindsOf hj hM hD set hs c hc (by have := d4 c; omega)) cl_Mo_105 d_Mo_isCut_60 rfl ⟨by decide, by decide⟩ ⟨by decide, by decide⟩ (Nat.le_of_ble_eq_true rfl) (fun z23 σ24 hz25 hp26 => ?_)
        obtain ⟨he27, hv28⟩ := hp26
        rw [he27]
        subst hv28
        refine v_istore (lv' := [(5, .int (iv ((((kdF val set c n) : Nat) : Int)))), (0, .ref (ad 358)), (1, .int (iv (((set : Nat) : Int)))), (2, .int (iv (((c : Nat) : Int)))), (3, .int (iv (num))), (4, .int (iv (((side : Nat) : Int))))]) hX d_Mo_isCut_63 (by decide) rfl ?_
        refine v_iload_n hX d_Mo_isCut_65 4 rfl ?_
        refine v_if_le (tgt := 105) hX d_Mo_isCut_66 (by decide) (by first | assumption | (unfold ir; omega) | (have := d4 c; unfold ir; omega) | (have := kdF_lt (val := val) (set := set) (c := c) n (fun i hi => (tk_of (tks_iff.mp (d2 i hi) c hc)).2.2 (by omega)); unfold ir; omega) | exact ir_n (by have h1 := nd_le num.toNat (kdF val set c n); omega) | exact ir_n (Nat.lt_of_le_of_lt Nat.and_le_left (by omega))) (fun c66_14 => ?_) (fun c66_14 => ?_)
        · refine v_iconst hX (0) d_Mo_isCut_105 ?_
          exact hret _ _ _ _ d_Mo_isCut_106 (by unfold ir; omega) ⟨_, rfl, rfl, pI_f (fun q => by first | (obtain ⟨x1, x2, x3⟩ := (cut_n hD hs hc (by omega)).mpr q.2; first | omega | exact absurd x3 (by assumption)) | (obtain ⟨x1, x2, x3, x4, x5⟩ := (cut_k hD hc (by omega)).mpr q.2; omega))⟩ rfl
        · refine v_iload_n hX d_Mo_isCut_69 4 rfl ?_
          refine v_bipush hX (64) d_Mo_isCut_70 rfl ?_
          refine v_icmp_ge (tgt := 105) hX d_Mo_isCut_72 (by decide) (by first | assumption | (unfold ir; omega) | (have := d4 c; unfold ir; omega) | (have := kdF_lt (val := val) (set := set) (c := c) n (fun i hi => (tk_of (tks_iff.mp (d2 i hi) c hc)).2.2 (by omega)); unfold ir; omega) | exact ir_n (by have h1 := nd_le num.toNat (kdF val set c n); omega) | exact ir_n (Nat.lt_of_le_of_lt Nat.and_le_left (by omega))) (by first | assumption | (unfold ir; omega) | (have := d4 c; unfold ir; omega) | (have := kdF_lt (val := val) (set := set) (c := c) n (fun i hi => (tk_of (tks_iff.mp (d2 i hi) c hc)).2.2 (by omega)); unfold ir; omega) | exact ir_n (by have h1 := nd_le num.toNat (kdF val set c n); omega) | exact ir_n (Nat.lt_of_le_of_lt Nat.and_le_left (by omega))) (fun c72_15 => ?_) (fun c72_15 => ?_)
          · refine v_iconst hX (0) d_Mo_isCut_105 ?_
            exact hret _ _ _ _ d_Mo_isCut_106 (by unfold ir; omega) ⟨_, rfl, rfl, pI_f (fun q => by first | (obtain ⟨x1, x2, x3⟩ := (cut_n hD hs hc (by omega)).mpr q.2; first | omega | exact absurd x3 (by assumption)) | (obtain ⟨x1, x2, x3, x4, x5⟩ := (cut_k hD hc (by omega)).mpr q.2; omega))⟩ rfl
          · refine v_iload_n hX d_Mo_isCut_75 4 rfl ?_
            refine v_eq (st' := [.int (iv (((num.toNat : Nat) : Int)))]) (by rw [show ((num.toNat : Nat) : Int) = num by omega]) ?_
            refine v_iload hX d_Mo_isCut_76 0 rfl ?_
            refine v_iconst hX (-1) d_Mo_isCut_78 ?_
            refine v_ixor (z := (-1 - (((kdF val set c n) : Nat) : Int))) hX d_Mo_isCut_79 (iv_not ((kdF val set c n))) ?_
            refine v_iand (z := (((nd num.toNat (kdF val set c n)) : Nat) : Int)) hX d_Mo_isCut_80 (iv_andnot (num.toNat) ((kdF val set c n))) ?_
            refine v_if_ne (tgt := 105) hX d_Mo_isCut_81 (by decide) (by first | assumption | (unfold ir; omega) | (have := d4 c; unfold ir; omega) | (have := kdF_lt (val := val) (set := set) (c := c) n (fun i hi => (tk_of (tks_iff.mp (d2 i hi) c hc)).2.2 (by omega)); unfold ir; omega) | exact ir_n (by have h1 := nd_le num.toNat (kdF val set c n); omega) | exact ir_n (Nat.lt_of_le_of_lt Nat.and_le_left (by omega))) (fun c81_16 => ?_) (fun c81_16 => ?_)
            · refine v_iconst hX (0) d_Mo_isCut_105 ?_
              exact hret _ _ _ _ d_Mo_isCut_106 (by unfold ir; omega) ⟨_, rfl, rfl, pI_f (fun q => by first | (obtain ⟨x1, x2, x3⟩ := (cut_n hD hs hc (by omega)).mpr q.2; first | omega | exact absurd x3 (by assumption)) | (obtain ⟨x1, x2, x3, x4, x5⟩ := (cut_k hD hc (by omega)).mpr q.2; omega))⟩ rfl
            · refine v_iload_n hX d_Mo_isCut_84 4 rfl ?_
              refine v_iload hX d_Mo_isCut_85 0 rfl ?_
              refine v_icmp_eq (tgt := 105) hX d_Mo_isCut_87 (by decide) (by first | assumption | (unfold ir; omega) | (have := d4 c; unfold ir; omega) | (have := kdF_lt (val := val) (set := set) (c := c) n (fun i hi => (tk_of (tks_iff.mp (d2 i hi) c hc)).2.2 (by omega)); unfold ir; omega) | exact ir_n (by have h1 := nd_le num.toNat (kdF val set c n); omega) | exact ir_n (Nat.lt_of_le_of_lt Nat.and_le_left (by omega))) (by first | assumption | (unfold ir; omega) | (have := d4 c; unfold ir; omega) | (have := kdF_lt (val := val) (set := set) (c := c) n (fun i hi => (tk_of (tks_iff.mp (d2 i hi) c hc)).2.2 (by omega)); unfold ir; omega) | exact ir_n (by have h1 := nd_le num.toNat (kdF val set c n); omega) | exact ir_n (Nat.lt_of_le_of_lt Nat.and_le_left (by omega))) (fun c87_17 => ?_) (fun c87_17 => ?_)
              · refine v_iconst hX (0) d_Mo_isCut_105 ?_
                exact hret _ _ _ _ d_Mo_isCut_106 (by unfold ir; omega) ⟨_, rfl, rfl, pI_f (fun q => by first | (obtain ⟨x1, x2, x3⟩ := (cut_n hD hs hc (by omega)).mpr q.2; first | omega | exact absurd x3 (by assumption)) | (obtain ⟨x1, x2, x3, x4, x5⟩ := (cut_k hD hc (by omega)).mpr q.2; omega))⟩ rfl
              · refine v_iload_n hX d_Mo_isCut_90 4 rfl ?_
                refine v_eq (st' := [.int (iv (((num.toNat : Nat) : Int)))]) (by rw [show ((num.toNat : Nat) : Int) = num by omega]) ?_
                refine v_iload hX d_Mo_isCut_91 0 rfl ?_
                refine v_iand (z := (((num.toNat &&& (kdF val set c n)) : Nat) : Int)) hX d_Mo_isCut_93 (iv_and (num.toNat) ((kdF val set c n))) ?_
                refine v_iload hX d_Mo_isCut_94 0 rfl ?_
                refine v_ineg hX d_Mo_isCut_96 ?_
                refine v_iand (z := ((num.toNat &&& low (kdF val set c n) : Nat) : Int)) hX d_Mo_isCut_97 (iv_low2 num.toNat (kdF val set c n) (kdF_lt n (fun i hi => (tk_of (tks_iff.mp (d2 i hi) c hc)).2.2 (by omega)))) ?_
                refine v_if_eq (tgt := 105) hX d_Mo_isCut_98 (by decide) (by first | assumption | (unfold ir; omega) | (have := d4 c; unfold ir; omega) | (have := kdF_lt (val := val) (set := set) (c := c) n (fun i hi => (tk_of (tks_iff.mp (d2 i hi) c hc)).2.2 (by omega)); unfold ir; omega) | exact ir_n (by have h1 := nd_le num.toNat (kdF val set c n); omega) | exact ir_n (Nat.lt_of_le_of_lt Nat.and_le_left (by omega))) (fun c98_18 => ?_) (fun c98_18 => ?_)
                · refine v_iconst hX (0) d_Mo_isCut_105 ?_
                  exact hret _ _ _ _ d_Mo_isCut_106 (by unfold ir; omega) ⟨_, rfl, rfl, pI_f (fun q => by first | (obtain ⟨x1, x2, x3⟩ := (cut_n hD hs hc (by omega)).mpr q.2; first | omega | exact absurd x3 (by assumption)) | (obtain ⟨x1, x2, x3, x4, x5⟩ := (cut_k hD hc (by omega)).mpr q.2; omega))⟩ rfl
                · refine v_iconst hX (1) d_Mo_isCut_101 ?_
                  refine v_goto (tgt := 106) hX d_Mo_isCut_102 (by decide) ?_
                  exact hret _ _ _ _ d_Mo_isCut_106 (by unfold ir; omega) ⟨_, rfl, rfl, pI_t ⟨(fun q1 => (unk_iff hs hc d2).mpr (by first | assumption | (exfalso; omega))), by first | exact (cut_n hD hs hc (by omega)).mp ⟨by omega, by omega, by assumption⟩ | exact (cut_k hD hc (by omega)).mp ⟨by omega, by omega, by omega, by omega, by omega⟩⟩⟩ rfl
      · refine v_iload_n hX d_Mo_isCut_27 3 rfl ?_
        refine v_if_lt (tgt := 55) hX d_Mo_isCut_28 (by decide) (by first | assumption | (unfold ir; omega) | (have := d4 c; unfold ir; omega) | (have := kdF_lt (val := val) (set := set) (c := c) n (fun i hi => (tk_of (tks_iff.mp (d2 i hi) c hc)).2.2 (by omega)); unfold ir; omega) | exact ir_n (by have h1 := nd_le num.toNat (kdF val set c n); omega) | exact ir_n (Nat.lt_of_le_of_lt Nat.and_le_left (by omega))) (fun c28_19 => ?_) (fun c28_19 => ?_)
        · refine v_iconst hX (0) d_Mo_isCut_55 ?_
          exact hret _ _ _ _ d_Mo_isCut_56 (by unfold ir; omega) ⟨_, rfl, rfl, pI_f (fun q => by first | (obtain ⟨x1, x2, x3⟩ := (cut_n hD hs hc (by omega)).mpr q.2; first | omega | exact absurd x3 (by assumption)) | (obtain ⟨x1, x2, x3, x4, x5⟩ := (cut_k hD hc (by omega)).mpr q.2; omega))⟩ rfl
        · refine v_iload_n hX d_Mo_isCut_31 3 rfl ?_
          refine v_aload_n hX d_Mo_isCut_32 0 rfl ?_
          refine v_iload_n hX d_Mo_isCut_33 1 rfl ?_
          refine v_iload_n hX d_Mo_isCut_34 2 rfl ?_
          refine g_callVI (As := [.int (iv (((set : Nat) : Int))), .int (iv (((c : Nat) : Int)))]) (st := [.int (iv (num))]) hX hj (i := 358) (by omega) m0 (m_Mo_greatest hj hM hD set hs c hc) cl_Mo_102 d_Mo_isCut_35 rfl ⟨by decide, by decide⟩ ⟨by decide, by decide⟩ (Nat.le_of_ble_eq_true rfl) (fun z29 σ30 hz31 hp32 => ?_)
          obtain ⟨he9, hv9⟩ := hp32
          rw [he9]
          have hzr := hz31
          rw [hv9] at hzr
          subst hv9
          refine v_icmp_ge (tgt := 55) hX d_Mo_isCut_38 (by decide) (by first | assumption | (unfold ir; omega) | (have := d4 c; unfold ir; omega) | (have := kdF_lt (val := val) (set := set) (c := c) n (fun i hi => (tk_of (tks_iff.mp (d2 i hi) c hc)).2.2 (by omega)); unfold ir; omega) | exact ir_n (by have h1 := nd_le num.toNat (kdF val set c n); omega) | exact ir_n (Nat.lt_of_le_of_lt Nat.and_le_left (by omega))) (by first | assumption | (unfold ir; omega) | (have := d4 c; unfold ir; omega) | (have := kdF_lt (val := val) (set := set) (c := c) n (fun i hi => (tk_of (tks_iff.mp (d2 i hi) c hc)).2.2 (by omega)); unfold ir; omega) | exact ir_n (by have h1 := nd_le num.toNat (kdF val set c n); omega) | exact ir_n (Nat.lt_of_le_of_lt Nat.and_le_left (by omega))) (fun c38_20 => ?_) (fun c38_20 => ?_)
          · refine v_iconst hX (0) d_Mo_isCut_55 ?_
            exact hret _ _ _ _ d_Mo_isCut_56 (by unfold ir; omega) ⟨_, rfl, rfl, pI_f (fun q => by first | (obtain ⟨x1, x2, x3⟩ := (cut_n hD hs hc (by omega)).mpr q.2; first | omega | exact absurd x3 (by assumption)) | (obtain ⟨x1, x2, x3, x4, x5⟩ := (cut_k hD hc (by omega)).mpr q.2; omega))⟩ rfl
          · refine v_aload_n hX d_Mo_isCut_41 0 rfl ?_
            refine v_iload_n hX d_Mo_isCut_42 1 rfl ?_
            refine v_iload_n hX d_Mo_isCut_43 2 rfl ?_
            refine v_iload_n hX d_Mo_isCut_44 3 rfl ?_
            refine g_callVI (As := [.int (iv (((set : Nat) : Int))), .int (iv (((c : Nat) : Int))), .int (iv (num))]) (st := []) hX hj (i := 358) (by omega) m0 (m_Mo_hasValue hj hM hD set hs c hc num (by first | assumption | (unfold ir; omega))) cl_Mo_98 d_Mo_isCut_45 rfl ⟨by decide, by decide⟩ ⟨by decide, by decide⟩ (Nat.le_of_ble_eq_true rfl) (fun z33 σ34 hz35 hp36 => ?_)
            obtain ⟨he37, hv38⟩ := hp36
            rw [he37]
            by_cases qz33 : hvF val set c num n = true
            · have z33e : z33 = 1 := hv38.trans (if_pos qz33)
              subst z33e
              refine v_if_eq (tgt := 55) hX d_Mo_isCut_48 (by decide) (by first | assumption | (unfold ir; omega) | (have := d4 c; unfold ir; omega) | (have := kdF_lt (val := val) (set := set) (c := c) n (fun i hi => (tk_of (tks_iff.mp (d2 i hi) c hc)).2.2 (by omega)); unfold ir; omega) | exact ir_n (by have h1 := nd_le num.toNat (kdF val set c n); omega) | exact ir_n (Nat.lt_of_le_of_lt Nat.and_le_left (by omega))) (fun c9 => absurd c9 (by omega)) (fun c9 => ?_)
              refine v_iconst hX (1) d_Mo_isCut_51 ?_
              refine v_goto (tgt := 56) hX d_Mo_isCut_52 (by decide) ?_
              exact hret _ _ _ _ d_Mo_isCut_56 (by unfold ir; omega) ⟨_, rfl, rfl, pI_t ⟨(fun q1 => (unk_iff hs hc d2).mpr (by first | assumption | (exfalso; omega))), by first | exact (cut_n hD hs hc (by omega)).mp ⟨by omega, by omega, by assumption⟩ | exact (cut_k hD hc (by omega)).mp ⟨by omega, by omega, by omega, by omega, by omega⟩⟩⟩ rfl
            · have z33e : z33 = 0 := hv38.trans (if_neg qz33)
              subst z33e
              refine v_if_eq (tgt := 55) hX d_Mo_isCut_48 (by decide) (by first | assumption | (unfold ir; omega) | (have := d4 c; unfold ir; omega) | (have := kdF_lt (val := val) (set := set) (c := c) n (fun i hi => (tk_of (tks_iff.mp (d2 i hi) c hc)).2.2 (by omega)); unfold ir; omega) | exact ir_n (by have h1 := nd_le num.toNat (kdF val set c n); omega) | exact ir_n (Nat.lt_of_le_of_lt Nat.and_le_left (by omega))) (fun c9 => ?_) (fun c9 => absurd c9 (by omega))
              refine v_iconst hX (0) d_Mo_isCut_55 ?_
              exact hret _ _ _ _ d_Mo_isCut_56 (by unfold ir; omega) ⟨_, rfl, rfl, pI_f (fun q => by first | (obtain ⟨x1, x2, x3⟩ := (cut_n hD hs hc (by omega)).mpr q.2; first | omega | exact absurd x3 (by assumption)) | (obtain ⟨x1, x2, x3, x4, x5⟩ := (cut_k hD hc (by omega)).mpr q.2; omega))⟩ rfl
    · have z17e : z17 = 0 := hv22.trans (if_neg qz17)
      subst z17e
      refine v_if_ne (tgt := 18) hX d_Mo_isCut_13 (by decide) (by first | assumption | (unfold ir; omega) | (have := d4 c; unfold ir; omega) | (have := kdF_lt (val := val) (set := set) (c := c) n (fun i hi => (tk_of (tks_iff.mp (d2 i hi) c hc)).2.2 (by omega)); unfold ir; omega) | exact ir_n (by have h1 := nd_le num.toNat (kdF val set c n); omega) | exact ir_n (Nat.lt_of_le_of_lt Nat.and_le_left (by omega))) (fun c9 => absurd c9 (by omega)) (fun c9 => ?_)
      refine v_iconst hX (0) d_Mo_isCut_16 ?_
      exact hret _ _ _ _ d_Mo_isCut_17 (by unfold ir; omega) ⟨_, rfl, rfl, pI_f (fun q => absurd ((unk_iff hs hc d2).mp (q.1 (by omega))) (by assumption))⟩ rfl
