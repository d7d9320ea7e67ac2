/-! FRACTIONS AND CUTS; by program -/
set_option maxHeartbeats 1000000 in
set_option maxRecDepth 100000 in
theorem m_Fra_become {G : xG} {f0 : xF} {ad : Nat → Nat} (hj : adOk ad 400) {σ : xF} (i : Nat) (iM : i < 400) (x y : Int) (hf : pFra σ i x y) (a b : Int) : ∀ l, gVo l G f0 ad 400 y_Fra_become (.code y_Fra_become c_Fra_become 3 none) rm_Fra_become [.ref (ad i), .int (iv (a)), .int (iv (b))] σ (fun σ' => σ' = va_up σ i (eO 1 [.int (iv a), .int (iv b)])) := by
  intro l
  refine mV_of (by decide) (Nat.le_of_ble_eq_true rfl) (fun X hX hret => ?_)
  show vV G X 0 0 0 [(0, .ref (ad i)), (1, .int (iv (a))), (2, .int (iv (b)))] [] (ov f0 ad 400 σ)
  refine v_aload_n hX d_Fra_become_0 0 rfl ?_
  refine v_iload_n hX d_Fra_become_1 1 rfl ?_
  refine g_put (i := i) (fs' := [.int (iv (a)), .int (iv (y))]) hX hj pf_Fra_9 d_Fra_become_2 (by omega) hf rfl rfl (Nat.le_of_ble_eq_true rfl) rfl ?_
  obtain ⟨σ1, hs2⟩ : ∃ s9, s9 = va_up σ (i) (eO 1 [.int (iv (a)), .int (iv (y))]) := ⟨_, rfl⟩
  rw [← hs2]
  have hf4 : σ1 (i) = (eO 1 [.int (iv (a)), .int (iv (y))]) := by rw [hs2, va_up_self]
  refine v_aload_n hX d_Fra_become_5 0 rfl ?_
  refine v_iload_n hX d_Fra_become_6 2 rfl ?_
  refine g_put (i := i) (fs' := [.int (iv (a)), .int (iv (b))]) hX hj pf_Fra_15 d_Fra_become_7 (by omega) hf4 rfl rfl (Nat.le_of_ble_eq_true rfl) rfl ?_
  obtain ⟨σ5, hs6⟩ : ∃ s9, s9 = va_up σ1 (i) (eO 1 [.int (iv (a)), .int (iv (b))]) := ⟨_, rfl⟩
  rw [← hs6]
  have hf8 : σ5 (i) = (eO 1 [.int (iv (a)), .int (iv (b))]) := by rw [hs6, va_up_self]
  exact hret _ _ _ d_Fra_become_10 ⟨_, rfl, (by rw [hs6, hs2, bx_uu])⟩

set_option maxHeartbeats 1000000 in
set_option maxRecDepth 100000 in
theorem m_Fra_becomeAs {G : xG} {f0 : xF} {ad : Nat → Nat} (hj : adOk ad 400) {σ : xF} (i : Nat) (iM : i < 400) (x y : Int) (hf : pFra σ i x y) (j : Nat) (jM : j < 400) (a b : Int) (hg : pFra σ j a b) (hij : j ≠ i) : ∀ l, gVo l G f0 ad 400 y_Fra_becomeAs (.code y_Fra_becomeAs c_Fra_becomeAs 2 none) rm_Fra_becomeAs [.ref (ad i), .ref (ad j)] σ (fun σ' => σ' = va_up σ i (eO 1 [.int (iv a), .int (iv b)])) := by
  intro l
  refine mV_of (by decide) (Nat.le_of_ble_eq_true rfl) (fun X hX hret => ?_)
  show vV G X 0 0 0 [(0, .ref (ad i)), (1, .ref (ad j))] [] (ov f0 ad 400 σ)
  refine v_aload_n hX d_Fra_becomeAs_0 0 rfl ?_
  refine v_aload_n hX d_Fra_becomeAs_1 1 rfl ?_
  refine g_get (i := j) hX hj fl_Fra_9 d_Fra_becomeAs_2 (by omega) hg rfl ?_
  refine g_put (i := i) (fs' := [.int (iv (a)), .int (iv (y))]) hX hj pf_Fra_9 d_Fra_becomeAs_5 (by omega) hf rfl rfl (Nat.le_of_ble_eq_true rfl) rfl ?_
  obtain ⟨σ1, hs2⟩ : ∃ s9, s9 = va_up σ (i) (eO 1 [.int (iv (a)), .int (iv (y))]) := ⟨_, rfl⟩
  rw [← hs2]
  have hf4 := (show σ1 (j) = σ (j) by rw [hs2, va_up_ne _ _ (by omega)]).trans hg
  have hf5 : σ1 (i) = (eO 1 [.int (iv (a)), .int (iv (y))]) := by rw [hs2, va_up_self]
  refine v_aload_n hX d_Fra_becomeAs_8 0 rfl ?_
  refine v_aload_n hX d_Fra_becomeAs_9 1 rfl ?_
  refine g_get (i := j) hX hj fl_Fra_15 d_Fra_becomeAs_10 (by omega) hf4 rfl ?_
  refine g_put (i := i) (fs' := [.int (iv (a)), .int (iv (b))]) hX hj pf_Fra_15 d_Fra_becomeAs_13 (by omega) hf5 rfl rfl (Nat.le_of_ble_eq_true rfl) rfl ?_
  obtain ⟨σ6, hs7⟩ : ∃ s9, s9 = va_up σ1 (i) (eO 1 [.int (iv (a)), .int (iv (b))]) := ⟨_, rfl⟩
  rw [← hs7]
  have hf8 := (show σ6 (j) = σ1 (j) by rw [hs7, va_up_ne _ _ (by omega)]).trans hf4
  have hf10 : σ6 (i) = (eO 1 [.int (iv (a)), .int (iv (b))]) := by rw [hs7, va_up_self]
  exact hret _ _ _ d_Fra_becomeAs_16 ⟨_, rfl, (by rw [hs7, hs2, bx_uu])⟩

set_option maxHeartbeats 1000000 in
set_option maxRecDepth 100000 in
theorem m_Fra_compareWith {G : xG} {f0 : xF} {ad : Nat → Nat} (hj : adOk ad 400) {σ : xF} (i : Nat) (iM : i < 400) (x y : Int) (hf : pFra σ i x y) (j : Nat) (jM : j < 400) (a b : Int) (hg : pFra σ j a b) (rx : ir x) (ry : ir y) (ra : ir a) (rb : ir b) : ∀ l, gI l G f0 ad 400 y_Fra_compareWith (.code y_Fra_compareWith c_Fra_compareWith 2 (some (.int))) rm_Fra_compareWith [.ref (ad i), .ref (ad j)] σ (fun z σ' => σ' = σ ∧ z = (if x * b < a * y then (-1 : Int) else if x * b = a * y then 0 else 1)) := by
  intro l
  refine mI_of (rt := .int) (by decide) (Nat.le_of_ble_eq_true rfl) (fun X hX hret => ?_)
  show vV G X 0 0 0 [(0, .ref (ad i)), (1, .ref (ad j))] [] (ov f0 ad 400 σ)
  refine v_aload_n hX d_Fra_compareWith_0 0 rfl ?_
  refine g_get (i := i) hX hj fl_Fra_9 d_Fra_compareWith_1 (by omega) hf rfl ?_
  refine v_i2l hX d_Fra_compareWith_4 (by assumption) ?_
  refine v_aload_n hX d_Fra_compareWith_5 1 rfl ?_
  refine g_get (i := j) hX hj fl_Fra_15 d_Fra_compareWith_6 (by omega) hg rfl ?_
  refine v_i2l hX d_Fra_compareWith_9 (by assumption) ?_
  refine v_lmul hX d_Fra_compareWith_10 ?_
  refine v_aload_n hX d_Fra_compareWith_11 1 rfl ?_
  refine g_get (i := j) hX hj fl_Fra_9 d_Fra_compareWith_12 (by omega) hg rfl ?_
  refine v_i2l hX d_Fra_compareWith_15 (by assumption) ?_
  refine v_aload_n hX d_Fra_compareWith_16 0 rfl ?_
  refine g_get (i := i) hX hj fl_Fra_15 d_Fra_compareWith_17 (by omega) hf rfl ?_
  refine v_i2l hX d_Fra_compareWith_20 (by assumption) ?_
  refine v_lmul hX d_Fra_compareWith_21 ?_
  refine g_callSI (As := [.long (jv ((x * b))), .long (jv ((a * y)))]) (st := []) hX (k0_Lon_compare ((x * b)) ((a * y)) (jr_mul (by assumption) (by assumption)) (jr_mul (by assumption) (by assumption))) cl_Fra_18 d_Fra_compareWith_22 rfl ⟨by decide, by decide⟩ ⟨by decide, by decide⟩ (Nat.le_of_ble_eq_true rfl) (fun z1 hz2 hp3 => ?_)
  exact hret _ _ _ _ d_Fra_compareWith_25 (by assumption) ⟨_, rfl, rfl, hp3⟩ rfl

set_option maxHeartbeats 1000000 in
set_option maxRecDepth 100000 in
theorem m_Fra_isAboveHundredths {G : xG} {f0 : xF} {ad : Nat → Nat} (hj : adOk ad 400) {σ : xF} (i : Nat) (iM : i < 400) (x y : Int) (hf : pFra σ i x y) (w : Int) (rx : ir x) (ry : ir y) (rw : ir w) : ∀ l, gI l G f0 ad 400 y_Fra_isAboveHundredths (.code y_Fra_isAboveHundredths c_Fra_isAboveHundredths 2 (some (.boolean))) rm_Fra_isAboveHundredths [.ref (ad i), .int (iv (w))] σ (fun z σ' => σ' = σ ∧ z = pI (w * y < 100 * x)) := by
  intro l
  refine mI_of (rt := .boolean) (by decide) (Nat.le_of_ble_eq_true rfl) (fun X hX hret => ?_)
  show vV G X 0 0 0 [(0, .ref (ad i)), (1, .int (iv (w)))] [] (ov f0 ad 400 σ)
  refine v_ldc2 hX (100) d_Fra_isAboveHundredths_0 (mT 499 (by decide +kernel) rfl) rfl ?_
  refine v_aload_n hX d_Fra_isAboveHundredths_3 0 rfl ?_
  refine g_get (i := i) hX hj fl_Fra_9 d_Fra_isAboveHundredths_4 (by omega) hf rfl ?_
  refine v_i2l hX d_Fra_isAboveHundredths_7 (by first | assumption | (unfold ir; omega)) ?_
  refine v_lmul hX d_Fra_isAboveHundredths_8 ?_
  refine v_iload_n hX d_Fra_isAboveHundredths_9 1 rfl ?_
  refine v_i2l hX d_Fra_isAboveHundredths_10 (by first | assumption | (unfold ir; omega)) ?_
  refine v_aload_n hX d_Fra_isAboveHundredths_11 0 rfl ?_
  refine g_get (i := i) hX hj fl_Fra_15 d_Fra_isAboveHundredths_12 (by omega) hf rfl ?_
  refine v_i2l hX d_Fra_isAboveHundredths_15 (by first | assumption | (unfold ir; omega)) ?_
  refine v_lmul hX d_Fra_isAboveHundredths_16 ?_
  refine v_lcmp hX d_Fra_isAboveHundredths_17 (jr_mul (by unfold ir; omega) rx) (jr_mul rw ry) ?_
  obtain ⟨z1, hz1, hz1r, hz1a, hz1b, hz1c⟩ := cmp_ex ((100 * x)) ((w * y))
  rw [← hz1]
  refine v_if_le (tgt := 25) hX d_Fra_isAboveHundredths_18 (by decide) (by first | assumption | (unfold ir; omega)) (fun c18_1 => ?_) (fun c18_1 => ?_)
  · refine v_iconst hX (0) d_Fra_isAboveHundredths_25 ?_
    exact hret _ _ _ _ d_Fra_isAboveHundredths_26 (by unfold ir; omega) ⟨_, rfl, rfl, (pI_f (by omega))⟩ rfl
  · refine v_iconst hX (1) d_Fra_isAboveHundredths_21 ?_
    refine v_goto (tgt := 26) hX d_Fra_isAboveHundredths_22 (by decide) ?_
    exact hret _ _ _ _ d_Fra_isAboveHundredths_26 (by unfold ir; omega) ⟨_, rfl, rfl, (pI_t (by omega))⟩ rfl

set_option maxHeartbeats 1000000 in
set_option maxRecDepth 100000 in
theorem m_Fra_greatestCommonDivisor {G : xG} {f0 : xF} {ad : Nat → Nat} (hj : adOk ad 400) {σ : xF} (i : Nat) (hi : i < 400) (a b : Nat) (hf : pFra σ i a b) (ha : a < 2147483648) (hb : b < 2147483648) (h0 : 0 < b) : ∀ l, gI l G f0 ad 400 y_Fra_greatestCommonDivisor (.code y_Fra_greatestCommonDivisor c_Fra_greatestCommonDivisor 5 (some (.int))) rm_Fra_greatestCommonDivisor [.ref (ad i)] σ (fun z σ' => σ' = σ ∧ z = ((Nat.gcd a b : Nat) : Int)) := by
  intro l
  refine mI_of (rt := .int) (by decide) (Nat.le_of_ble_eq_true rfl) (fun X hX hret => ?_)
  show vV G X 0 0 0 [(0, .ref (ad i))] [] (ov f0 ad 400 σ)
  refine v_aload_n hX d_Fra_greatestCommonDivisor_0 0 rfl ?_
  refine g_get (i := i) hX hj fl_Fra_9 d_Fra_greatestCommonDivisor_1 (by omega) hf rfl ?_
  refine v_istore_n (lv' := [(1, .int (iv (((a : Nat) : Int)))), (0, .ref (ad i))]) hX d_Fra_greatestCommonDivisor_4 rfl (by decide) rfl ?_
  refine v_aload_n hX d_Fra_greatestCommonDivisor_5 1 rfl ?_
  refine g_get (i := i) hX hj fl_Fra_15 d_Fra_greatestCommonDivisor_6 (by omega) hf rfl ?_
  refine v_istore_n (lv' := [(2, .int (iv (((b : Nat) : Int)))), (1, .int (iv (((a : Nat) : Int)))), (0, .ref (ad i))]) hX d_Fra_greatestCommonDivisor_9 rfl (by decide) rfl ?_
  refine v_iconst hX (0) d_Fra_greatestCommonDivisor_10 ?_
  refine v_istore_n (lv' := [(3, .int (iv (0))), (2, .int (iv (((b : Nat) : Int)))), (1, .int (iv (((a : Nat) : Int)))), (0, .ref (ad i))]) hX d_Fra_greatestCommonDivisor_11 rfl (by decide) rfl ?_
  have LOOP : ∀ (fuel : Nat) (k : Nat) (g : Nat) (q : Nat), 64 - k < fuel → (k ≤ 64) → (gcI a b k g q) → vV G X 0 0 12 [(0, .ref (ad i)), (1, .int (iv (((g : Nat) : Int)))), (2, .int (iv (((q : Nat) : Int)))), (3, .int (iv (((k : Nat) : Int))))] [] (ov f0 ad 400 σ) := by
    intro fuel
    induction fuel with
    | zero => intro k g q hm; exact absurd hm (Nat.not_lt_zero _)
    | succ fuel ih_LOOP =>
      intro k g q hm hk hh
      obtain ⟨g1, g2, g3, g4, -⟩ := id hh
      refine v_iload_n hX d_Fra_greatestCommonDivisor_12 3 rfl ?_
      refine v_bipush hX (64) d_Fra_greatestCommonDivisor_13 rfl ?_
      refine v_icmp_ge (tgt := 38) hX d_Fra_greatestCommonDivisor_15 (by decide) (by unfold ir; omega) (by unfold ir; omega) (fun c15_1 => ?_) (fun c15_1 => ?_)
      · refine v_iload_n hX d_Fra_greatestCommonDivisor_38 1 rfl ?_
        have e0 : q = 0 := by first | omega | exact gcI_e ha hb hh (by omega)
        subst e0
        exact hret _ _ _ _ d_Fra_greatestCommonDivisor_39 (ir_n g3) ⟨_, rfl, rfl, congrArg (fun q : Nat => (q : Int)) (gcI_g hh)⟩ rfl
      · refine v_iload_n hX d_Fra_greatestCommonDivisor_18 2 rfl ?_
        refine v_if_eq (tgt := 38) hX d_Fra_greatestCommonDivisor_19 (by decide) (by unfold ir; omega) (fun c19_2 => ?_) (fun c19_2 => ?_)
        · refine v_iload_n hX d_Fra_greatestCommonDivisor_38 1 rfl ?_
          have e0 : q = 0 := by first | omega | exact gcI_e ha hb hh (by omega)
          subst e0
          exact hret _ _ _ _ d_Fra_greatestCommonDivisor_39 (ir_n g3) ⟨_, rfl, rfl, congrArg (fun q : Nat => (q : Int)) (gcI_g hh)⟩ rfl
        · refine v_iload_n hX d_Fra_greatestCommonDivisor_22 1 rfl ?_
          refine v_iload_n hX d_Fra_greatestCommonDivisor_23 2 rfl ?_
          refine v_irem (z := (((g % q) : Nat) : Int)) hX d_Fra_greatestCommonDivisor_24 (iv_ne0 (ir_n (by omega)) (by omega)) (iv_rem (g) (q) (by omega) (by omega) (by omega)) ?_
          refine v_istore (lv' := [(4, .int (iv ((((g % q) : Nat) : Int)))), (0, .ref (ad i)), (1, .int (iv (((g : Nat) : Int)))), (2, .int (iv (((q : Nat) : Int)))), (3, .int (iv (((k : Nat) : Int))))]) hX d_Fra_greatestCommonDivisor_25 (by decide) rfl ?_
          refine v_iload_n hX d_Fra_greatestCommonDivisor_27 3 rfl ?_
          refine v_istore_n (lv' := [(1, .int (iv (((q : Nat) : Int)))), (4, .int (iv ((((g % q) : Nat) : Int)))), (0, .ref (ad i)), (2, .int (iv (((q : Nat) : Int)))), (3, .int (iv (((k : Nat) : Int))))]) hX d_Fra_greatestCommonDivisor_28 rfl (by decide) rfl ?_
          refine v_iload hX d_Fra_greatestCommonDivisor_29 1 rfl ?_
          refine v_istore_n (lv' := [(2, .int (iv ((((g % q) : Nat) : Int)))), (1, .int (iv (((q : Nat) : Int)))), (4, .int (iv ((((g % q) : Nat) : Int)))), (0, .ref (ad i)), (3, .int (iv (((k : Nat) : Int))))]) hX d_Fra_greatestCommonDivisor_31 rfl (by decide) rfl ?_
          refine v_iincN (a := k) (n := 1) (lv' := [(3, .int (iv ((((k + 1) : Nat) : Int)))), (2, .int (iv ((((g % q) : Nat) : Int)))), (1, .int (iv (((q : Nat) : Int)))), (4, .int (iv ((((g % q) : Nat) : Int)))), (0, .ref (ad i))]) hX d_Fra_greatestCommonDivisor_32 rfl 4 rfl (by decide) rfl ?_
          refine v_goto (tgt := 12) hX d_Fra_greatestCommonDivisor_35 (by decide) ?_
          refine v_lv [4, 2, 1, 0] rfl ?_
          exact ih_LOOP (k + 1) (q) (g % q) (by omega) (by omega) (gcI_s hh (by omega))
  refine v_lv [3, 2, 1, 0] rfl ?_
  exact LOOP _ (0) (a) (b) (Nat.lt_succ_self _) (by decide) (gcI_0 ha hb h0)

set_option maxHeartbeats 1000000 in
set_option maxRecDepth 100000 in
theorem m_Fra_inLowestTerms {G : xG} {f0 : xF} {ad : Nat → Nat} (hj : adOk ad 400) {σ : xF} (i : Nat) (hi : i < 400) (a b : Nat) (hf : pFra σ i a b) (ha : a < 2147483648) (hb : b < 2147483648) (h0 : 0 < b) (part : Int) (hp : part = 0 ∨ part = 1) : ∀ l, gI l G f0 ad 400 y_Fra_inLowestTerms (.code y_Fra_inLowestTerms c_Fra_inLowestTerms 4 (some (.int))) rm_Fra_inLowestTerms [.ref (ad i), .int (iv (part))] σ (fun z σ' => σ' = σ ∧ z = (((if part = 0 then a else b) / Nat.gcd a b : Nat) : Int)) := by
  intro l
  refine mI_of (rt := .int) (by decide) (Nat.le_of_ble_eq_true rfl) (fun X hX hret => ?_)
  show vV G X 0 0 0 [(0, .ref (ad i)), (1, .int (iv (part)))] [] (ov f0 ad 400 σ)
  have hg : 0 < Nat.gcd a b := Nat.gcd_pos_of_pos_right a h0
  have hg2 : Nat.gcd a b ≤ b := Nat.gcd_le_right a h0
  have d1 := Nat.div_le_self a (Nat.gcd a b)
  have d2 := Nat.div_le_self b (Nat.gcd a b)
  refine v_aload_n hX d_Fra_inLowestTerms_0 0 rfl ?_
  refine g_callVI (As := []) (st := []) hX hj (i := i) (by omega) hf (m_Fra_greatestCommonDivisor hj i hi a b hf ha hb h0) cl_Fra_26 d_Fra_inLowestTerms_1 rfl ⟨by decide, by decide⟩ ⟨by decide, by decide⟩ (Nat.le_of_ble_eq_true rfl) (fun z1 σ2 hz3 hp4 => ?_)
  obtain ⟨he5, hv6⟩ := hp4
  rw [he5]
  subst hv6
  refine v_istore_n (lv' := [(2, .int (iv ((((Nat.gcd a b) : Nat) : Int)))), (0, .ref (ad i)), (1, .int (iv (part)))]) hX d_Fra_inLowestTerms_4 rfl (by decide) rfl ?_
  refine v_iload_n hX d_Fra_inLowestTerms_5 2 rfl ?_
  refine v_if_ne (tgt := 16) hX d_Fra_inLowestTerms_6 (by decide) (by unfold ir; omega) (fun c6_1 => ?_) (fun c6_1 => ?_)
  · refine v_aload_n hX d_Fra_inLowestTerms_16 1 rfl ?_
    refine g_get (i := i) hX hj fl_Fra_15 d_Fra_inLowestTerms_17 (by omega) hf rfl ?_
    refine v_istore_n (lv' := [(3, .int (iv (((b : Nat) : Int)))), (2, .int (iv ((((Nat.gcd a b) : Nat) : Int)))), (0, .ref (ad i)), (1, .int (iv (part)))]) hX d_Fra_inLowestTerms_20 rfl (by decide) rfl ?_
    refine v_iload_n hX d_Fra_inLowestTerms_21 1 rfl ?_
    refine v_if_ne (tgt := 29) hX d_Fra_inLowestTerms_22 (by decide) (by unfold ir; omega) (fun c22_2 => ?_) (fun c22_2 => absurd c22_2 (by omega))
    refine v_iload_n hX d_Fra_inLowestTerms_29 0 rfl ?_
    refine v_iload_n hX d_Fra_inLowestTerms_30 1 rfl ?_
    refine v_idiv (z := (((b / (Nat.gcd a b)) : Nat) : Int)) hX d_Fra_inLowestTerms_31 (iv_ne0 (ir_n (by omega)) (by omega)) (iv_div (b) ((Nat.gcd a b)) (by omega) (by omega) (by omega)) ?_
    exact hret _ _ _ _ d_Fra_inLowestTerms_32 (by first | exact ir_n (Nat.lt_of_le_of_lt d1 ha) | exact ir_n (Nat.lt_of_le_of_lt d2 hb)) ⟨_, rfl, rfl, (by first | (rw [if_pos (by omega)]; done) | (rw [if_neg (by omega)]; done))⟩ rfl
  · refine v_aload_n hX d_Fra_inLowestTerms_9 1 rfl ?_
    refine g_get (i := i) hX hj fl_Fra_9 d_Fra_inLowestTerms_10 (by omega) hf rfl ?_
    refine v_goto (tgt := 20) hX d_Fra_inLowestTerms_13 (by decide) ?_
    refine v_istore_n (lv' := [(3, .int (iv (((a : Nat) : Int)))), (2, .int (iv ((((Nat.gcd a b) : Nat) : Int)))), (0, .ref (ad i)), (1, .int (iv (part)))]) hX d_Fra_inLowestTerms_20 rfl (by decide) rfl ?_
    refine v_iload_n hX d_Fra_inLowestTerms_21 1 rfl ?_
    refine v_if_ne (tgt := 29) hX d_Fra_inLowestTerms_22 (by decide) (by unfold ir; omega) (fun c22_3 => ?_) (fun c22_3 => absurd c22_3 (by omega))
    refine v_iload_n hX d_Fra_inLowestTerms_29 0 rfl ?_
    refine v_iload_n hX d_Fra_inLowestTerms_30 1 rfl ?_
    refine v_idiv (z := (((a / (Nat.gcd a b)) : Nat) : Int)) hX d_Fra_inLowestTerms_31 (iv_ne0 (ir_n (by omega)) (by omega)) (iv_div (a) ((Nat.gcd a b)) (by omega) (by omega) (by omega)) ?_
    exact hret _ _ _ _ d_Fra_inLowestTerms_32 (by first | exact ir_n (Nat.lt_of_le_of_lt d1 ha) | exact ir_n (Nat.lt_of_le_of_lt d2 hb)) ⟨_, rfl, rfl, (by first | (rw [if_pos (by omega)]; done) | (rw [if_neg (by omega)]; done))⟩ rfl

set_option maxHeartbeats 1000000 in
set_option maxRecDepth 100000 in
theorem m_Cut_become {G : xG} {f0 : xF} {ad : Nat → Nat} (hj : adOk ad 400) {σ : xF} (i g : Nat) (iM : i < 400) (x0 x1 x2 : Int) (hci : pCut ad σ i g x0 x1 x2) (a b c : Int) : ∀ l, gVo l G f0 ad 400 y_Cut_become (.code y_Cut_become c_Cut_become 4 none) rm_Cut_become [.ref (ad i), .int (iv (a)), .int (iv (b)), .int (iv (c))] σ (fun σ' => σ' = va_up σ i (eO 0 [.ref (ad g), .int (iv a), .int (iv b), .int (iv c)])) := by
  intro l
  refine mV_of (by decide) (Nat.le_of_ble_eq_true rfl) (fun X hX hret => ?_)
  show vV G X 0 0 0 [(0, .ref (ad i)), (1, .int (iv (a))), (2, .int (iv (b))), (3, .int (iv (c)))] [] (ov f0 ad 400 σ)
  refine v_aload_n hX d_Cut_become_0 0 rfl ?_
  refine v_iload_n hX d_Cut_become_1 1 rfl ?_
  refine g_put (i := i) (fs' := [.ref (ad g), .int (iv (a)), .int (iv (x1)), .int (iv (x2))]) hX hj pf_Cut_16 d_Cut_become_2 (by omega) hci rfl rfl (Nat.le_of_ble_eq_true rfl) rfl ?_
  obtain ⟨σ1, hs2⟩ : ∃ s9, s9 = va_up σ (i) (eO 0 [.ref (ad g), .int (iv (a)), .int (iv (x1)), .int (iv (x2))]) := ⟨_, rfl⟩
  rw [← hs2]
  have hf4 : σ1 (i) = (eO 0 [.ref (ad g), .int (iv (a)), .int (iv (x1)), .int (iv (x2))]) := by rw [hs2, va_up_self]
  refine v_aload_n hX d_Cut_become_5 0 rfl ?_
  refine v_iload_n hX d_Cut_become_6 2 rfl ?_
  refine g_put (i := i) (fs' := [.ref (ad g), .int (iv (a)), .int (iv (b)), .int (iv (x2))]) hX hj pf_Cut_20 d_Cut_become_7 (by omega) hf4 rfl rfl (Nat.le_of_ble_eq_true rfl) rfl ?_
  obtain ⟨σ5, hs6⟩ : ∃ s9, s9 = va_up σ1 (i) (eO 0 [.ref (ad g), .int (iv (a)), .int (iv (b)), .int (iv (x2))]) := ⟨_, rfl⟩
  rw [← hs6]
  have hf8 : σ5 (i) = (eO 0 [.ref (ad g), .int (iv (a)), .int (iv (b)), .int (iv (x2))]) := by rw [hs6, va_up_self]
  refine v_aload_n hX d_Cut_become_10 0 rfl ?_
  refine v_iload_n hX d_Cut_become_11 3 rfl ?_
  refine g_put (i := i) (fs' := [.ref (ad g), .int (iv (a)), .int (iv (b)), .int (iv (c))]) hX hj pf_Cut_23 d_Cut_become_12 (by omega) hf8 rfl rfl (Nat.le_of_ble_eq_true rfl) rfl ?_
  obtain ⟨σ9, hs10⟩ : ∃ s9, s9 = va_up σ5 (i) (eO 0 [.ref (ad g), .int (iv (a)), .int (iv (b)), .int (iv (c))]) := ⟨_, rfl⟩
  rw [← hs10]
  have hf12 : σ9 (i) = (eO 0 [.ref (ad g), .int (iv (a)), .int (iv (b)), .int (iv (c))]) := by rw [hs10, va_up_self]
  exact hret _ _ _ d_Cut_become_15 ⟨_, rfl, (by rw [hs10, hs6, hs2, bx_uu, bx_uu])⟩

set_option maxHeartbeats 1000000 in
set_option maxRecDepth 100000 in
theorem m_Cut_becomeAs {G : xG} {f0 : xF} {ad : Nat → Nat} (hj : adOk ad 400) {σ : xF} (i gi : Nat) (iM : i < 400) (x0 x1 x2 : Int) (hci : pCut ad σ i gi x0 x1 x2) (j gj : Nat) (jM : j < 400) (y0 y1 y2 : Int) (hcj : pCut ad σ j gj y0 y1 y2) (giM : gi < 400) (gjM : gj < 400) (a b c d : Int) (hfi : pFra σ gi a b) (hfj : pFra σ gj c d) (hij : j ≠ i) (hgg : gj ≠ gi) (h1 : gi ≠ i) (h2 : gj ≠ i) (h3 : gi ≠ j) (h4 : gj ≠ j) : ∀ l, gVo l G f0 ad 400 y_Cut_becomeAs (.code y_Cut_becomeAs c_Cut_becomeAs 2 none) rm_Cut_becomeAs [.ref (ad i), .ref (ad j)] σ (fun σ' => σ' = va_up (va_up σ i (eO 0 [.ref (ad gi), .int (iv y0), .int (iv y1), .int (iv y2)])) gi (eO 1 [.int (iv c), .int (iv d)])) := by
  intro l
  refine mV_of (by decide) (Nat.le_of_ble_eq_true rfl) (fun X hX hret => ?_)
  show vV G X 0 0 0 [(0, .ref (ad i)), (1, .ref (ad j))] [] (ov f0 ad 400 σ)
  refine v_aload_n hX d_Cut_becomeAs_0 0 rfl ?_
  refine v_aload_n hX d_Cut_becomeAs_1 1 rfl ?_
  refine g_get (i := j) hX hj fl_Cut_16 d_Cut_becomeAs_2 (by omega) hcj rfl ?_
  refine v_aload_n hX d_Cut_becomeAs_5 1 rfl ?_
  refine g_get (i := j) hX hj fl_Cut_20 d_Cut_becomeAs_6 (by omega) hcj rfl ?_
  refine v_aload_n hX d_Cut_becomeAs_9 1 rfl ?_
  refine g_get (i := j) hX hj fl_Cut_23 d_Cut_becomeAs_10 (by omega) hcj rfl ?_
  refine g_callVV (As := [.int (iv (y0)), .int (iv (y1)), .int (iv (y2))]) (st := []) hX hj (i := i) (by omega) hci (m_Cut_become hj i gi iM x0 x1 x2 hci y0 y1 y2) cl_Cut_26 d_Cut_becomeAs_13 rfl ⟨by decide, by decide⟩ ⟨by decide, by decide⟩ (Nat.le_of_ble_eq_true rfl) (fun σ2 hp4 => ?_)
  have hf5 := (show σ2 (j) = σ (j) by rw [hp4, va_up_ne _ _ (by omega)]).trans hcj
  have hf6 := (show σ2 (gi) = σ (gi) by rw [hp4, va_up_ne _ _ (by omega)]).trans hfi
  have hf7 := (show σ2 (gj) = σ (gj) by rw [hp4, va_up_ne _ _ (by omega)]).trans hfj
  have hf8 : σ2 (i) = (eO 0 [.ref (ad gi), .int (iv y0), .int (iv y1), .int (iv y2)]) := by rw [hp4, va_up_self]
  refine v_aload_n hX d_Cut_becomeAs_16 0 rfl ?_
  refine g_get (i := i) hX hj fl_Cut_10 d_Cut_becomeAs_17 (by omega) hf8 rfl ?_
  refine v_aload_n hX d_Cut_becomeAs_20 1 rfl ?_
  refine g_get (i := j) hX hj fl_Cut_10 d_Cut_becomeAs_21 (by omega) hf5 rfl ?_
  refine g_callVV (As := [.ref (ad gj)]) (st := []) hX hj (i := gi) (by omega) hf6 (m_Fra_becomeAs hj gi giM a b hf6 gj gjM c d hf7 hgg) cl_Cut_30 d_Cut_becomeAs_24 rfl ⟨by decide, by decide⟩ ⟨by decide, by decide⟩ (Nat.le_of_ble_eq_true rfl) (fun σ10 hp12 => ?_)
  have hf13 := (show σ10 (j) = σ2 (j) by rw [hp12, va_up_ne _ _ (by omega)]).trans hf5
  have hf14 := (show σ10 (gj) = σ2 (gj) by rw [hp12, va_up_ne _ _ (by omega)]).trans hf7
  have hf15 := (show σ10 (i) = σ2 (i) by rw [hp12, va_up_ne _ _ (by omega)]).trans hf8
  have hf16 : σ10 (gi) = (eO 1 [.int (iv c), .int (iv d)]) := by rw [hp12, va_up_self]
  exact hret _ _ _ d_Cut_becomeAs_27 ⟨_, rfl, (by rw [hp12, hp4])⟩
