/-! THE REFERENCE, written; by program -/
set_option maxHeartbeats 1000000 in
set_option maxRecDepth 100000 in
theorem k0_Mo_common {G : xG} (a b : Nat) (ha : a < 2147483648) (hb : b < 2147483648) : ∀ l f, mL l G y_Mo_common (.code y_Mo_common c_Mo_common 10 (some (.long))) rm_Mo_common [.long (jv (((a : Nat) : Int))), .long (jv (((b : Nat) : Int)))] f (fun z f' => f' = f ∧ z = ((Nat.gcd a b : Nat) : Int)) := by
  intro l f
  refine mL_of (by decide) (Nat.le_of_ble_eq_true rfl) (fun X hX hret => ?_)
  show vV G X 0 0 0 [(0, .long (jv (((a : Nat) : Int)))), (2, .long (jv (((b : Nat) : Int))))] [] f
  refine v_lload_n hX d_Mo_common_0 0 rfl ?_
  refine v_lstore (lv' := [(4, .long (jv (((a : Nat) : Int)))), (0, .long (jv (((a : Nat) : Int)))), (2, .long (jv (((b : Nat) : Int))))]) hX d_Mo_common_1 (by decide) rfl ?_
  refine v_lload_n hX d_Mo_common_3 2 rfl ?_
  refine v_lstore (lv' := [(6, .long (jv (((b : Nat) : Int)))), (4, .long (jv (((a : Nat) : Int)))), (0, .long (jv (((a : Nat) : Int)))), (2, .long (jv (((b : Nat) : Int))))]) hX d_Mo_common_4 (by decide) rfl ?_
  have LOOP : ∀ (fuel : Nat) (x : Nat) (y : Nat), y < fuel → (x < 2147483648) → (y < 2147483648) → (Nat.gcd x y = Nat.gcd a b) → vV G X 0 0 6 [(0, .long (jv (((a : Nat) : Int)))), (2, .long (jv (((b : Nat) : Int)))), (4, .long (jv (((x : Nat) : Int)))), (6, .long (jv (((y : Nat) : Int))))] [] f := by
    intro fuel
    induction fuel with
    | zero => intro x y hm; exact absurd hm (Nat.not_lt_zero _)
    | succ fuel ih_LOOP =>
      intro x y hm hx hy hg
      refine v_lload hX d_Mo_common_6 3 rfl ?_
      refine v_lconst hX 0 d_Mo_common_8 rfl ?_
      refine v_lcmp hX d_Mo_common_9 (by unfold jr; omega) (by unfold jr; omega) ?_
      obtain ⟨z1, hz1, hz1r, hz1a, hz1b, hz1c⟩ := cmp_ex (((y : Nat) : Int)) (0)
      rw [← hz1]
      refine v_if_eq (tgt := 31) hX d_Mo_common_10 (by decide) (by first | assumption | (unfold ir; omega)) (fun c10_1 => ?_) (fun c10_1 => ?_)
      · refine v_lload hX d_Mo_common_31 2 rfl ?_
        have e0 : y = 0 := by omega
        rw [e0, Nat.gcd_zero_right] at hg
        exact hret _ _ _ _ d_Mo_common_33 (by unfold jr; omega) ⟨rfl, congrArg (fun q : Nat => (q : Int)) hg⟩
      · refine v_lload hX d_Mo_common_13 2 rfl ?_
        refine v_lload hX d_Mo_common_15 3 rfl ?_
        refine v_lrem (z := (((x % y) : Nat) : Int)) hX d_Mo_common_17 (jv_ne0 (by unfold jr; omega) (by omega)) (jv_rem (x) (y) (by omega) (by omega)) ?_
        refine v_lstore (lv' := [(8, .long (jv ((((x % y) : Nat) : Int)))), (0, .long (jv (((a : Nat) : Int)))), (2, .long (jv (((b : Nat) : Int)))), (4, .long (jv (((x : Nat) : Int)))), (6, .long (jv (((y : Nat) : Int))))]) hX d_Mo_common_18 (by decide) rfl ?_
        refine v_lload hX d_Mo_common_20 4 rfl ?_
        refine v_lstore (lv' := [(4, .long (jv (((y : Nat) : Int)))), (8, .long (jv ((((x % y) : Nat) : Int)))), (0, .long (jv (((a : Nat) : Int)))), (2, .long (jv (((b : Nat) : Int)))), (6, .long (jv (((y : Nat) : Int))))]) hX d_Mo_common_22 (by decide) rfl ?_
        refine v_lload hX d_Mo_common_24 1 rfl ?_
        refine v_lstore (lv' := [(6, .long (jv ((((x % y) : Nat) : Int)))), (4, .long (jv (((y : Nat) : Int)))), (8, .long (jv ((((x % y) : Nat) : Int)))), (0, .long (jv (((a : Nat) : Int)))), (2, .long (jv (((b : Nat) : Int))))]) hX d_Mo_common_26 (by decide) rfl ?_
        refine v_goto (tgt := 6) hX d_Mo_common_28 (by decide) ?_
        refine v_lv [3, 4, 1, 0] rfl ?_
        exact ih_LOOP (y) (x % y) (by have h9 := Nat.mod_lt x (show 0 < y by omega); omega) hy (Nat.lt_of_lt_of_le (Nat.mod_lt x (by omega)) (by omega)) ((gcd_st x y).trans hg)
  refine v_lv [2, 3, 1, 0] rfl ?_
  exact LOOP _ (a) (b) (Nat.lt_succ_self _) ha hb rfl

set_option maxHeartbeats 1000000 in
set_option maxRecDepth 100000 in
theorem k0_Mo_lowest {G : xG} (a b : Nat) (ha : a < 2147483648) (hb : b < 2147483648) (h0 : 0 < b) (part : Int) (hp : part = 0 ∨ part = 1) : ∀ l f, mI l G y_Mo_lowest (.code y_Mo_lowest c_Mo_lowest 7 (some (.int))) rm_Mo_lowest [.long (jv (((a : Nat) : Int))), .long (jv (((b : Nat) : Int))), .int (iv (part))] f (fun z f' => f' = f ∧ z = (((if part = 0 then a else b) / Nat.gcd a b : Nat) : Int)) := by
  intro l f
  refine mI_of (rt := .int) (by decide) (Nat.le_of_ble_eq_true rfl) (fun X hX hret => ?_)
  show vV G X 0 0 0 [(0, .long (jv (((a : Nat) : Int)))), (2, .long (jv (((b : Nat) : Int)))), (4, .int (iv (part)))] [] f
  have hg : 0 < Nat.gcd a b := Nat.gcd_pos_of_pos_right a h0
  have hg2 : Nat.gcd a b ≤ b := Nat.gcd_le_right a h0
  have q1 := Nat.div_le_self a (Nat.gcd a b)
  have q2 := Nat.div_le_self b (Nat.gcd a b)
  refine v_lload_n hX d_Mo_lowest_0 0 rfl ?_
  refine v_lload_n hX d_Mo_lowest_1 1 rfl ?_
  refine g_callSL (As := [.long (jv (((a : Nat) : Int))), .long (jv (((b : Nat) : Int)))]) (st := []) hX (k0_Mo_common a b ha hb) cl_Mo_179 d_Mo_lowest_2 rfl ⟨by decide, by decide⟩ ⟨by decide, by decide⟩ (Nat.le_of_ble_eq_true rfl) (fun z1 hz2 hp3 => ?_)
  subst hp3
  refine v_lstore (lv' := [(5, .long (jv ((((Nat.gcd a b) : Nat) : Int)))), (0, .long (jv (((a : Nat) : Int)))), (2, .long (jv (((b : Nat) : Int)))), (4, .int (iv (part)))]) hX d_Mo_lowest_5 (by decide) rfl ?_
  refine v_iload hX d_Mo_lowest_7 3 rfl ?_
  refine v_if_ne (tgt := 19) hX d_Mo_lowest_9 (by decide) (by first | exact ir_n (Nat.lt_of_le_of_lt q1 ha) | exact ir_n (Nat.lt_of_le_of_lt q2 hb) | (unfold ir; omega)) (fun c9_1 => ?_) (fun c9_1 => ?_)
  · refine v_lload_n hX d_Mo_lowest_19 2 rfl ?_
    refine v_lload hX d_Mo_lowest_20 0 rfl ?_
    refine v_ldiv (z := (((b / (Nat.gcd a b)) : Nat) : Int)) hX d_Mo_lowest_22 (jv_ne0 (by unfold jr; omega) (by omega)) (jv_div (b) ((Nat.gcd a b)) (by omega) (by omega)) ?_
    refine v_l2i hX d_Mo_lowest_23 (jv_int (by first | exact ir_n (Nat.lt_of_le_of_lt q1 ha) | exact ir_n (Nat.lt_of_le_of_lt q2 hb) | (unfold ir; omega))) ?_
    exact hret _ _ _ _ d_Mo_lowest_24 (by first | exact ir_n (Nat.lt_of_le_of_lt q1 ha) | exact ir_n (Nat.lt_of_le_of_lt q2 hb)) ⟨rfl, by first | rw [if_pos (by omega)] | rw [if_neg (by omega)]⟩ rfl
  · refine v_lload_n hX d_Mo_lowest_12 1 rfl ?_
    refine v_lload hX d_Mo_lowest_13 0 rfl ?_
    refine v_ldiv (z := (((a / (Nat.gcd a b)) : Nat) : Int)) hX d_Mo_lowest_15 (jv_ne0 (by unfold jr; omega) (by omega)) (jv_div (a) ((Nat.gcd a b)) (by omega) (by omega)) ?_
    refine v_goto (tgt := 23) hX d_Mo_lowest_16 (by decide) ?_
    refine v_l2i hX d_Mo_lowest_23 (jv_int (by first | exact ir_n (Nat.lt_of_le_of_lt q1 ha) | exact ir_n (Nat.lt_of_le_of_lt q2 hb) | (unfold ir; omega))) ?_
    exact hret _ _ _ _ d_Mo_lowest_24 (by first | exact ir_n (Nat.lt_of_le_of_lt q1 ha) | exact ir_n (Nat.lt_of_le_of_lt q2 hb)) ⟨rfl, by first | rw [if_pos (by omega)] | rw [if_neg (by omega)]⟩ rfl

set_option maxHeartbeats 1000000 in
set_option maxRecDepth 100000 in
theorem m_Mo_column {G : xG} {f0 : xF} {ad : Nat → Nat} (hj : adOk ad 400) {σ : xF} {n : Nat} {val : Nat → Nat → Int} {cl so : Nat → Nat} {de le wo : Nat} {S : Nat → Int} (hM : pMo G ad σ n val cl so de le wo S) (hD : dTab n val cl so) (c s : Int) (hc : ir c) (hs : ir s) : ∀ l, gI l G f0 ad 400 y_Mo_column (.code y_Mo_column c_Mo_column 4 (some (.int))) rm_Mo_column [.ref (ad 358), .int (iv (c)), .int (iv (s))] σ (fun z σ' => (¬ (0 ≤ c ∧ c < 4) ∧ z = -1 ∧ σ' = σ) ∨ ((0 ≤ c ∧ c < 4) ∧ ¬ (s = 0 ∨ s = 1) ∧ z = -2 ∧ σ' = σ) ∨ ((0 ≤ c ∧ c < 4) ∧ (s = 0 ∨ s = 1) ∧ 0 < n ∧ z = -3 ∧ σ' = σ) ∨ ((0 ≤ c ∧ c < 4) ∧ (s = 0 ∨ s = 1) ∧ n = 0 ∧ pMo G ad σ' n val cl (va_up so c.toNat s.toNat) de le wo S ∧ (∀ i, i ≠ 359 → σ' i = σ i) ∧ z = ((so c.toNat : Nat) : Int))) := by
  intro l
  refine mI_of (rt := .int) (by decide) (Nat.le_of_ble_eq_true rfl) (fun X hX hret => ?_)
  show vV G X 0 0 0 [(0, .ref (ad 358)), (1, .int (iv (c))), (2, .int (iv (s)))] [] (ov f0 ad 400 σ)
  obtain ⟨m0, ⟨sf, m1, m1e⟩, ⟨vf, m2, m2e⟩, ⟨cf, m3, m3e⟩⟩ := id hM
  obtain ⟨d1, d2, d3, d4⟩ := id hD
  refine v_iload_n hX d_Mo_column_0 1 rfl ?_
  refine v_if_lt (tgt := 9) hX d_Mo_column_1 (by decide) (by first | assumption | (unfold ir at *; omega)) (fun c1_1 => ?_) (fun c1_1 => ?_)
  · refine v_iconst hX (-1) d_Mo_column_9 ?_
    exact hret _ _ _ _ d_Mo_column_10 (by unfold ir; omega) ⟨_, rfl, Or.inl ⟨by omega, rfl, rfl⟩⟩ rfl
  · refine v_iload_n hX d_Mo_column_4 1 rfl ?_
    refine v_iconst hX (3) d_Mo_column_5 ?_
    refine v_icmp_le (tgt := 11) hX d_Mo_column_6 (by decide) (by first | assumption | (unfold ir at *; omega)) (by first | assumption | (unfold ir at *; omega)) (fun c6_2 => ?_) (fun c6_2 => ?_)
    · refine v_iload_n hX d_Mo_column_11 2 rfl ?_
      refine v_if_lt (tgt := 20) hX d_Mo_column_12 (by decide) (by first | assumption | (unfold ir at *; omega)) (fun c12_3 => ?_) (fun c12_3 => ?_)
      · refine v_bipush hX (-2) d_Mo_column_20 rfl ?_
        exact hret _ _ _ _ d_Mo_column_22 (by unfold ir; omega) ⟨_, rfl, Or.inr (Or.inl ⟨by omega, by omega, rfl, rfl⟩)⟩ rfl
      · refine v_iload_n hX d_Mo_column_15 2 rfl ?_
        refine v_iconst hX (1) d_Mo_column_16 ?_
        refine v_icmp_le (tgt := 23) hX d_Mo_column_17 (by decide) (by first | assumption | (unfold ir at *; omega)) (by first | assumption | (unfold ir at *; omega)) (fun c17_4 => ?_) (fun c17_4 => ?_)
        · refine v_aload_n hX d_Mo_column_23 0 rfl ?_
          refine g_get (i := 358) hX hj fl_Mo_69 d_Mo_column_24 (by omega) m0 rfl ?_
          refine v_if_le (tgt := 33) hX d_Mo_column_27 (by decide) (by first | assumption | (unfold ir at *; omega)) (fun c27_5 => ?_) (fun c27_5 => ?_)
          · refine v_aload_n hX d_Mo_column_33 0 rfl ?_
            refine g_get (i := 358) hX hj fl_Mo_7 d_Mo_column_34 (by omega) m0 rfl ?_
            refine v_iload_n hX d_Mo_column_37 1 rfl ?_
            refine g_iald (i := 359) hX hj d_Mo_column_38 (by omega) m1 (by decide) (Int.toNat (c)) (by omega) (by omega) ?_
            refine v_top (x' := iv ((((so (Int.toNat (c))) : Nat) : Int))) (congrArg iv (m1e (Int.toNat (c)) (by omega))) ?_
            refine v_istore_n (lv' := [(3, .int (iv ((((so (Int.toNat (c))) : Nat) : Int)))), (0, .ref (ad 358)), (1, .int (iv (c))), (2, .int (iv (s)))]) hX d_Mo_column_39 rfl (by decide) rfl ?_
            refine v_aload_n hX d_Mo_column_40 1 rfl ?_
            refine g_get (i := 358) hX hj fl_Mo_7 d_Mo_column_41 (by omega) m0 rfl ?_
            refine v_iload_n hX d_Mo_column_44 2 rfl ?_
            refine v_iload_n hX d_Mo_column_45 3 rfl ?_
            refine g_iast (i := 359) hX hj d_Mo_column_46 (by omega) m1 (by decide) (Int.toNat (c)) (by omega) (by omega) ?_
            obtain ⟨σ1, hs2⟩ : ∃ s9, s9 = va_up σ (359) (eJ G 4 (va_up sf (Int.toNat (c)) (s))) := ⟨_, rfl⟩
            rw [← hs2]
            have hf3 := (show σ1 (358) = σ (358) by rw [hs2, va_up_ne _ _ (by omega)]).trans m0
            have hf5 := (show σ1 (360) = σ (360) by rw [hs2, va_up_ne _ _ (by omega)]).trans m2
            have hf6 := (show σ1 (361) = σ (361) by rw [hs2, va_up_ne _ _ (by omega)]).trans m3
            have hf7 : σ1 (359) = (eJ G 4 (va_up sf (Int.toNat (c)) (s))) := by rw [hs2, va_up_self]
            refine v_iload_n hX d_Mo_column_47 0 rfl ?_
            exact hret _ _ _ _ d_Mo_column_48 (by have := d4 c.toNat; unfold ir; omega) ⟨_, rfl, Or.inr (Or.inr (Or.inr ⟨by omega, by omega, by omega, hM.sort m1 m1e (by rw [hs2, show ((s.toNat : Nat) : Int) = s by omega]), (fun i i1 => by rw [hs2, va_up_ne _ _ i1]), rfl⟩))⟩ rfl
          · refine v_bipush hX (-3) d_Mo_column_30 rfl ?_
            exact hret _ _ _ _ d_Mo_column_32 (by unfold ir; omega) ⟨_, rfl, Or.inr (Or.inr (Or.inl ⟨by omega, by omega, by omega, rfl, rfl⟩))⟩ rfl
        · refine v_bipush hX (-2) d_Mo_column_20 rfl ?_
          exact hret _ _ _ _ d_Mo_column_22 (by unfold ir; omega) ⟨_, rfl, Or.inr (Or.inl ⟨by omega, by omega, rfl, rfl⟩)⟩ rfl
    · refine v_iconst hX (-1) d_Mo_column_9 ?_
      exact hret _ _ _ _ d_Mo_column_10 (by unfold ir; omega) ⟨_, rfl, Or.inl ⟨by omega, rfl, rfl⟩⟩ rfl

set_option maxHeartbeats 1000000 in
set_option maxRecDepth 100000 in
theorem m_Mo_clear {G : xG} {f0 : xF} {ad : Nat → Nat} (hj : adOk ad 400) {σ : xF} {n : Nat} {val : Nat → Nat → Int} {cl so : Nat → Nat} {de le wo : Nat} {S : Nat → Int} (hM : pMo G ad σ n val cl so de le wo S) (hD : dTab n val cl so) : ∀ l, gI l G f0 ad 400 y_Mo_clear (.code y_Mo_clear c_Mo_clear 2 (some (.int))) rm_Mo_clear [.ref (ad 358)] σ (fun z σ' => pMo G ad σ' 0 val cl so de le wo (va_up S 7 0) ∧ (∀ i, i ≠ 358 → σ' i = σ i) ∧ z = ((n : Nat) : Int)) := by
  intro l
  refine mI_of (rt := .int) (by decide) (Nat.le_of_ble_eq_true rfl) (fun X hX hret => ?_)
  show vV G X 0 0 0 [(0, .ref (ad 358))] [] (ov f0 ad 400 σ)
  obtain ⟨m0, ⟨sf, m1, m1e⟩, ⟨vf, m2, m2e⟩, ⟨cf, m3, m3e⟩⟩ := id hM
  obtain ⟨d1, d2, d3, d4⟩ := id hD
  refine v_aload_n hX d_Mo_clear_0 0 rfl ?_
  refine g_get (i := 358) hX hj fl_Mo_69 d_Mo_clear_1 (by omega) m0 rfl ?_
  refine v_istore_n (lv' := [(1, .int (iv (((n : Nat) : Int)))), (0, .ref (ad 358))]) hX d_Mo_clear_4 rfl (by decide) rfl ?_
  refine v_aload_n hX d_Mo_clear_5 1 rfl ?_
  refine v_iconst hX (0) d_Mo_clear_6 ?_
  refine g_put (i := 358) (fs' := [.ref (ad 359), .int (iv (0)), .ref (ad 360), .ref (ad 361), .int (iv (((de : Nat) : Int))), .int (iv (((le : Nat) : Int))), .int (iv (((wo : Nat) : Int))), .int (iv ((S 7))), .long (jv ((S 8))), .long (jv ((S 9))), .int (iv ((S 10))), .int (iv ((S 11))), .int (iv ((S 12))), .long (jv ((S 13))), .long (jv ((S 14))), .int (iv ((S 15))), .ref (ad 362), .ref (ad 363), .ref (ad 364), .ref (ad 365), .ref (ad 366), .ref (ad 367), .ref (ad 368), .ref (ad 369), .ref (ad 370), .ref (ad 371), .int (iv ((S 26))), .ref (ad 372), .ref (ad 373), .ref (ad 374), .ref (ad 375), .int (iv ((S 31))), .int (iv ((S 32)))]) hX hj pf_Mo_69 d_Mo_clear_7 (by omega) m0 rfl rfl (Nat.le_of_ble_eq_true rfl) rfl ?_
  obtain ⟨σ1, hs2⟩ : ∃ s9, s9 = va_up σ (358) (eO 9 [.ref (ad 359), .int (iv (0)), .ref (ad 360), .ref (ad 361), .int (iv (((de : Nat) : Int))), .int (iv (((le : Nat) : Int))), .int (iv (((wo : Nat) : Int))), .int (iv ((S 7))), .long (jv ((S 8))), .long (jv ((S 9))), .int (iv ((S 10))), .int (iv ((S 11))), .int (iv ((S 12))), .long (jv ((S 13))), .long (jv ((S 14))), .int (iv ((S 15))), .ref (ad 362), .ref (ad 363), .ref (ad 364), .ref (ad 365), .ref (ad 366), .ref (ad 367), .ref (ad 368), .ref (ad 369), .ref (ad 370), .ref (ad 371), .int (iv ((S 26))), .ref (ad 372), .ref (ad 373), .ref (ad 374), .ref (ad 375), .int (iv ((S 31))), .int (iv ((S 32)))]) := ⟨_, rfl⟩
  rw [← hs2]
  have hf4 := (show σ1 (359) = σ (359) by rw [hs2, va_up_ne _ _ (by omega)]).trans m1
  have hf5 := (show σ1 (360) = σ (360) by rw [hs2, va_up_ne _ _ (by omega)]).trans m2
  have hf6 := (show σ1 (361) = σ (361) by rw [hs2, va_up_ne _ _ (by omega)]).trans m3
  have hf7 : σ1 (358) = (eO 9 [.ref (ad 359), .int (iv (0)), .ref (ad 360), .ref (ad 361), .int (iv (((de : Nat) : Int))), .int (iv (((le : Nat) : Int))), .int (iv (((wo : Nat) : Int))), .int (iv ((S 7))), .long (jv ((S 8))), .long (jv ((S 9))), .int (iv ((S 10))), .int (iv ((S 11))), .int (iv ((S 12))), .long (jv ((S 13))), .long (jv ((S 14))), .int (iv ((S 15))), .ref (ad 362), .ref (ad 363), .ref (ad 364), .ref (ad 365), .ref (ad 366), .ref (ad 367), .ref (ad 368), .ref (ad 369), .ref (ad 370), .ref (ad 371), .int (iv ((S 26))), .ref (ad 372), .ref (ad 373), .ref (ad 374), .ref (ad 375), .int (iv ((S 31))), .int (iv ((S 32)))]) := by rw [hs2, va_up_self]
  refine v_aload_n hX d_Mo_clear_10 1 rfl ?_
  refine v_iconst hX (0) d_Mo_clear_11 ?_
  refine g_put (i := 358) (fs' := [.ref (ad 359), .int (iv (0)), .ref (ad 360), .ref (ad 361), .int (iv (((de : Nat) : Int))), .int (iv (((le : Nat) : Int))), .int (iv (((wo : Nat) : Int))), .int (iv (0)), .long (jv ((S 8))), .long (jv ((S 9))), .int (iv ((S 10))), .int (iv ((S 11))), .int (iv ((S 12))), .long (jv ((S 13))), .long (jv ((S 14))), .int (iv ((S 15))), .ref (ad 362), .ref (ad 363), .ref (ad 364), .ref (ad 365), .ref (ad 366), .ref (ad 367), .ref (ad 368), .ref (ad 369), .ref (ad 370), .ref (ad 371), .int (iv ((S 26))), .ref (ad 372), .ref (ad 373), .ref (ad 374), .ref (ad 375), .int (iv ((S 31))), .int (iv ((S 32)))]) hX hj pf_Mo_76 d_Mo_clear_12 (by omega) hf7 rfl rfl (Nat.le_of_ble_eq_true rfl) rfl ?_
  obtain ⟨σ8, hs9⟩ : ∃ s9, s9 = va_up σ1 (358) (eO 9 [.ref (ad 359), .int (iv (0)), .ref (ad 360), .ref (ad 361), .int (iv (((de : Nat) : Int))), .int (iv (((le : Nat) : Int))), .int (iv (((wo : Nat) : Int))), .int (iv (0)), .long (jv ((S 8))), .long (jv ((S 9))), .int (iv ((S 10))), .int (iv ((S 11))), .int (iv ((S 12))), .long (jv ((S 13))), .long (jv ((S 14))), .int (iv ((S 15))), .ref (ad 362), .ref (ad 363), .ref (ad 364), .ref (ad 365), .ref (ad 366), .ref (ad 367), .ref (ad 368), .ref (ad 369), .ref (ad 370), .ref (ad 371), .int (iv ((S 26))), .ref (ad 372), .ref (ad 373), .ref (ad 374), .ref (ad 375), .int (iv ((S 31))), .int (iv ((S 32)))]) := ⟨_, rfl⟩
  rw [← hs9]
  have hf10 := (show σ8 (359) = σ1 (359) by rw [hs9, va_up_ne _ _ (by omega)]).trans hf4
  have hf11 := (show σ8 (360) = σ1 (360) by rw [hs9, va_up_ne _ _ (by omega)]).trans hf5
  have hf12 := (show σ8 (361) = σ1 (361) by rw [hs9, va_up_ne _ _ (by omega)]).trans hf6
  have hf14 : σ8 (358) = (eO 9 [.ref (ad 359), .int (iv (0)), .ref (ad 360), .ref (ad 361), .int (iv (((de : Nat) : Int))), .int (iv (((le : Nat) : Int))), .int (iv (((wo : Nat) : Int))), .int (iv (0)), .long (jv ((S 8))), .long (jv ((S 9))), .int (iv ((S 10))), .int (iv ((S 11))), .int (iv ((S 12))), .long (jv ((S 13))), .long (jv ((S 14))), .int (iv ((S 15))), .ref (ad 362), .ref (ad 363), .ref (ad 364), .ref (ad 365), .ref (ad 366), .ref (ad 367), .ref (ad 368), .ref (ad 369), .ref (ad 370), .ref (ad 371), .int (iv ((S 26))), .ref (ad 372), .ref (ad 373), .ref (ad 374), .ref (ad 375), .int (iv ((S 31))), .int (iv ((S 32)))]) := by rw [hs9, va_up_self]
  refine v_iload_n hX d_Mo_clear_15 0 rfl ?_
  exact hret _ _ _ _ d_Mo_clear_16 (by unfold ir; omega) ⟨_, rfl, hM.none (Nat.zero_le n) (by rw [hs9, hs2, bx_uu]; rfl), (fun i i1 => by rw [hs9, va_up_ne _ _ i1, hs2, va_up_ne _ _ i1]), rfl⟩ rfl

set_option maxHeartbeats 1000000 in
set_option maxRecDepth 100000 in
theorem m_Mo_settings {G : xG} {f0 : xF} {ad : Nat → Nat} (hj : adOk ad 400) {σ : xF} {n : Nat} {val : Nat → Nat → Int} {cl so : Nat → Nat} {de le wo : Nat} {S : Nat → Int} (hM : pMo G ad σ n val cl so de le wo S) (hD : dTab n val cl so) (d e w : Int) (hd : ir d) (he : ir e) (hw : ir w) : ∀ l, gI l G f0 ad 400 y_Mo_settings (.code y_Mo_settings c_Mo_settings 4 (some (.int))) rm_Mo_settings [.ref (ad 358), .int (iv (d)), .int (iv (e)), .int (iv (w))] σ (fun z σ' => ((0 ≤ d ∧ d ≤ 5 ∧ 1 ≤ e ∧ e ≤ 10 ∧ 0 ≤ w ∧ w ≤ 1000) ∧ z = 1 ∧ pMo G ad σ' n val cl so d.toNat e.toNat w.toNat (va_up S 7 0) ∧ (∀ i, i ≠ 358 → σ' i = σ i)) ∨ (¬ (0 ≤ d ∧ d ≤ 5 ∧ 1 ≤ e ∧ e ≤ 10 ∧ 0 ≤ w ∧ w ≤ 1000) ∧ z = -2 ∧ σ' = σ)) := by
  intro l
  refine mI_of (rt := .int) (by decide) (Nat.le_of_ble_eq_true rfl) (fun X hX hret => ?_)
  show vV G X 0 0 0 [(0, .ref (ad 358)), (1, .int (iv (d))), (2, .int (iv (e))), (3, .int (iv (w)))] [] (ov f0 ad 400 σ)
  obtain ⟨m0, ⟨sf, m1, m1e⟩, ⟨vf, m2, m2e⟩, ⟨cf, m3, m3e⟩⟩ := id hM
  obtain ⟨d1, d2, d3, d4⟩ := id hD
  refine v_iload_n hX d_Mo_settings_0 1 rfl ?_
  refine v_if_lt (tgt := 31) hX d_Mo_settings_1 (by decide) (by first | assumption | (unfold ir at *; omega)) (fun c1_1 => ?_) (fun c1_1 => ?_)
  · refine v_bipush hX (-2) d_Mo_settings_31 rfl ?_
    exact hret _ _ _ _ d_Mo_settings_33 (by unfold ir; omega) ⟨_, rfl, Or.inr ⟨by omega, rfl, rfl⟩⟩ rfl
  · refine v_iload_n hX d_Mo_settings_4 1 rfl ?_
    refine v_iconst hX (5) d_Mo_settings_5 ?_
    refine v_icmp_gt (tgt := 31) hX d_Mo_settings_6 (by decide) (by first | assumption | (unfold ir at *; omega)) (by first | assumption | (unfold ir at *; omega)) (fun c6_2 => ?_) (fun c6_2 => ?_)
    · refine v_bipush hX (-2) d_Mo_settings_31 rfl ?_
      exact hret _ _ _ _ d_Mo_settings_33 (by unfold ir; omega) ⟨_, rfl, Or.inr ⟨by omega, rfl, rfl⟩⟩ rfl
    · refine v_iload_n hX d_Mo_settings_9 2 rfl ?_
      refine v_iconst hX (1) d_Mo_settings_10 ?_
      refine v_icmp_lt (tgt := 31) hX d_Mo_settings_11 (by decide) (by first | assumption | (unfold ir at *; omega)) (by first | assumption | (unfold ir at *; omega)) (fun c11_3 => ?_) (fun c11_3 => ?_)
      · refine v_bipush hX (-2) d_Mo_settings_31 rfl ?_
        exact hret _ _ _ _ d_Mo_settings_33 (by unfold ir; omega) ⟨_, rfl, Or.inr ⟨by omega, rfl, rfl⟩⟩ rfl
      · refine v_iload_n hX d_Mo_settings_14 2 rfl ?_
        refine v_bipush hX (10) d_Mo_settings_15 rfl ?_
        refine v_icmp_gt (tgt := 31) hX d_Mo_settings_17 (by decide) (by first | assumption | (unfold ir at *; omega)) (by first | assumption | (unfold ir at *; omega)) (fun c17_4 => ?_) (fun c17_4 => ?_)
        · refine v_bipush hX (-2) d_Mo_settings_31 rfl ?_
          exact hret _ _ _ _ d_Mo_settings_33 (by unfold ir; omega) ⟨_, rfl, Or.inr ⟨by omega, rfl, rfl⟩⟩ rfl
        · refine v_iload_n hX d_Mo_settings_20 3 rfl ?_
          refine v_if_lt (tgt := 31) hX d_Mo_settings_21 (by decide) (by first | assumption | (unfold ir at *; omega)) (fun c21_5 => ?_) (fun c21_5 => ?_)
          · refine v_bipush hX (-2) d_Mo_settings_31 rfl ?_
            exact hret _ _ _ _ d_Mo_settings_33 (by unfold ir; omega) ⟨_, rfl, Or.inr ⟨by omega, rfl, rfl⟩⟩ rfl
          · refine v_iload_n hX d_Mo_settings_24 3 rfl ?_
            refine v_sipush hX (1000) d_Mo_settings_25 rfl ?_
            refine v_icmp_le (tgt := 34) hX d_Mo_settings_28 (by decide) (by first | assumption | (unfold ir at *; omega)) (by first | assumption | (unfold ir at *; omega)) (fun c28_6 => ?_) (fun c28_6 => ?_)
            · refine v_aload_n hX d_Mo_settings_34 0 rfl ?_
              refine v_iload_n hX d_Mo_settings_35 1 rfl ?_
              refine g_put (i := 358) (fs' := [.ref (ad 359), .int (iv (((n : Nat) : Int))), .ref (ad 360), .ref (ad 361), .int (iv (d)), .int (iv (((le : Nat) : Int))), .int (iv (((wo : Nat) : Int))), .int (iv ((S 7))), .long (jv ((S 8))), .long (jv ((S 9))), .int (iv ((S 10))), .int (iv ((S 11))), .int (iv ((S 12))), .long (jv ((S 13))), .long (jv ((S 14))), .int (iv ((S 15))), .ref (ad 362), .ref (ad 363), .ref (ad 364), .ref (ad 365), .ref (ad 366), .ref (ad 367), .ref (ad 368), .ref (ad 369), .ref (ad 370), .ref (ad 371), .int (iv ((S 26))), .ref (ad 372), .ref (ad 373), .ref (ad 374), .ref (ad 375), .int (iv ((S 31))), .int (iv ((S 32)))]) hX hj pf_Mo_19 d_Mo_settings_36 (by omega) m0 rfl rfl (Nat.le_of_ble_eq_true rfl) rfl ?_
              obtain ⟨σ1, hs2⟩ : ∃ s9, s9 = va_up σ (358) (eO 9 [.ref (ad 359), .int (iv (((n : Nat) : Int))), .ref (ad 360), .ref (ad 361), .int (iv (d)), .int (iv (((le : Nat) : Int))), .int (iv (((wo : Nat) : Int))), .int (iv ((S 7))), .long (jv ((S 8))), .long (jv ((S 9))), .int (iv ((S 10))), .int (iv ((S 11))), .int (iv ((S 12))), .long (jv ((S 13))), .long (jv ((S 14))), .int (iv ((S 15))), .ref (ad 362), .ref (ad 363), .ref (ad 364), .ref (ad 365), .ref (ad 366), .ref (ad 367), .ref (ad 368), .ref (ad 369), .ref (ad 370), .ref (ad 371), .int (iv ((S 26))), .ref (ad 372), .ref (ad 373), .ref (ad 374), .ref (ad 375), .int (iv ((S 31))), .int (iv ((S 32)))]) := ⟨_, rfl⟩
              rw [← hs2]
              have hf4 := (show σ1 (359) = σ (359) by rw [hs2, va_up_ne _ _ (by omega)]).trans m1
              have hf5 := (show σ1 (360) = σ (360) by rw [hs2, va_up_ne _ _ (by omega)]).trans m2
              have hf6 := (show σ1 (361) = σ (361) by rw [hs2, va_up_ne _ _ (by omega)]).trans m3
              have hf7 : σ1 (358) = (eO 9 [.ref (ad 359), .int (iv (((n : Nat) : Int))), .ref (ad 360), .ref (ad 361), .int (iv (d)), .int (iv (((le : Nat) : Int))), .int (iv (((wo : Nat) : Int))), .int (iv ((S 7))), .long (jv ((S 8))), .long (jv ((S 9))), .int (iv ((S 10))), .int (iv ((S 11))), .int (iv ((S 12))), .long (jv ((S 13))), .long (jv ((S 14))), .int (iv ((S 15))), .ref (ad 362), .ref (ad 363), .ref (ad 364), .ref (ad 365), .ref (ad 366), .ref (ad 367), .ref (ad 368), .ref (ad 369), .ref (ad 370), .ref (ad 371), .int (iv ((S 26))), .ref (ad 372), .ref (ad 373), .ref (ad 374), .ref (ad 375), .int (iv ((S 31))), .int (iv ((S 32)))]) := by rw [hs2, va_up_self]
              refine v_aload_n hX d_Mo_settings_39 0 rfl ?_
              refine v_iload_n hX d_Mo_settings_40 2 rfl ?_
              refine g_put (i := 358) (fs' := [.ref (ad 359), .int (iv (((n : Nat) : Int))), .ref (ad 360), .ref (ad 361), .int (iv (d)), .int (iv (e)), .int (iv (((wo : Nat) : Int))), .int (iv ((S 7))), .long (jv ((S 8))), .long (jv ((S 9))), .int (iv ((S 10))), .int (iv ((S 11))), .int (iv ((S 12))), .long (jv ((S 13))), .long (jv ((S 14))), .int (iv ((S 15))), .ref (ad 362), .ref (ad 363), .ref (ad 364), .ref (ad 365), .ref (ad 366), .ref (ad 367), .ref (ad 368), .ref (ad 369), .ref (ad 370), .ref (ad 371), .int (iv ((S 26))), .ref (ad 372), .ref (ad 373), .ref (ad 374), .ref (ad 375), .int (iv ((S 31))), .int (iv ((S 32)))]) hX hj pf_Mo_23 d_Mo_settings_41 (by omega) hf7 rfl rfl (Nat.le_of_ble_eq_true rfl) rfl ?_
              obtain ⟨σ8, hs9⟩ : ∃ s9, s9 = va_up σ1 (358) (eO 9 [.ref (ad 359), .int (iv (((n : Nat) : Int))), .ref (ad 360), .ref (ad 361), .int (iv (d)), .int (iv (e)), .int (iv (((wo : Nat) : Int))), .int (iv ((S 7))), .long (jv ((S 8))), .long (jv ((S 9))), .int (iv ((S 10))), .int (iv ((S 11))), .int (iv ((S 12))), .long (jv ((S 13))), .long (jv ((S 14))), .int (iv ((S 15))), .ref (ad 362), .ref (ad 363), .ref (ad 364), .ref (ad 365), .ref (ad 366), .ref (ad 367), .ref (ad 368), .ref (ad 369), .ref (ad 370), .ref (ad 371), .int (iv ((S 26))), .ref (ad 372), .ref (ad 373), .ref (ad 374), .ref (ad 375), .int (iv ((S 31))), .int (iv ((S 32)))]) := ⟨_, rfl⟩
              rw [← hs9]
              have hf10 := (show σ8 (359) = σ1 (359) by rw [hs9, va_up_ne _ _ (by omega)]).trans hf4
              have hf11 := (show σ8 (360) = σ1 (360) by rw [hs9, va_up_ne _ _ (by omega)]).trans hf5
              have hf12 := (show σ8 (361) = σ1 (361) by rw [hs9, va_up_ne _ _ (by omega)]).trans hf6
              have hf14 : σ8 (358) = (eO 9 [.ref (ad 359), .int (iv (((n : Nat) : Int))), .ref (ad 360), .ref (ad 361), .int (iv (d)), .int (iv (e)), .int (iv (((wo : Nat) : Int))), .int (iv ((S 7))), .long (jv ((S 8))), .long (jv ((S 9))), .int (iv ((S 10))), .int (iv ((S 11))), .int (iv ((S 12))), .long (jv ((S 13))), .long (jv ((S 14))), .int (iv ((S 15))), .ref (ad 362), .ref (ad 363), .ref (ad 364), .ref (ad 365), .ref (ad 366), .ref (ad 367), .ref (ad 368), .ref (ad 369), .ref (ad 370), .ref (ad 371), .int (iv ((S 26))), .ref (ad 372), .ref (ad 373), .ref (ad 374), .ref (ad 375), .int (iv ((S 31))), .int (iv ((S 32)))]) := by rw [hs9, va_up_self]
              refine v_aload_n hX d_Mo_settings_44 0 rfl ?_
              refine v_iload_n hX d_Mo_settings_45 3 rfl ?_
              refine g_put (i := 358) (fs' := [.ref (ad 359), .int (iv (((n : Nat) : Int))), .ref (ad 360), .ref (ad 361), .int (iv (d)), .int (iv (e)), .int (iv (w)), .int (iv ((S 7))), .long (jv ((S 8))), .long (jv ((S 9))), .int (iv ((S 10))), .int (iv ((S 11))), .int (iv ((S 12))), .long (jv ((S 13))), .long (jv ((S 14))), .int (iv ((S 15))), .ref (ad 362), .ref (ad 363), .ref (ad 364), .ref (ad 365), .ref (ad 366), .ref (ad 367), .ref (ad 368), .ref (ad 369), .ref (ad 370), .ref (ad 371), .int (iv ((S 26))), .ref (ad 372), .ref (ad 373), .ref (ad 374), .ref (ad 375), .int (iv ((S 31))), .int (iv ((S 32)))]) hX hj pf_Mo_80 d_Mo_settings_46 (by omega) hf14 rfl rfl (Nat.le_of_ble_eq_true rfl) rfl ?_
              obtain ⟨σ15, hs16⟩ : ∃ s9, s9 = va_up σ8 (358) (eO 9 [.ref (ad 359), .int (iv (((n : Nat) : Int))), .ref (ad 360), .ref (ad 361), .int (iv (d)), .int (iv (e)), .int (iv (w)), .int (iv ((S 7))), .long (jv ((S 8))), .long (jv ((S 9))), .int (iv ((S 10))), .int (iv ((S 11))), .int (iv ((S 12))), .long (jv ((S 13))), .long (jv ((S 14))), .int (iv ((S 15))), .ref (ad 362), .ref (ad 363), .ref (ad 364), .ref (ad 365), .ref (ad 366), .ref (ad 367), .ref (ad 368), .ref (ad 369), .ref (ad 370), .ref (ad 371), .int (iv ((S 26))), .ref (ad 372), .ref (ad 373), .ref (ad 374), .ref (ad 375), .int (iv ((S 31))), .int (iv ((S 32)))]) := ⟨_, rfl⟩
              rw [← hs16]
              have hf17 := (show σ15 (359) = σ8 (359) by rw [hs16, va_up_ne _ _ (by omega)]).trans hf10
              have hf18 := (show σ15 (360) = σ8 (360) by rw [hs16, va_up_ne _ _ (by omega)]).trans hf11
              have hf19 := (show σ15 (361) = σ8 (361) by rw [hs16, va_up_ne _ _ (by omega)]).trans hf12
              have hf21 : σ15 (358) = (eO 9 [.ref (ad 359), .int (iv (((n : Nat) : Int))), .ref (ad 360), .ref (ad 361), .int (iv (d)), .int (iv (e)), .int (iv (w)), .int (iv ((S 7))), .long (jv ((S 8))), .long (jv ((S 9))), .int (iv ((S 10))), .int (iv ((S 11))), .int (iv ((S 12))), .long (jv ((S 13))), .long (jv ((S 14))), .int (iv ((S 15))), .ref (ad 362), .ref (ad 363), .ref (ad 364), .ref (ad 365), .ref (ad 366), .ref (ad 367), .ref (ad 368), .ref (ad 369), .ref (ad 370), .ref (ad 371), .int (iv ((S 26))), .ref (ad 372), .ref (ad 373), .ref (ad 374), .ref (ad 375), .int (iv ((S 31))), .int (iv ((S 32)))]) := by rw [hs16, va_up_self]
              refine v_aload_n hX d_Mo_settings_49 0 rfl ?_
              refine v_iconst hX (0) d_Mo_settings_50 ?_
              refine g_put (i := 358) (fs' := [.ref (ad 359), .int (iv (((n : Nat) : Int))), .ref (ad 360), .ref (ad 361), .int (iv (d)), .int (iv (e)), .int (iv (w)), .int (iv (0)), .long (jv ((S 8))), .long (jv ((S 9))), .int (iv ((S 10))), .int (iv ((S 11))), .int (iv ((S 12))), .long (jv ((S 13))), .long (jv ((S 14))), .int (iv ((S 15))), .ref (ad 362), .ref (ad 363), .ref (ad 364), .ref (ad 365), .ref (ad 366), .ref (ad 367), .ref (ad 368), .ref (ad 369), .ref (ad 370), .ref (ad 371), .int (iv ((S 26))), .ref (ad 372), .ref (ad 373), .ref (ad 374), .ref (ad 375), .int (iv ((S 31))), .int (iv ((S 32)))]) hX hj pf_Mo_76 d_Mo_settings_51 (by omega) hf21 rfl rfl (Nat.le_of_ble_eq_true rfl) rfl ?_
              obtain ⟨σ22, hs23⟩ : ∃ s9, s9 = va_up σ15 (358) (eO 9 [.ref (ad 359), .int (iv (((n : Nat) : Int))), .ref (ad 360), .ref (ad 361), .int (iv (d)), .int (iv (e)), .int (iv (w)), .int (iv (0)), .long (jv ((S 8))), .long (jv ((S 9))), .int (iv ((S 10))), .int (iv ((S 11))), .int (iv ((S 12))), .long (jv ((S 13))), .long (jv ((S 14))), .int (iv ((S 15))), .ref (ad 362), .ref (ad 363), .ref (ad 364), .ref (ad 365), .ref (ad 366), .ref (ad 367), .ref (ad 368), .ref (ad 369), .ref (ad 370), .ref (ad 371), .int (iv ((S 26))), .ref (ad 372), .ref (ad 373), .ref (ad 374), .ref (ad 375), .int (iv ((S 31))), .int (iv ((S 32)))]) := ⟨_, rfl⟩
              rw [← hs23]
              have hf24 := (show σ22 (359) = σ15 (359) by rw [hs23, va_up_ne _ _ (by omega)]).trans hf17
              have hf25 := (show σ22 (360) = σ15 (360) by rw [hs23, va_up_ne _ _ (by omega)]).trans hf18
              have hf26 := (show σ22 (361) = σ15 (361) by rw [hs23, va_up_ne _ _ (by omega)]).trans hf19
              have hf28 : σ22 (358) = (eO 9 [.ref (ad 359), .int (iv (((n : Nat) : Int))), .ref (ad 360), .ref (ad 361), .int (iv (d)), .int (iv (e)), .int (iv (w)), .int (iv (0)), .long (jv ((S 8))), .long (jv ((S 9))), .int (iv ((S 10))), .int (iv ((S 11))), .int (iv ((S 12))), .long (jv ((S 13))), .long (jv ((S 14))), .int (iv ((S 15))), .ref (ad 362), .ref (ad 363), .ref (ad 364), .ref (ad 365), .ref (ad 366), .ref (ad 367), .ref (ad 368), .ref (ad 369), .ref (ad 370), .ref (ad 371), .int (iv ((S 26))), .ref (ad 372), .ref (ad 373), .ref (ad 374), .ref (ad 375), .int (iv ((S 31))), .int (iv ((S 32)))]) := by rw [hs23, va_up_self]
              refine v_iconst hX (1) d_Mo_settings_54 ?_
              exact hret _ _ _ _ d_Mo_settings_55 (by unfold ir; omega) ⟨_, rfl, Or.inl ⟨by omega, rfl, hM.none (Nat.le_refl n) (by rw [hs23, hs16, hs9, hs2, bx_uu, bx_uu, bx_uu]; unfold moE; rw [show ((d.toNat : Nat) : Int) = d by omega, show ((e.toNat : Nat) : Int) = e by omega, show ((w.toNat : Nat) : Int) = w by omega]; rfl), (fun i i1 => by rw [hs23, va_up_ne _ _ i1, hs16, va_up_ne _ _ i1, hs9, va_up_ne _ _ i1, hs2, va_up_ne _ _ i1])⟩⟩ rfl
            · refine v_bipush hX (-2) d_Mo_settings_31 rfl ?_
              exact hret _ _ _ _ d_Mo_settings_33 (by unfold ir; omega) ⟨_, rfl, Or.inr ⟨by omega, rfl, rfl⟩⟩ rfl

theorem tks_4 {so : Nat → Nat} {a b c d : Int} (h0 : tk (so 0) a = true) (h1 : tk (so 1) b = true) (h2 : tk (so 2) c = true) (h3 : tk (so 3) d = true) : tks so (a4 a b c d) = true := tks_iff.mpr (fun q hq => by
  match q, hq with
  | 0, _ => exact h0
  | 1, _ => exact h1
  | 2, _ => exact h2
  | 3, _ => exact h3)
set_option maxHeartbeats 1000000 in
set_option maxRecDepth 100000 in
theorem m_Mo_row {G : xG} {f0 : xF} {ad : Nat → Nat} (hj : adOk ad 400) {σ : xF} {n : Nat} {val : Nat → Nat → Int} {cl so : Nat → Nat} {de le wo : Nat} {S : Nat → Int} (hM : pMo G ad σ n val cl so de le wo S) (hD : dTab n val cl so) (a b c d k : Int) (ha : ir a) (hb : ir b) (hc : ir c) (hd : ir d) (hk : ir k) : ∀ l, gI l G f0 ad 400 y_Mo_row (.code y_Mo_row c_Mo_row 6 (some (.int))) rm_Mo_row [.ref (ad 358), .int (iv (a)), .int (iv (b)), .int (iv (c)), .int (iv (d)), .int (iv (k))] σ (fun z σ' => (¬ (tks so (a4 a b c d) = true ∧ 0 ≤ k ∧ k < 3) ∧ z = -2 ∧ σ' = σ) ∨ ((tks so (a4 a b c d) = true ∧ 0 ≤ k ∧ k < 3) ∧ 24 ≤ n ∧ z = -4 ∧ σ' = σ) ∨ ((tks so (a4 a b c d) = true ∧ 0 ≤ k ∧ k < 3) ∧ n < 24 ∧ pMo G ad σ' (n + 1) (va_up val n (adV (a4 a b c d) (val n) 4)) (va_up cl n k.toNat) so de le wo (va_up S 7 0) ∧ (∀ i, i ≠ 358 → i ≠ 360 → i ≠ 361 → σ' i = σ i) ∧ z = ((n : Nat) : Int))) := by
  intro l
  refine mI_of (rt := .int) (by decide) (Nat.le_of_ble_eq_true rfl) (fun X hX hret => ?_)
  show vV G X 0 0 0 [(0, .ref (ad 358)), (1, .int (iv (a))), (2, .int (iv (b))), (3, .int (iv (c))), (4, .int (iv (d))), (5, .int (iv (k)))] [] (ov f0 ad 400 σ)
  obtain ⟨m0, ⟨sf, m1, m1e⟩, ⟨vf, m2, m2e⟩, ⟨cf, m3, m3e⟩⟩ := id hM
  obtain ⟨d1, d2, d3, d4⟩ := id hD
  refine v_aload_n hX d_Mo_row_0 0 rfl ?_
  refine v_iconst hX (0) d_Mo_row_1 ?_
  refine v_iload_n hX d_Mo_row_2 1 rfl ?_
  refine g_callVI (As := [.int (iv (0)), .int (iv (a))]) (st := []) hX hj (i := 358) (by omega) m0 (m_Mo_isValue hj hM hD 0 (by decide) a (by assumption)) cl_Mo_72 d_Mo_row_3 rfl ⟨by decide, by decide⟩ ⟨by decide, by decide⟩ (Nat.le_of_ble_eq_true rfl) (fun z1 σ2 hz3 hp4 => ?_)
  obtain ⟨he5, hv6⟩ := hp4
  rw [he5]
  by_cases qz1 : tk (so 0) a = true
  · have z1e : z1 = 1 := hv6.trans (if_pos qz1)
    subst z1e
    refine v_if_eq (tgt := 48) hX d_Mo_row_6 (by decide) (by first | assumption | (unfold ir at *; omega)) (fun c9 => absurd c9 (by omega)) (fun c9 => ?_)
    refine v_aload_n hX d_Mo_row_9 0 rfl ?_
    refine v_iconst hX (1) d_Mo_row_10 ?_
    refine v_iload_n hX d_Mo_row_11 2 rfl ?_
    refine g_callVI (As := [.int (iv (1)), .int (iv (b))]) (st := []) hX hj (i := 358) (by omega) m0 (m_Mo_isValue hj hM hD 1 (by decide) b (by assumption)) cl_Mo_72 d_Mo_row_12 rfl ⟨by decide, by decide⟩ ⟨by decide, by decide⟩ (Nat.le_of_ble_eq_true rfl) (fun z7 σ8 hz9 hp10 => ?_)
    obtain ⟨he11, hv12⟩ := hp10
    rw [he11]
    by_cases qz7 : tk (so 1) b = true
    · have z7e : z7 = 1 := hv12.trans (if_pos qz7)
      subst z7e
      refine v_if_eq (tgt := 48) hX d_Mo_row_15 (by decide) (by first | assumption | (unfold ir at *; omega)) (fun c9 => absurd c9 (by omega)) (fun c9 => ?_)
      refine v_aload_n hX d_Mo_row_18 0 rfl ?_
      refine v_iconst hX (2) d_Mo_row_19 ?_
      refine v_iload_n hX d_Mo_row_20 3 rfl ?_
      refine g_callVI (As := [.int (iv (2)), .int (iv (c))]) (st := []) hX hj (i := 358) (by omega) m0 (m_Mo_isValue hj hM hD 2 (by decide) c (by assumption)) cl_Mo_72 d_Mo_row_21 rfl ⟨by decide, by decide⟩ ⟨by decide, by decide⟩ (Nat.le_of_ble_eq_true rfl) (fun z13 σ14 hz15 hp16 => ?_)
      obtain ⟨he17, hv18⟩ := hp16
      rw [he17]
      by_cases qz13 : tk (so 2) c = true
      · have z13e : z13 = 1 := hv18.trans (if_pos qz13)
        subst z13e
        refine v_if_eq (tgt := 48) hX d_Mo_row_24 (by decide) (by first | assumption | (unfold ir at *; omega)) (fun c9 => absurd c9 (by omega)) (fun c9 => ?_)
        refine v_aload_n hX d_Mo_row_27 0 rfl ?_
        refine v_iconst hX (3) d_Mo_row_28 ?_
        refine v_iload hX d_Mo_row_29 4 rfl ?_
        refine g_callVI (As := [.int (iv (3)), .int (iv (d))]) (st := []) hX hj (i := 358) (by omega) m0 (m_Mo_isValue hj hM hD 3 (by decide) d (by assumption)) cl_Mo_72 d_Mo_row_31 rfl ⟨by decide, by decide⟩ ⟨by decide, by decide⟩ (Nat.le_of_ble_eq_true rfl) (fun z19 σ20 hz21 hp22 => ?_)
        obtain ⟨he23, hv24⟩ := hp22
        rw [he23]
        by_cases qz19 : tk (so 3) d = true
        · have z19e : z19 = 1 := hv24.trans (if_pos qz19)
          subst z19e
          refine v_if_eq (tgt := 48) hX d_Mo_row_34 (by decide) (by first | assumption | (unfold ir at *; omega)) (fun c9 => absurd c9 (by omega)) (fun c9 => ?_)
          refine v_iload hX d_Mo_row_37 5 rfl ?_
          refine v_if_lt (tgt := 48) hX d_Mo_row_39 (by decide) (by first | assumption | (unfold ir at *; omega)) (fun c39_5 => ?_) (fun c39_5 => ?_)
          · refine v_bipush hX (-2) d_Mo_row_48 rfl ?_
            exact hret _ _ _ _ d_Mo_row_50 (by unfold ir; omega) ⟨_, rfl, Or.inl ⟨(fun q => by first | (have t0 := tks_iff.mp q.1 0 (by decide); have t1 := tks_iff.mp q.1 1 (by decide); have t2 := tks_iff.mp q.1 2 (by decide); have t3 := tks_iff.mp q.1 3 (by decide); first | exact absurd t0 (by assumption) | exact absurd t1 (by assumption) | exact absurd t2 (by assumption) | exact absurd t3 (by assumption)) | omega), rfl, rfl⟩⟩ rfl
          · refine v_iload hX d_Mo_row_42 5 rfl ?_
            refine v_iconst hX (2) d_Mo_row_44 ?_
            refine v_icmp_le (tgt := 51) hX d_Mo_row_45 (by decide) (by first | assumption | (unfold ir at *; omega)) (by first | assumption | (unfold ir at *; omega)) (fun c45_6 => ?_) (fun c45_6 => ?_)
            · refine v_aload_n hX d_Mo_row_51 0 rfl ?_
              refine g_get (i := 358) hX hj fl_Mo_69 d_Mo_row_52 (by omega) m0 rfl ?_
              refine v_bipush hX (24) d_Mo_row_55 rfl ?_
              refine v_icmp_ne (tgt := 63) hX d_Mo_row_57 (by decide) (by first | assumption | (unfold ir at *; omega)) (by first | assumption | (unfold ir at *; omega)) (fun c57_7 => ?_) (fun c57_7 => ?_)
              · refine v_aload_n hX d_Mo_row_63 0 rfl ?_
                refine g_get (i := 358) hX hj fl_Mo_13 d_Mo_row_64 (by omega) m0 rfl ?_
                refine v_iconst hX (4) d_Mo_row_67 ?_
                refine v_aload_n hX d_Mo_row_68 0 rfl ?_
                refine g_get (i := 358) hX hj fl_Mo_69 d_Mo_row_69 (by omega) m0 rfl ?_
                refine v_imulN (a := 4) (b := n) hX d_Mo_row_72 ?_
                refine v_iload_n hX d_Mo_row_73 1 rfl ?_
                refine g_iast (i := 360) hX hj d_Mo_row_74 (by omega) m2 (by decide) ((4 * n)) rfl (by omega) ?_
                obtain ⟨σ25, hs26⟩ : ∃ s9, s9 = va_up σ (360) (eJ G 96 (va_up vf ((4 * n)) (a))) := ⟨_, rfl⟩
                rw [← hs26]
                have hf27 := (show σ25 (358) = σ (358) by rw [hs26, va_up_ne _ _ (by omega)]).trans m0
                have hf28 := (show σ25 (359) = σ (359) by rw [hs26, va_up_ne _ _ (by omega)]).trans m1
                have hf30 := (show σ25 (361) = σ (361) by rw [hs26, va_up_ne _ _ (by omega)]).trans m3
                have hf31 : σ25 (360) = (eJ G 96 (va_up vf ((4 * n)) (a))) := by rw [hs26, va_up_self]
                refine v_aload_n hX d_Mo_row_75 0 rfl ?_
                refine g_get (i := 358) hX hj fl_Mo_13 d_Mo_row_76 (by omega) hf27 rfl ?_
                refine v_iconst hX (4) d_Mo_row_79 ?_
                refine v_aload_n hX d_Mo_row_80 0 rfl ?_
                refine g_get (i := 358) hX hj fl_Mo_69 d_Mo_row_81 (by omega) hf27 rfl ?_
                refine v_imulN (a := 4) (b := n) hX d_Mo_row_84 ?_
                refine v_iconst hX (1) d_Mo_row_85 ?_
                refine v_iaddN (a := (4 * n)) (b := 1) hX d_Mo_row_86 ?_
                refine v_iload_n hX d_Mo_row_87 2 rfl ?_
                refine g_iast (i := 360) hX hj d_Mo_row_88 (by omega) hf31 (by decide) (((4 * n) + 1)) rfl (by omega) ?_
                obtain ⟨σ32, hs33⟩ : ∃ s9, s9 = va_up σ25 (360) (eJ G 96 (va_up (va_up vf ((4 * n)) (a)) (((4 * n) + 1)) (b))) := ⟨_, rfl⟩
                rw [← hs33]
                have hf34 := (show σ32 (358) = σ25 (358) by rw [hs33, va_up_ne _ _ (by omega)]).trans hf27
                have hf35 := (show σ32 (359) = σ25 (359) by rw [hs33, va_up_ne _ _ (by omega)]).trans hf28
                have hf36 := (show σ32 (361) = σ25 (361) by rw [hs33, va_up_ne _ _ (by omega)]).trans hf30
                have hf38 : σ32 (360) = (eJ G 96 (va_up (va_up vf ((4 * n)) (a)) (((4 * n) + 1)) (b))) := by rw [hs33, va_up_self]
                refine v_aload_n hX d_Mo_row_89 0 rfl ?_
                refine g_get (i := 358) hX hj fl_Mo_13 d_Mo_row_90 (by omega) hf34 rfl ?_
                refine v_iconst hX (4) d_Mo_row_93 ?_
                refine v_aload_n hX d_Mo_row_94 0 rfl ?_
                refine g_get (i := 358) hX hj fl_Mo_69 d_Mo_row_95 (by omega) hf34 rfl ?_
                refine v_imulN (a := 4) (b := n) hX d_Mo_row_98 ?_
                refine v_iconst hX (2) d_Mo_row_99 ?_
                refine v_iaddN (a := (4 * n)) (b := 2) hX d_Mo_row_100 ?_
                refine v_iload_n hX d_Mo_row_101 3 rfl ?_
                refine g_iast (i := 360) hX hj d_Mo_row_102 (by omega) hf38 (by decide) (((4 * n) + 2)) rfl (by omega) ?_
                obtain ⟨σ39, hs40⟩ : ∃ s9, s9 = va_up σ32 (360) (eJ G 96 (va_up (va_up (va_up vf ((4 * n)) (a)) (((4 * n) + 1)) (b)) (((4 * n) + 2)) (c))) := ⟨_, rfl⟩
                rw [← hs40]
                have hf41 := (show σ39 (358) = σ32 (358) by rw [hs40, va_up_ne _ _ (by omega)]).trans hf34
                have hf42 := (show σ39 (359) = σ32 (359) by rw [hs40, va_up_ne _ _ (by omega)]).trans hf35
                have hf43 := (show σ39 (361) = σ32 (361) by rw [hs40, va_up_ne _ _ (by omega)]).trans hf36
                have hf45 : σ39 (360) = (eJ G 96 (va_up (va_up (va_up vf ((4 * n)) (a)) (((4 * n) + 1)) (b)) (((4 * n) + 2)) (c))) := by rw [hs40, va_up_self]
                refine v_aload_n hX d_Mo_row_103 0 rfl ?_
                refine g_get (i := 358) hX hj fl_Mo_13 d_Mo_row_104 (by omega) hf41 rfl ?_
                refine v_iconst hX (4) d_Mo_row_107 ?_
                refine v_aload_n hX d_Mo_row_108 0 rfl ?_
                refine g_get (i := 358) hX hj fl_Mo_69 d_Mo_row_109 (by omega) hf41 rfl ?_
                refine v_imulN (a := 4) (b := n) hX d_Mo_row_112 ?_
                refine v_iconst hX (3) d_Mo_row_113 ?_
                refine v_iaddN (a := (4 * n)) (b := 3) hX d_Mo_row_114 ?_
                refine v_iload hX d_Mo_row_115 4 rfl ?_
                refine g_iast (i := 360) hX hj d_Mo_row_117 (by omega) hf45 (by decide) (((4 * n) + 3)) rfl (by omega) ?_
                obtain ⟨σ46, hs47⟩ : ∃ s9, s9 = va_up σ39 (360) (eJ G 96 (va_up (va_up (va_up (va_up vf ((4 * n)) (a)) (((4 * n) + 1)) (b)) (((4 * n) + 2)) (c)) (((4 * n) + 3)) (d))) := ⟨_, rfl⟩
                rw [← hs47]
                have hf48 := (show σ46 (358) = σ39 (358) by rw [hs47, va_up_ne _ _ (by omega)]).trans hf41
                have hf49 := (show σ46 (359) = σ39 (359) by rw [hs47, va_up_ne _ _ (by omega)]).trans hf42
                have hf50 := (show σ46 (361) = σ39 (361) by rw [hs47, va_up_ne _ _ (by omega)]).trans hf43
                have hf52 : σ46 (360) = (eJ G 96 (va_up (va_up (va_up (va_up vf ((4 * n)) (a)) (((4 * n) + 1)) (b)) (((4 * n) + 2)) (c)) (((4 * n) + 3)) (d))) := by rw [hs47, va_up_self]
                refine v_aload_n hX d_Mo_row_118 0 rfl ?_
                refine g_get (i := 358) hX hj fl_Mo_16 d_Mo_row_119 (by omega) hf48 rfl ?_
                refine v_aload_n hX d_Mo_row_122 0 rfl ?_
                refine g_get (i := 358) hX hj fl_Mo_69 d_Mo_row_123 (by omega) hf48 rfl ?_
                refine v_iload hX d_Mo_row_126 5 rfl ?_
                refine g_iast (i := 361) hX hj d_Mo_row_128 (by omega) hf50 (by decide) (n) rfl (by omega) ?_
                obtain ⟨σ53, hs54⟩ : ∃ s9, s9 = va_up σ46 (361) (eJ G 24 (va_up cf (n) (k))) := ⟨_, rfl⟩
                rw [← hs54]
                have hf55 := (show σ53 (358) = σ46 (358) by rw [hs54, va_up_ne _ _ (by omega)]).trans hf48
                have hf56 := (show σ53 (359) = σ46 (359) by rw [hs54, va_up_ne _ _ (by omega)]).trans hf49
                have hf58 := (show σ53 (360) = σ46 (360) by rw [hs54, va_up_ne _ _ (by omega)]).trans hf52
                have hf59 : σ53 (361) = (eJ G 24 (va_up cf (n) (k))) := by rw [hs54, va_up_self]
                refine v_aload_n hX d_Mo_row_129 0 rfl ?_
                refine v_dup hX d_Mo_row_130 rfl ?_
                refine g_get (i := 358) hX hj fl_Mo_69 d_Mo_row_131 (by omega) hf55 rfl ?_
                refine v_iconst hX (1) d_Mo_row_134 ?_
                refine v_iaddN (a := n) (b := 1) hX d_Mo_row_135 ?_
                refine g_put (i := 358) (fs' := [.ref (ad 359), .int (iv ((((n + 1) : Nat) : Int))), .ref (ad 360), .ref (ad 361), .int (iv (((de : Nat) : Int))), .int (iv (((le : Nat) : Int))), .int (iv (((wo : Nat) : Int))), .int (iv ((S 7))), .long (jv ((S 8))), .long (jv ((S 9))), .int (iv ((S 10))), .int (iv ((S 11))), .int (iv ((S 12))), .long (jv ((S 13))), .long (jv ((S 14))), .int (iv ((S 15))), .ref (ad 362), .ref (ad 363), .ref (ad 364), .ref (ad 365), .ref (ad 366), .ref (ad 367), .ref (ad 368), .ref (ad 369), .ref (ad 370), .ref (ad 371), .int (iv ((S 26))), .ref (ad 372), .ref (ad 373), .ref (ad 374), .ref (ad 375), .int (iv ((S 31))), .int (iv ((S 32)))]) hX hj pf_Mo_69 d_Mo_row_136 (by omega) hf55 rfl rfl (Nat.le_of_ble_eq_true rfl) rfl ?_
                obtain ⟨σ60, hs61⟩ : ∃ s9, s9 = va_up σ53 (358) (eO 9 [.ref (ad 359), .int (iv ((((n + 1) : Nat) : Int))), .ref (ad 360), .ref (ad 361), .int (iv (((de : Nat) : Int))), .int (iv (((le : Nat) : Int))), .int (iv (((wo : Nat) : Int))), .int (iv ((S 7))), .long (jv ((S 8))), .long (jv ((S 9))), .int (iv ((S 10))), .int (iv ((S 11))), .int (iv ((S 12))), .long (jv ((S 13))), .long (jv ((S 14))), .int (iv ((S 15))), .ref (ad 362), .ref (ad 363), .ref (ad 364), .ref (ad 365), .ref (ad 366), .ref (ad 367), .ref (ad 368), .ref (ad 369), .ref (ad 370), .ref (ad 371), .int (iv ((S 26))), .ref (ad 372), .ref (ad 373), .ref (ad 374), .ref (ad 375), .int (iv ((S 31))), .int (iv ((S 32)))]) := ⟨_, rfl⟩
                rw [← hs61]
                have hf63 := (show σ60 (359) = σ53 (359) by rw [hs61, va_up_ne _ _ (by omega)]).trans hf56
                have hf64 := (show σ60 (360) = σ53 (360) by rw [hs61, va_up_ne _ _ (by omega)]).trans hf58
                have hf65 := (show σ60 (361) = σ53 (361) by rw [hs61, va_up_ne _ _ (by omega)]).trans hf59
                have hf66 : σ60 (358) = (eO 9 [.ref (ad 359), .int (iv ((((n + 1) : Nat) : Int))), .ref (ad 360), .ref (ad 361), .int (iv (((de : Nat) : Int))), .int (iv (((le : Nat) : Int))), .int (iv (((wo : Nat) : Int))), .int (iv ((S 7))), .long (jv ((S 8))), .long (jv ((S 9))), .int (iv ((S 10))), .int (iv ((S 11))), .int (iv ((S 12))), .long (jv ((S 13))), .long (jv ((S 14))), .int (iv ((S 15))), .ref (ad 362), .ref (ad 363), .ref (ad 364), .ref (ad 365), .ref (ad 366), .ref (ad 367), .ref (ad 368), .ref (ad 369), .ref (ad 370), .ref (ad 371), .int (iv ((S 26))), .ref (ad 372), .ref (ad 373), .ref (ad 374), .ref (ad 375), .int (iv ((S 31))), .int (iv ((S 32)))]) := by rw [hs61, va_up_self]
                refine v_aload_n hX d_Mo_row_139 0 rfl ?_
                refine v_iconst hX (0) d_Mo_row_140 ?_
                refine g_put (i := 358) (fs' := [.ref (ad 359), .int (iv ((((n + 1) : Nat) : Int))), .ref (ad 360), .ref (ad 361), .int (iv (((de : Nat) : Int))), .int (iv (((le : Nat) : Int))), .int (iv (((wo : Nat) : Int))), .int (iv (0)), .long (jv ((S 8))), .long (jv ((S 9))), .int (iv ((S 10))), .int (iv ((S 11))), .int (iv ((S 12))), .long (jv ((S 13))), .long (jv ((S 14))), .int (iv ((S 15))), .ref (ad 362), .ref (ad 363), .ref (ad 364), .ref (ad 365), .ref (ad 366), .ref (ad 367), .ref (ad 368), .ref (ad 369), .ref (ad 370), .ref (ad 371), .int (iv ((S 26))), .ref (ad 372), .ref (ad 373), .ref (ad 374), .ref (ad 375), .int (iv ((S 31))), .int (iv ((S 32)))]) hX hj pf_Mo_76 d_Mo_row_141 (by omega) hf66 rfl rfl (Nat.le_of_ble_eq_true rfl) rfl ?_
                obtain ⟨σ67, hs68⟩ : ∃ s9, s9 = va_up σ60 (358) (eO 9 [.ref (ad 359), .int (iv ((((n + 1) : Nat) : Int))), .ref (ad 360), .ref (ad 361), .int (iv (((de : Nat) : Int))), .int (iv (((le : Nat) : Int))), .int (iv (((wo : Nat) : Int))), .int (iv (0)), .long (jv ((S 8))), .long (jv ((S 9))), .int (iv ((S 10))), .int (iv ((S 11))), .int (iv ((S 12))), .long (jv ((S 13))), .long (jv ((S 14))), .int (iv ((S 15))), .ref (ad 362), .ref (ad 363), .ref (ad 364), .ref (ad 365), .ref (ad 366), .ref (ad 367), .ref (ad 368), .ref (ad 369), .ref (ad 370), .ref (ad 371), .int (iv ((S 26))), .ref (ad 372), .ref (ad 373), .ref (ad 374), .ref (ad 375), .int (iv ((S 31))), .int (iv ((S 32)))]) := ⟨_, rfl⟩
                rw [← hs68]
                have hf69 := (show σ67 (359) = σ60 (359) by rw [hs68, va_up_ne _ _ (by omega)]).trans hf63
                have hf70 := (show σ67 (360) = σ60 (360) by rw [hs68, va_up_ne _ _ (by omega)]).trans hf64
                have hf71 := (show σ67 (361) = σ60 (361) by rw [hs68, va_up_ne _ _ (by omega)]).trans hf65
                have hf73 : σ67 (358) = (eO 9 [.ref (ad 359), .int (iv ((((n + 1) : Nat) : Int))), .ref (ad 360), .ref (ad 361), .int (iv (((de : Nat) : Int))), .int (iv (((le : Nat) : Int))), .int (iv (((wo : Nat) : Int))), .int (iv (0)), .long (jv ((S 8))), .long (jv ((S 9))), .int (iv ((S 10))), .int (iv ((S 11))), .int (iv ((S 12))), .long (jv ((S 13))), .long (jv ((S 14))), .int (iv ((S 15))), .ref (ad 362), .ref (ad 363), .ref (ad 364), .ref (ad 365), .ref (ad 366), .ref (ad 367), .ref (ad 368), .ref (ad 369), .ref (ad 370), .ref (ad 371), .int (iv ((S 26))), .ref (ad 372), .ref (ad 373), .ref (ad 374), .ref (ad 375), .int (iv ((S 31))), .int (iv ((S 32)))]) := by rw [hs68, va_up_self]
                refine v_aload_n hX d_Mo_row_144 0 rfl ?_
                refine g_get (i := 358) hX hj fl_Mo_69 d_Mo_row_145 (by omega) hf73 rfl ?_
                refine v_iconst hX (1) d_Mo_row_148 ?_
                refine v_isub hX d_Mo_row_149 ?_
                have hPr := hM.row (by omega) m2e m3e (σ' := σ67) (S' := va_up S 7 0) (k := k.toNat) (a := a) (b := b) (c := c) (d := d) (fun i i1 i2 i3 => by rw [hs68, va_up_ne _ _ i1, hs61, va_up_ne _ _ i1, hs54, va_up_ne _ _ i3, hs47, va_up_ne _ _ i2, hs40, va_up_ne _ _ i2, hs33, va_up_ne _ _ i2, hs26, va_up_ne _ _ i2]) (by rw [hs68, hs61, bx_uu, va_up_self]; rfl) (by rw [hs68, va_up_ne _ _ (by decide), hs61, va_up_ne _ _ (by decide), hs54, va_up_ne _ _ (by decide), hs47, va_up_self]) (by rw [hs68, va_up_ne _ _ (by decide), hs61, va_up_ne _ _ (by decide), hs54, va_up_self, show ((k.toNat : Nat) : Int) = k by omega])
                exact hret _ _ _ _ d_Mo_row_150 (by unfold ir; omega) ⟨_, rfl, Or.inr (Or.inr ⟨⟨tks_4 (by assumption) (by assumption) (by assumption) (by assumption), by omega, by omega⟩, by omega, hPr, (fun i i1 i2 i3 => by rw [hs68, va_up_ne _ _ i1, hs61, va_up_ne _ _ i1, hs54, va_up_ne _ _ i3, hs47, va_up_ne _ _ i2, hs40, va_up_ne _ _ i2, hs33, va_up_ne _ _ i2, hs26, va_up_ne _ _ i2]), by omega⟩)⟩ rfl
              · refine v_bipush hX (-4) d_Mo_row_60 rfl ?_
                exact hret _ _ _ _ d_Mo_row_62 (by unfold ir; omega) ⟨_, rfl, Or.inr (Or.inl ⟨⟨tks_4 (by assumption) (by assumption) (by assumption) (by assumption), by omega, by omega⟩, by omega, rfl, rfl⟩)⟩ rfl
            · refine v_bipush hX (-2) d_Mo_row_48 rfl ?_
              exact hret _ _ _ _ d_Mo_row_50 (by unfold ir; omega) ⟨_, rfl, Or.inl ⟨(fun q => by first | (have t0 := tks_iff.mp q.1 0 (by decide); have t1 := tks_iff.mp q.1 1 (by decide); have t2 := tks_iff.mp q.1 2 (by decide); have t3 := tks_iff.mp q.1 3 (by decide); first | exact absurd t0 (by assumption) | exact absurd t1 (by assumption) | exact absurd t2 (by assumption) | exact absurd t3 (by assumption)) | omega), rfl, rfl⟩⟩ rfl
        · have z19e : z19 = 0 := hv24.trans (if_neg qz19)
          subst z19e
          refine v_if_eq (tgt := 48) hX d_Mo_row_34 (by decide) (by first | assumption | (unfold ir at *; omega)) (fun c9 => ?_) (fun c9 => absurd c9 (by omega))
          refine v_bipush hX (-2) d_Mo_row_48 rfl ?_
          exact hret _ _ _ _ d_Mo_row_50 (by unfold ir; omega) ⟨_, rfl, Or.inl ⟨(fun q => by first | (have t0 := tks_iff.mp q.1 0 (by decide); have t1 := tks_iff.mp q.1 1 (by decide); have t2 := tks_iff.mp q.1 2 (by decide); have t3 := tks_iff.mp q.1 3 (by decide); first | exact absurd t0 (by assumption) | exact absurd t1 (by assumption) | exact absurd t2 (by assumption) | exact absurd t3 (by assumption)) | omega), rfl, rfl⟩⟩ rfl
      · have z13e : z13 = 0 := hv18.trans (if_neg qz13)
        subst z13e
        refine v_if_eq (tgt := 48) hX d_Mo_row_24 (by decide) (by first | assumption | (unfold ir at *; omega)) (fun c9 => ?_) (fun c9 => absurd c9 (by omega))
        refine v_bipush hX (-2) d_Mo_row_48 rfl ?_
        exact hret _ _ _ _ d_Mo_row_50 (by unfold ir; omega) ⟨_, rfl, Or.inl ⟨(fun q => by first | (have t0 := tks_iff.mp q.1 0 (by decide); have t1 := tks_iff.mp q.1 1 (by decide); have t2 := tks_iff.mp q.1 2 (by decide); have t3 := tks_iff.mp q.1 3 (by decide); first | exact absurd t0 (by assumption) | exact absurd t1 (by assumption) | exact absurd t2 (by assumption) | exact absurd t3 (by assumption)) | omega), rfl, rfl⟩⟩ rfl
    · have z7e : z7 = 0 := hv12.trans (if_neg qz7)
      subst z7e
      refine v_if_eq (tgt := 48) hX d_Mo_row_15 (by decide) (by first | assumption | (unfold ir at *; omega)) (fun c9 => ?_) (fun c9 => absurd c9 (by omega))
      refine v_bipush hX (-2) d_Mo_row_48 rfl ?_
      exact hret _ _ _ _ d_Mo_row_50 (by unfold ir; omega) ⟨_, rfl, Or.inl ⟨(fun q => by first | (have t0 := tks_iff.mp q.1 0 (by decide); have t1 := tks_iff.mp q.1 1 (by decide); have t2 := tks_iff.mp q.1 2 (by decide); have t3 := tks_iff.mp q.1 3 (by decide); first | exact absurd t0 (by assumption) | exact absurd t1 (by assumption) | exact absurd t2 (by assumption) | exact absurd t3 (by assumption)) | omega), rfl, rfl⟩⟩ rfl
  · have z1e : z1 = 0 := hv6.trans (if_neg qz1)
    subst z1e
    refine v_if_eq (tgt := 48) hX d_Mo_row_6 (by decide) (by first | assumption | (unfold ir at *; omega)) (fun c9 => ?_) (fun c9 => absurd c9 (by omega))
    refine v_bipush hX (-2) d_Mo_row_48 rfl ?_
    exact hret _ _ _ _ d_Mo_row_50 (by unfold ir; omega) ⟨_, rfl, Or.inl ⟨(fun q => by first | (have t0 := tks_iff.mp q.1 0 (by decide); have t1 := tks_iff.mp q.1 1 (by decide); have t2 := tks_iff.mp q.1 2 (by decide); have t3 := tks_iff.mp q.1 3 (by decide); first | exact absurd t0 (by assumption) | exact absurd t1 (by assumption) | exact absurd t2 (by assumption) | exact absurd t3 (by assumption)) | omega), rfl, rfl⟩⟩ rfl
