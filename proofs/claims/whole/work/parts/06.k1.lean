/-! ROOMS, the JDK, small statics; by program -/
abbrev rm_Bs_init : Room := { frames := 5, cells := 0, slots := 0, locals := 105 }
abbrev rm_Tab_init : Room := { frames := 1, cells := 0, slots := 0, locals := 20 }
abbrev rm_Lim_init : Room := { frames := 1, cells := 0, slots := 0, locals := 20 }
abbrev rm_Sur_init : Room := { frames := 3, cells := 0, slots := 0, locals := 60 }
abbrev rm_Cut_init : Room := { frames := 2, cells := 0, slots := 0, locals := 40 }
abbrev rm_Fra_init : Room := { frames := 1, cells := 0, slots := 0, locals := 20 }
abbrev rm_Tre_init : Room := { frames := 4, cells := 0, slots := 0, locals := 81 }
abbrev rm_Nod_init : Room := { frames := 3, cells := 0, slots := 0, locals := 60 }
abbrev rm_Pru_init : Room := { frames := 2, cells := 0, slots := 0, locals := 40 }
abbrev rm_Bs_column : Room := { frames := 2, cells := 0, slots := 0, locals := 43 }
abbrev rm_Bs_isColumn : Room := { frames := 0, cells := 0, slots := 0, locals := 0 }
abbrev rm_Bs_noteChange : Room := { frames := 0, cells := 0, slots := 0, locals := 0 }
abbrev rm_Tab_changeSort : Room := { frames := 1, cells := 0, slots := 0, locals := 20 }
abbrev rm_Bs_row : Room := { frames := 4, cells := 0, slots := 0, locals := 92 }
abbrev rm_Bs_ask : Room := { frames := 0, cells := 0, slots := 0, locals := 0 }
abbrev rm_Tab_takes : Room := { frames := 0, cells := 0, slots := 0, locals := 0 }
abbrev rm_Bs_isClass : Room := { frames := 0, cells := 0, slots := 0, locals := 0 }
abbrev rm_Tab_add : Room := { frames := 3, cells := 0, slots := 0, locals := 68 }
abbrev rm_Tab_enterKnown : Room := { frames := 2, cells := 0, slots := 0, locals := 43 }
abbrev rm_Tab_lastNumber : Room := { frames := 1, cells := 0, slots := 0, locals := 20 }
abbrev rm_Tab_isLeftOf : Room := { frames := 1, cells := 0, slots := 0, locals := 20 }
abbrev rm_Bs_clear : Room := { frames := 1, cells := 0, slots := 0, locals := 23 }
abbrev rm_Tab_removeAll : Room := { frames := 0, cells := 0, slots := 0, locals := 0 }
abbrev rm_Bs_settings : Room := { frames := 1, cells := 0, slots := 0, locals := 20 }
abbrev rm_Bs_nodes : Room := { frames := 7, cells := 0, slots := 0, locals := 168 }
abbrev rm_Bs_growIfChanged : Room := { frames := 6, cells := 0, slots := 0, locals := 148 }
abbrev rm_Tab_allRows : Room := { frames := 0, cells := 0, slots := 0, locals := 0 }
abbrev rm_Tre_grow : Room := { frames := 5, cells := 0, slots := 0, locals := 126 }
abbrev rm_Tre_begin : Room := { frames := 3, cells := 0, slots := 0, locals := 65 }
abbrev rm_Tab_labelOf : Room := { frames := 2, cells := 0, slots := 0, locals := 42 }
abbrev rm_Tab_countOf : Room := { frames := 1, cells := 0, slots := 0, locals := 20 }
abbrev rm_Int_bitCount : Room := { frames := 0, cells := 0, slots := 0, locals := 0 }
abbrev rm_Tre_partIfDue : Room := { frames := 4, cells := 0, slots := 0, locals := 101 }
abbrev rm_Sur_look : Room := { frames := 3, cells := 0, slots := 0, locals := 76 }
abbrev rm_Tab_canCut : Room := { frames := 2, cells := 0, slots := 0, locals := 45 }
abbrev rm_Tab_isGrouping : Room := { frames := 1, cells := 0, slots := 0, locals := 20 }
abbrev rm_Tab_isStep : Room := { frames := 1, cells := 0, slots := 0, locals := 20 }
abbrev rm_Sur_measure : Room := { frames := 2, cells := 0, slots := 0, locals := 45 }
abbrev rm_Tab_unknownOf : Room := { frames := 1, cells := 0, slots := 0, locals := 20 }
abbrev rm_Tab_leftOf : Room := { frames := 1, cells := 0, slots := 0, locals := 20 }
abbrev rm_Tab_squaresOf : Room := { frames := 1, cells := 0, slots := 0, locals := 20 }
abbrev rm_Cut_become : Room := { frames := 0, cells := 0, slots := 0, locals := 0 }
abbrev rm_Fra_become : Room := { frames := 0, cells := 0, slots := 0, locals := 0 }
abbrev rm_Sur_keepIfBetter : Room := { frames := 2, cells := 0, slots := 0, locals := 44 }
abbrev rm_Fra_compareWith : Room := { frames := 1, cells := 0, slots := 0, locals := 23 }
abbrev rm_Lon_compare : Room := { frames := 0, cells := 0, slots := 0, locals := 0 }
abbrev rm_Cut_becomeAs : Room := { frames := 1, cells := 0, slots := 0, locals := 23 }
abbrev rm_Fra_becomeAs : Room := { frames := 0, cells := 0, slots := 0, locals := 0 }
abbrev rm_Fra_isAboveHundredths : Room := { frames := 0, cells := 0, slots := 0, locals := 0 }
abbrev rm_Pru_cutBackToRoot : Room := { frames := 3, cells := 0, slots := 0, locals := 69 }
abbrev rm_Tre_find : Room := { frames := 0, cells := 0, slots := 0, locals := 0 }
abbrev rm_Nod_beginStages : Room := { frames := 1, cells := 0, slots := 0, locals := 20 }
abbrev rm_Nod_isUnparted : Room := { frames := 0, cells := 0, slots := 0, locals := 0 }
abbrev rm_Pru_recordStage : Room := { frames := 1, cells := 0, slots := 0, locals := 21 }
abbrev rm_Nod_sumUp : Room := { frames := 0, cells := 0, slots := 0, locals := 0 }
abbrev rm_Nod_stateAt : Room := { frames := 0, cells := 0, slots := 0, locals := 0 }
abbrev rm_Pru_findAlpha : Room := { frames := 2, cells := 0, slots := 0, locals := 44 }
abbrev rm_Pru_weigh : Room := { frames := 1, cells := 0, slots := 0, locals := 22 }
abbrev rm_Pru_cutBack : Room := { frames := 2, cells := 0, slots := 0, locals := 44 }
abbrev rm_Nod_loseThoseBelow : Room := { frames := 1, cells := 0, slots := 0, locals := 21 }
abbrev rm_Mat_min : Room := { frames := 0, cells := 0, slots := 0, locals := 0 }
abbrev rm_Bs_node : Room := { frames := 7, cells := 0, slots := 0, locals := 168 }
abbrev rm_Nod_cutDetail : Room := { frames := 0, cells := 0, slots := 0, locals := 0 }
abbrev rm_Nod_ownDetail : Room := { frames := 1, cells := 0, slots := 0, locals := 20 }
abbrev rm_Bs_count : Room := { frames := 7, cells := 0, slots := 0, locals := 168 }
abbrev rm_Bs_gain : Room := { frames := 7, cells := 0, slots := 0, locals := 168 }
abbrev rm_Bs_isPart : Room := { frames := 0, cells := 0, slots := 0, locals := 0 }
abbrev rm_Fra_inLowestTerms : Room := { frames := 1, cells := 0, slots := 0, locals := 24 }
abbrev rm_Fra_greatestCommonDivisor : Room := { frames := 0, cells := 0, slots := 0, locals := 0 }
abbrev rm_Bs_leaf : Room := { frames := 7, cells := 0, slots := 0, locals := 168 }
abbrev rm_Tre_whereComes : Room := { frames := 3, cells := 0, slots := 0, locals := 66 }
abbrev rm_Tab_goesLeft : Room := { frames := 2, cells := 0, slots := 0, locals := 43 }
abbrev rm_Bs_leafOf : Room := { frames := 7, cells := 0, slots := 0, locals := 168 }
abbrev rm_Tab_has : Room := { frames := 0, cells := 0, slots := 0, locals := 0 }
abbrev rm_Bs_cuts : Room := { frames := 4, cells := 0, slots := 0, locals := 101 }
abbrev rm_Bs_cutGain : Room := { frames := 3, cells := 0, slots := 0, locals := 76 }
abbrev rm_Bs_stages : Room := { frames := 7, cells := 0, slots := 0, locals := 168 }
abbrev rm_Bs_alpha : Room := { frames := 7, cells := 0, slots := 0, locals := 168 }
abbrev rm_Pru_has : Room := { frames := 0, cells := 0, slots := 0, locals := 0 }
abbrev rm_Bs_leaves : Room := { frames := 7, cells := 0, slots := 0, locals := 168 }
abbrev rm_Bs_wrong : Room := { frames := 7, cells := 0, slots := 0, locals := 168 }
abbrev rm_Bs_state : Room := { frames := 7, cells := 0, slots := 0, locals := 168 }
abbrev rm_Bs_leftOut : Room := { frames := 7, cells := 0, slots := 0, locals := 169 }
abbrev rm_Bs_isMistakenByOthers : Room := { frames := 6, cells := 0, slots := 0, locals := 148 }
abbrev rm_Mo_init : Room := { frames := 1, cells := 0, slots := 0, locals := 20 }
abbrev rm_Mo_column : Room := { frames := 0, cells := 0, slots := 0, locals := 0 }
abbrev rm_Mo_row : Room := { frames := 1, cells := 0, slots := 0, locals := 22 }
abbrev rm_Mo_isValue : Room := { frames := 0, cells := 0, slots := 0, locals := 0 }
abbrev rm_Mo_clear : Room := { frames := 0, cells := 0, slots := 0, locals := 0 }
abbrev rm_Mo_settings : Room := { frames := 0, cells := 0, slots := 0, locals := 0 }
abbrev rm_Mo_nodes : Room := { frames := 7, cells := 0, slots := 0, locals := 176 }
abbrev rm_Mo_build : Room := { frames := 6, cells := 0, slots := 0, locals := 156 }
abbrev rm_Mo_grow : Room := { frames := 5, cells := 0, slots := 0, locals := 132 }
abbrev rm_Mo_add : Room := { frames := 0, cells := 0, slots := 0, locals := 0 }
abbrev rm_Mo_isMixed : Room := { frames := 3, cells := 0, slots := 0, locals := 68 }
abbrev rm_Mo_wrongOf : Room := { frames := 2, cells := 0, slots := 0, locals := 47 }
abbrev rm_Mo_many : Room := { frames := 0, cells := 0, slots := 0, locals := 0 }
abbrev rm_Mo_labelOf : Room := { frames := 1, cells := 0, slots := 0, locals := 24 }
abbrev rm_Mo_of : Room := { frames := 0, cells := 0, slots := 0, locals := 0 }
abbrev rm_Mo_findBest : Room := { frames := 4, cells := 0, slots := 0, locals := 107 }
abbrev rm_Mo_may : Room := { frames := 3, cells := 0, slots := 0, locals := 75 }
abbrev rm_Mo_isCut : Room := { frames := 1, cells := 0, slots := 0, locals := 24 }
abbrev rm_Mo_hasValue : Room := { frames := 0, cells := 0, slots := 0, locals := 0 }
abbrev rm_Mo_greatest : Room := { frames := 0, cells := 0, slots := 0, locals := 0 }
abbrev rm_Mo_kindsOf : Room := { frames := 0, cells := 0, slots := 0, locals := 0 }
abbrev rm_Mo_leftOf : Room := { frames := 2, cells := 0, slots := 0, locals := 49 }
abbrev rm_Mo_goesLeft : Room := { frames := 1, cells := 0, slots := 0, locals := 24 }
abbrev rm_Mo_isLeft : Room := { frames := 0, cells := 0, slots := 0, locals := 0 }
abbrev rm_Mo_squares : Room := { frames := 1, cells := 0, slots := 0, locals := 24 }
abbrev rm_Mo_findStages : Room := { frames := 5, cells := 0, slots := 0, locals := 122 }
abbrev rm_Mo_nextStage : Room := { frames := 4, cells := 0, slots := 0, locals := 92 }
abbrev rm_Mo_look : Room := { frames := 3, cells := 0, slots := 0, locals := 68 }
abbrev rm_Mo_node : Room := { frames := 7, cells := 0, slots := 0, locals := 176 }
abbrev rm_Mo_isNode : Room := { frames := 0, cells := 0, slots := 0, locals := 0 }
abbrev rm_Mo_count : Room := { frames := 7, cells := 0, slots := 0, locals := 176 }
abbrev rm_Mo_gain : Room := { frames := 7, cells := 0, slots := 0, locals := 176 }
abbrev rm_Mo_lowest : Room := { frames := 1, cells := 0, slots := 0, locals := 29 }
abbrev rm_Mo_common : Room := { frames := 0, cells := 0, slots := 0, locals := 0 }
abbrev rm_Mo_leaf : Room := { frames := 7, cells := 0, slots := 0, locals := 176 }
abbrev rm_Mo_comesTo : Room := { frames := 1, cells := 0, slots := 0, locals := 24 }
abbrev rm_Mo_leafOf : Room := { frames := 7, cells := 0, slots := 0, locals := 176 }
abbrev rm_Mo_leafFor : Room := { frames := 2, cells := 0, slots := 0, locals := 45 }
abbrev rm_Mo_cuts : Room := { frames := 4, cells := 0, slots := 0, locals := 107 }
abbrev rm_Mo_cutGain : Room := { frames := 4, cells := 0, slots := 0, locals := 107 }
abbrev rm_Mo_stages : Room := { frames := 7, cells := 0, slots := 0, locals := 176 }
abbrev rm_Mo_alpha : Room := { frames := 7, cells := 0, slots := 0, locals := 176 }
abbrev rm_Mo_isStage : Room := { frames := 0, cells := 0, slots := 0, locals := 0 }
abbrev rm_Mo_leaves : Room := { frames := 7, cells := 0, slots := 0, locals := 176 }
abbrev rm_Mo_wrong : Room := { frames := 7, cells := 0, slots := 0, locals := 176 }
abbrev rm_Mo_state : Room := { frames := 7, cells := 0, slots := 0, locals := 176 }
abbrev rm_Mo_leftOut : Room := { frames := 6, cells := 0, slots := 0, locals := 156 }
set_option maxHeartbeats 1000000 in
set_option maxRecDepth 100000 in
theorem k0_Int_bitCount {G : xG} (m : Nat) (hm : m < 16777216) : ∀ l f, mI l G y_Int_bitCount (.code y_Int_bitCount c_Int_bitCount 1 (some (.int))) rm_Int_bitCount [.int (iv (((m : Nat) : Int)))] f (fun z f' => f' = f ∧ z = ((cnt m : Nat) : Int)) := by
  intro l f
  refine mI_of (rt := .int) (by decide) (Nat.le_of_ble_eq_true rfl) (fun X hX hret => ?_)
  show vV G X 0 0 0 [(0, .int (iv (((m : Nat) : Int))))] [] f
  obtain ⟨a, b, c, e1, e1b, e2, e3, ha, hb, hc, e4⟩ := bc_all m hm
  refine v_iload_n hX d_Int_bitCount_0 0 rfl ?_
  refine v_iload_n hX d_Int_bitCount_1 0 rfl ?_
  refine v_iconst hX (1) d_Int_bitCount_2 ?_
  refine v_iushr (z := (((m / 2) : Nat) : Int)) hX d_Int_bitCount_3 (iv_ushr (m) (by omega) (1) (by omega)) ?_
  refine v_ldcw hX (1431655765) d_Int_bitCount_4 (mT 425 (by decide +kernel) rfl) rfl ?_
  refine v_iand (z := ((((m / 2) &&& 1431655765) : Nat) : Int)) hX d_Int_bitCount_7 (iv_and ((m / 2)) (1431655765)) ?_
  refine v_isub hX d_Int_bitCount_8 ?_
  refine v_top (x' := iv ((a : Nat) : Int)) (congrArg iv (by omega)) ?_
  refine v_istore_n (lv' := [(0, .int (iv (((a : Nat) : Int))))]) hX d_Int_bitCount_9 rfl (by decide) rfl ?_
  refine v_iload_n hX d_Int_bitCount_10 0 rfl ?_
  refine v_ldcw hX (858993459) d_Int_bitCount_11 (mT 426 (by decide +kernel) rfl) rfl ?_
  refine v_iand (z := (((a &&& 858993459) : Nat) : Int)) hX d_Int_bitCount_14 (iv_and (a) (858993459)) ?_
  refine v_iload_n hX d_Int_bitCount_15 0 rfl ?_
  refine v_iconst hX (2) d_Int_bitCount_16 ?_
  refine v_iushr (z := (((a / 4) : Nat) : Int)) hX d_Int_bitCount_17 (iv_ushr (a) (by omega) (2) (by omega)) ?_
  refine v_ldcw hX (858993459) d_Int_bitCount_18 (mT 426 (by decide +kernel) rfl) rfl ?_
  refine v_iand (z := ((((a / 4) &&& 858993459) : Nat) : Int)) hX d_Int_bitCount_21 (iv_and ((a / 4)) (858993459)) ?_
  refine v_iaddN (a := (a &&& 858993459)) (b := ((a / 4) &&& 858993459)) hX d_Int_bitCount_22 ?_
  refine v_top (x' := iv ((b : Nat) : Int)) (congrArg iv (by omega)) ?_
  refine v_istore_n (lv' := [(0, .int (iv (((b : Nat) : Int))))]) hX d_Int_bitCount_23 rfl (by decide) rfl ?_
  refine v_iload_n hX d_Int_bitCount_24 0 rfl ?_
  refine v_iload_n hX d_Int_bitCount_25 0 rfl ?_
  refine v_iconst hX (4) d_Int_bitCount_26 ?_
  refine v_iushr (z := (((b / 16) : Nat) : Int)) hX d_Int_bitCount_27 (iv_ushr (b) (by omega) (4) (by omega)) ?_
  refine v_iaddN (a := b) (b := (b / 16)) hX d_Int_bitCount_28 ?_
  refine v_top (x' := iv (((b + b / 16) : Nat) : Int)) (congrArg iv (by omega)) ?_
  refine v_ldcw hX (252645135) d_Int_bitCount_29 (mT 427 (by decide +kernel) rfl) rfl ?_
  refine v_iand (z := ((((b + b / 16) &&& 252645135) : Nat) : Int)) hX d_Int_bitCount_32 (iv_and ((b + b / 16)) (252645135)) ?_
  refine v_top (x' := iv ((c : Nat) : Int)) (congrArg (fun q : Nat => iv (q : Int)) e3) ?_
  refine v_istore_n (lv' := [(0, .int (iv (((c : Nat) : Int))))]) hX d_Int_bitCount_33 rfl (by decide) rfl ?_
  refine v_iload_n hX d_Int_bitCount_34 0 rfl ?_
  refine v_iload_n hX d_Int_bitCount_35 0 rfl ?_
  refine v_bipush hX (8) d_Int_bitCount_36 rfl ?_
  refine v_iushr (z := (((c / 256) : Nat) : Int)) hX d_Int_bitCount_38 (iv_ushr (c) (by omega) (8) (by omega)) ?_
  refine v_iaddN (a := c) (b := (c / 256)) hX d_Int_bitCount_39 ?_
  refine v_top (x' := iv (((c + c / 256) : Nat) : Int)) (congrArg iv (by omega)) ?_
  refine v_istore_n (lv' := [(0, .int (iv ((((c + c / 256) : Nat) : Int))))]) hX d_Int_bitCount_40 rfl (by decide) rfl ?_
  refine v_iload_n hX d_Int_bitCount_41 0 rfl ?_
  refine v_iload_n hX d_Int_bitCount_42 0 rfl ?_
  refine v_bipush hX (16) d_Int_bitCount_43 rfl ?_
  refine v_iushr (z := ((((c + c / 256) / 65536) : Nat) : Int)) hX d_Int_bitCount_45 (iv_ushr ((c + c / 256)) (by omega) (16) (by omega)) ?_
  refine v_iaddN (a := (c + c / 256)) (b := ((c + c / 256) / 65536)) hX d_Int_bitCount_46 ?_
  refine v_top (x' := iv ((((c + c / 256) + (c + c / 256) / 65536) : Nat) : Int)) (congrArg iv (by omega)) ?_
  refine v_istore_n (lv' := [(0, .int (iv (((((c + c / 256) + (c + c / 256) / 65536) : Nat) : Int))))]) hX d_Int_bitCount_47 rfl (by decide) rfl ?_
  refine v_iload_n hX d_Int_bitCount_48 0 rfl ?_
  refine v_bipush hX (63) d_Int_bitCount_49 rfl ?_
  refine v_iand (z := (((((c + c / 256) + (c + c / 256) / 65536) &&& 63) : Nat) : Int)) hX d_Int_bitCount_51 (iv_and (((c + c / 256) + (c + c / 256) / 65536)) (63)) ?_
  exact hret _ _ _ _ d_Int_bitCount_52 (ir_n (by have := Nat.and_le_right (n := (c + c / 256) + (c + c / 256) / 65536) (m := 63); omega)) ⟨rfl, congrArg (fun q : Nat => (q : Int)) (((Nat.and_two_pow_sub_one_eq_mod _ 6).trans e4).trans (cnt_eq m).symm)⟩ rfl

set_option maxHeartbeats 1000000 in
set_option maxRecDepth 100000 in
theorem k0_Lon_compare {G : xG} (a b : Int) (ha : jr a) (hb : jr b) : ∀ l f, mI l G y_Lon_compare (.code y_Lon_compare c_Lon_compare 4 (some (.int))) rm_Lon_compare [.long (jv (a)), .long (jv (b))] f (fun z f' => f' = f ∧ z = (if a < b then (-1 : Int) else if a = b then 0 else 1)) := by
  intro l f
  refine mI_of (rt := .int) (by decide) (Nat.le_of_ble_eq_true rfl) (fun X hX hret => ?_)
  show vV G X 0 0 0 [(0, .long (jv (a))), (2, .long (jv (b)))] [] f
  refine v_lload_n hX d_Lon_compare_0 0 rfl ?_
  refine v_lload_n hX d_Lon_compare_1 1 rfl ?_
  refine v_lcmp hX d_Lon_compare_2 ha hb ?_
  refine v_if_ge (tgt := 10) hX d_Lon_compare_3 (by decide) (by unfold ir; split <;> first | omega | (split <;> omega)) (fun c3_1 => ?_) (fun c3_1 => ?_)
  · refine v_lload_n hX d_Lon_compare_10 0 rfl ?_
    refine v_lload_n hX d_Lon_compare_11 1 rfl ?_
    refine v_lcmp hX d_Lon_compare_12 ha hb ?_
    refine v_if_ne (tgt := 20) hX d_Lon_compare_13 (by decide) (by unfold ir; split <;> first | omega | (split <;> omega)) (fun c13_2 => ?_) (fun c13_2 => ?_)
    · refine v_iconst hX (1) d_Lon_compare_20 ?_
      exact hret _ _ _ _ d_Lon_compare_21 (by unfold ir; omega) ⟨rfl, (by first | (rw [if_pos (by omega)]; done) | (rw [if_neg (by omega), if_pos (by omega)]; done) | (rw [if_neg (by omega), if_neg (by omega)]; done))⟩ rfl
    · refine v_iconst hX (0) d_Lon_compare_16 ?_
      refine v_goto (tgt := 21) hX d_Lon_compare_17 (by decide) ?_
      exact hret _ _ _ _ d_Lon_compare_21 (by unfold ir; omega) ⟨rfl, (by first | (rw [if_pos (by omega)]; done) | (rw [if_neg (by omega), if_pos (by omega)]; done) | (rw [if_neg (by omega), if_neg (by omega)]; done))⟩ rfl
  · refine v_iconst hX (-1) d_Lon_compare_6 ?_
    refine v_goto (tgt := 21) hX d_Lon_compare_7 (by decide) ?_
    exact hret _ _ _ _ d_Lon_compare_21 (by unfold ir; omega) ⟨rfl, (by first | (rw [if_pos (by omega)]; done) | (rw [if_neg (by omega), if_pos (by omega)]; done) | (rw [if_neg (by omega), if_neg (by omega)]; done))⟩ rfl

set_option maxHeartbeats 1000000 in
set_option maxRecDepth 100000 in
theorem k0_Bs_isColumn {G : xG} (a : Int) (ha : ir a) : ∀ l f, mI l G y_Bs_isColumn (.code y_Bs_isColumn c_Bs_isColumn 1 (some (.boolean))) rm_Bs_isColumn [.int (iv (a))] f (fun z f' => f' = f ∧ z = pI (0 ≤ a ∧ a < 4)) := by
  intro l f
  refine mI_of (rt := .boolean) (by decide) (Nat.le_of_ble_eq_true rfl) (fun X hX hret => ?_)
  show vV G X 0 0 0 [(0, .int (iv (a)))] [] f
  refine v_iload_n hX d_Bs_isColumn_0 0 rfl ?_
  refine v_if_lt (tgt := 13) hX d_Bs_isColumn_1 (by decide) (by first | assumption | (unfold ir at *; omega)) (fun c1_1 => ?_) (fun c1_1 => ?_)
  · refine v_iconst hX (0) d_Bs_isColumn_13 ?_
    exact hret _ _ _ _ d_Bs_isColumn_14 (by first | assumption | (unfold ir at *; omega)) ⟨rfl, (pI_f (by omega))⟩ rfl
  · refine v_iload_n hX d_Bs_isColumn_4 0 rfl ?_
    refine v_iconst hX (4) d_Bs_isColumn_5 ?_
    refine v_icmp_ge (tgt := 13) hX d_Bs_isColumn_6 (by decide) (by first | assumption | (unfold ir at *; omega)) (by first | assumption | (unfold ir at *; omega)) (fun c6_2 => ?_) (fun c6_2 => ?_)
    · refine v_iconst hX (0) d_Bs_isColumn_13 ?_
      exact hret _ _ _ _ d_Bs_isColumn_14 (by first | assumption | (unfold ir at *; omega)) ⟨rfl, (pI_f (by omega))⟩ rfl
    · refine v_iconst hX (1) d_Bs_isColumn_9 ?_
      refine v_goto (tgt := 14) hX d_Bs_isColumn_10 (by decide) ?_
      exact hret _ _ _ _ d_Bs_isColumn_14 (by first | assumption | (unfold ir at *; omega)) ⟨rfl, (pI_t (by omega))⟩ rfl

set_option maxHeartbeats 1000000 in
set_option maxRecDepth 100000 in
theorem k0_Bs_isClass {G : xG} (a : Int) (ha : ir a) : ∀ l f, mI l G y_Bs_isClass (.code y_Bs_isClass c_Bs_isClass 1 (some (.boolean))) rm_Bs_isClass [.int (iv (a))] f (fun z f' => f' = f ∧ z = pI (0 ≤ a ∧ a < 3)) := by
  intro l f
  refine mI_of (rt := .boolean) (by decide) (Nat.le_of_ble_eq_true rfl) (fun X hX hret => ?_)
  show vV G X 0 0 0 [(0, .int (iv (a)))] [] f
  refine v_iload_n hX d_Bs_isClass_0 0 rfl ?_
  refine v_if_lt (tgt := 13) hX d_Bs_isClass_1 (by decide) (by first | assumption | (unfold ir at *; omega)) (fun c1_1 => ?_) (fun c1_1 => ?_)
  · refine v_iconst hX (0) d_Bs_isClass_13 ?_
    exact hret _ _ _ _ d_Bs_isClass_14 (by first | assumption | (unfold ir at *; omega)) ⟨rfl, (pI_f (by omega))⟩ rfl
  · refine v_iload_n hX d_Bs_isClass_4 0 rfl ?_
    refine v_iconst hX (3) d_Bs_isClass_5 ?_
    refine v_icmp_ge (tgt := 13) hX d_Bs_isClass_6 (by decide) (by first | assumption | (unfold ir at *; omega)) (by first | assumption | (unfold ir at *; omega)) (fun c6_2 => ?_) (fun c6_2 => ?_)
    · refine v_iconst hX (0) d_Bs_isClass_13 ?_
      exact hret _ _ _ _ d_Bs_isClass_14 (by first | assumption | (unfold ir at *; omega)) ⟨rfl, (pI_f (by omega))⟩ rfl
    · refine v_iconst hX (1) d_Bs_isClass_9 ?_
      refine v_goto (tgt := 14) hX d_Bs_isClass_10 (by decide) ?_
      exact hret _ _ _ _ d_Bs_isClass_14 (by first | assumption | (unfold ir at *; omega)) ⟨rfl, (pI_t (by omega))⟩ rfl

set_option maxHeartbeats 1000000 in
set_option maxRecDepth 100000 in
theorem k0_Bs_isPart {G : xG} (a : Int) (ha : ir a) : ∀ l f, mI l G y_Bs_isPart (.code y_Bs_isPart c_Bs_isPart 1 (some (.boolean))) rm_Bs_isPart [.int (iv (a))] f (fun z f' => f' = f ∧ z = pI (a = 0 ∨ a = 1)) := by
  intro l f
  refine mI_of (rt := .boolean) (by decide) (Nat.le_of_ble_eq_true rfl) (fun X hX hret => ?_)
  show vV G X 0 0 0 [(0, .int (iv (a)))] [] f
  refine v_iload_n hX d_Bs_isPart_0 0 rfl ?_
  refine v_if_eq (tgt := 9) hX d_Bs_isPart_1 (by decide) (by first | assumption | (unfold ir at *; omega)) (fun c1_1 => ?_) (fun c1_1 => ?_)
  · refine v_iconst hX (1) d_Bs_isPart_9 ?_
    refine v_goto (tgt := 14) hX d_Bs_isPart_10 (by decide) ?_
    exact hret _ _ _ _ d_Bs_isPart_14 (by first | assumption | (unfold ir at *; omega)) ⟨rfl, (pI_t (by omega))⟩ rfl
  · refine v_iload_n hX d_Bs_isPart_4 0 rfl ?_
    refine v_iconst hX (1) d_Bs_isPart_5 ?_
    refine v_icmp_ne (tgt := 13) hX d_Bs_isPart_6 (by decide) (by first | assumption | (unfold ir at *; omega)) (by first | assumption | (unfold ir at *; omega)) (fun c6_2 => ?_) (fun c6_2 => ?_)
    · refine v_iconst hX (0) d_Bs_isPart_13 ?_
      exact hret _ _ _ _ d_Bs_isPart_14 (by first | assumption | (unfold ir at *; omega)) ⟨rfl, (pI_f (by omega))⟩ rfl
    · refine v_iconst hX (1) d_Bs_isPart_9 ?_
      refine v_goto (tgt := 14) hX d_Bs_isPart_10 (by decide) ?_
      exact hret _ _ _ _ d_Bs_isPart_14 (by first | assumption | (unfold ir at *; omega)) ⟨rfl, (pI_t (by omega))⟩ rfl
