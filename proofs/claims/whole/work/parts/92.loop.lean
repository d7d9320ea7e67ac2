/-! THE LAW'S LOOP -/
section LAW
variable {G : xG} {X : xT} {nm ds : String} {b L : Nat} {xs : Nat → Int32} {ad : Nat → Nat}

theorem law_loop (hX : xOk G X c_Law_law ⟨R_Law, nm, ds⟩ 4 room_1) (hS : lwX X b L xs) (hL : L ≤ 3072) (hj : adOk ad 400) (hEnd : ∀ lv σ, vV G X 600000 7302250 671 lv [.int (iv 1)] (ov fZ ad 400 σ)) : ∀ (fu i : Nat) (σ : xF) (d : xD), i ≤ L → L + 1 ≤ i + fu → lwC G ad σ d → lwM G ad σ d → vV G X 600000 7302250 18 [(3, .int (iv ((i : Nat) : Int))), (2, .ref (ad 358)), (1, .ref (ad 0)), (0, .ref b)] [] (ov fZ ad 400 σ) := by
  intro fu
  induction fu with
  | zero =>
    intro i σ d h1 h2
    exact absurd h2 (by omega)
  | succ fu ih =>
    intro i σ d h1 h2 hC hM
    refine v_iload_n hX d_Law_law_18 0 rfl ?_
    refine v_aload_n hX d_Law_law_19 3 rfl ?_
    refine v_slen hX hS d_Law_law_20 ?_
    refine v_bipush hX 6 d_Law_law_21 rfl ?_
    refine v_isub hX d_Law_law_23 ?_
    refine v_icmp_gt (tgt := 670) hX d_Law_law_24 (by decide) (by unfold ir; omega) (by unfold ir; omega) (fun c1 => ?_) (fun c1 => ?_)
    · refine v_iconst hX 1 d_Law_law_670 ?_
      exact hEnd _ _
    have hi : i + 6 ≤ L := by omega
    have K : ∀ σ' d', lwC G ad σ' d' → lwM G ad σ' d' → vV G X 600000 7302250 664 [(3, .int (iv ((i : Nat) : Int))), (2, .ref (ad 358)), (1, .ref (ad 0)), (0, .ref b)] [] (ov fZ ad 400 σ') := by
      intro σ' d' hC' hM'
      refine v_iincN (n := 6) (lv' := [(3, .int (iv ((i + 6 : Nat) : Int))), (2, .ref (ad 358)), (1, .ref (ad 0)), (0, .ref b)]) hX d_Law_law_664 rfl 0 rfl (by decide) rfl ?_
      refine v_goto (tgt := 18) hX d_Law_law_667 (by decide) ?_
      exact ih (i + 6) σ' d' hi (by omega) hC' hM'
    refine v_aload_n hX d_Law_law_27 3 rfl ?_
    refine v_iload_n hX d_Law_law_28 0 rfl ?_
    refine v_sld hX hS hL i rfl (by omega) d_Law_law_29 ?_
    refine v_bipush hX 31 d_Law_law_30 rfl ?_
    obtain ⟨z, hz, z1, z2⟩ := and31 (iv (xs i).toInt)
    refine v_iand hX d_Law_law_32 hz ?_
    have hzr : ir z := by unfold ir; omega
    by_cases g : 17 < z
    · refine v_tableOut (tgt := 664) hX d_Law_law_33 hzr (Or.inr g) (by decide) ?_
      exact K σ d hC hM
    by_cases g0 : z = 0
    · subst g0
      refine v_tableIn (off := 87) (tgt := 120) hX d_Law_law_33 hzr (by decide) (by decide) rfl (by decide) ?_
      exact lc_column hX hS hL hj hi hC hM K
    by_cases g1 : z = 1
    · subst g1
      refine v_tableIn (off := 120) (tgt := 153) hX d_Law_law_33 hzr (by decide) (by decide) rfl (by decide) ?_
      exact lc_row hX hS hL hj hi hC hM K
    by_cases g2 : z = 2
    · subst g2
      refine v_tableIn (off := 183) (tgt := 216) hX d_Law_law_33 hzr (by decide) (by decide) rfl (by decide) ?_
      exact lc_clear hX hS hL hj hi hC hM K
    by_cases g3 : z = 3
    · subst g3
      refine v_tableIn (off := 196) (tgt := 229) hX d_Law_law_33 hzr (by decide) (by decide) rfl (by decide) ?_
      exact lc_settings hX hS hL hj hi hC hM K
    by_cases g4 : z = 4
    · subst g4
      refine v_tableIn (off := 239) (tgt := 272) hX d_Law_law_33 hzr (by decide) (by decide) rfl (by decide) ?_
      exact lc_nodes hX hS hL hj hi hC hM K
    by_cases g5 : z = 5
    · subst g5
      refine v_tableIn (off := 252) (tgt := 285) hX d_Law_law_33 hzr (by decide) (by decide) rfl (by decide) ?_
      exact lc_node hX hS hL hj hi hC hM K
    by_cases g6 : z = 6
    · subst g6
      refine v_tableIn (off := 285) (tgt := 318) hX d_Law_law_33 hzr (by decide) (by decide) rfl (by decide) ?_
      exact lc_count hX hS hL hj hi hC hM K
    by_cases g7 : z = 7
    · subst g7
      refine v_tableIn (off := 318) (tgt := 351) hX d_Law_law_33 hzr (by decide) (by decide) rfl (by decide) ?_
      exact lc_gain hX hS hL hj hi hC hM K
    by_cases g8 : z = 8
    · subst g8
      refine v_tableIn (off := 351) (tgt := 384) hX d_Law_law_33 hzr (by decide) (by decide) rfl (by decide) ?_
      exact lc_leaf hX hS hL hj hi hC hM K
    by_cases g9 : z = 9
    · subst g9
      refine v_tableIn (off := 404) (tgt := 437) hX d_Law_law_33 hzr (by decide) (by decide) rfl (by decide) ?_
      exact lc_leafOf hX hS hL hj hi hC hM K
    by_cases g10 : z = 10
    · subst g10
      refine v_tableIn (off := 427) (tgt := 460) hX d_Law_law_33 hzr (by decide) (by decide) rfl (by decide) ?_
      exact lc_cuts hX hS hL hj hi hC hM K
    by_cases g11 : z = 11
    · subst g11
      refine v_tableIn (off := 440) (tgt := 473) hX d_Law_law_33 hzr (by decide) (by decide) rfl (by decide) ?_
      exact lc_cutGain hX hS hL hj hi hC hM K
    by_cases g12 : z = 12
    · subst g12
      refine v_tableIn (off := 493) (tgt := 526) hX d_Law_law_33 hzr (by decide) (by decide) rfl (by decide) ?_
      exact lc_stages hX hS hL hj hi hC hM K
    by_cases g13 : z = 13
    · subst g13
      refine v_tableIn (off := 506) (tgt := 539) hX d_Law_law_33 hzr (by decide) (by decide) rfl (by decide) ?_
      exact lc_alpha hX hS hL hj hi hC hM K
    by_cases g14 : z = 14
    · subst g14
      refine v_tableIn (off := 539) (tgt := 572) hX d_Law_law_33 hzr (by decide) (by decide) rfl (by decide) ?_
      exact lc_leaves hX hS hL hj hi hC hM K
    by_cases g15 : z = 15
    · subst g15
      refine v_tableIn (off := 562) (tgt := 595) hX d_Law_law_33 hzr (by decide) (by decide) rfl (by decide) ?_
      exact lc_wrong hX hS hL hj hi hC hM K
    by_cases g16 : z = 16
    · subst g16
      refine v_tableIn (off := 585) (tgt := 618) hX d_Law_law_33 hzr (by decide) (by decide) rfl (by decide) ?_
      exact lc_state hX hS hL hj hi hC hM K
    by_cases g17 : z = 17
    · subst g17
      refine v_tableIn (off := 618) (tgt := 651) hX d_Law_law_33 hzr (by decide) (by decide) rfl (by decide) ?_
      exact lc_leftOut hX hS hL hj hi hC hM K
    exact absurd z1 (by omega)
end LAW
