/-! THE SURVEY LOOKS; by program -/
set_option maxHeartbeats 1000000 in
set_option maxRecDepth 100000 in
theorem m_Sur_look {G : xG} {f0 : xF} {ad : Nat → Nat} (hj : adOk ad 400) {σ : xF} {n : Nat} {val : Nat → Nat → Int} {cl so rC rK : Nat → Nat} {rL : Nat → Nat → Nat} (hT : pTab G ad σ n val cl so rC rK rL) (hB : bTab n cl so rC rK rL) (hS : pSur ad σ) {le de wo : Nat} (hL : pLim σ de le wo) (hle : le ≤ 10) (B0 : Int × Int × Int × Int × Int) (hI0 : lkI ad σ σ (0, B0)) (rows : Nat) (hR : rows < 16777216) : ∀ l, gI l G f0 ad 400 y_Sur_look (.code y_Sur_look c_Sur_look 6 (some (.int))) rm_Sur_look [.ref (ad 3), .int (iv (((rows : Nat) : Int)))] σ (fun z σ' => ∃ B, B = lk0 so rC rK rL le rows 4 (0, B0) ∧ z = ((B.1 : Nat) : Int) ∧ lkI ad σ σ' B) := by
  intro l
  refine mI_of (rt := .int) (by decide) (Nat.le_of_ble_eq_true rfl) (fun X hX hret => ?_)
  show vV G X 0 0 0 [(0, .ref (ad 3)), (1, .int (iv (((rows : Nat) : Int))))] [] (ov f0 ad 400 σ)
  refine v_iconst hX (0) d_Sur_look_0 ?_
  refine v_istore_n (lv' := [(2, .int (iv (0))), (0, .ref (ad 3)), (1, .int (iv (((rows : Nat) : Int))))]) hX d_Sur_look_1 rfl (by decide) rfl ?_
  refine v_iconst hX (0) d_Sur_look_2 ?_
  refine v_istore_n (lv' := [(3, .int (iv (0))), (2, .int (iv (0))), (0, .ref (ad 3)), (1, .int (iv (((rows : Nat) : Int))))]) hX d_Sur_look_3 rfl (by decide) rfl ?_
  have LC : ∀ (fuel : Nat) (c : Nat) (σv : xF) (B : lkB), 4 - c < fuel → (c ≤ 4) → (B = lk0 so rC rK rL le rows c (0, B0)) → (lkI ad σ σv B) → (B.1 ≤ 202 * c) → vV G X 0 0 4 [(0, .ref (ad 3)), (1, .int (iv (((rows : Nat) : Int)))), (2, .int (iv (((B.1 : Nat) : Int)))), (3, .int (iv (((c : Nat) : Int))))] [] (ov f0 ad 400 σv) := by
    intro fuel
    induction fuel with
    | zero => intro c σv B hm; exact absurd hm (Nat.not_lt_zero _)
    | succ fuel ih_LC =>
      intro c σv B hm hc hBe hI hb
      have hTv := lkI_tab hI hT
      have hSv : pSur ad σv := (hI.1 3 (by decide) (by decide) (by decide) (by decide)).trans hS
      have hLv : pLim σv de le wo := (hI.1 2 (by decide) (by decide) (by decide) (by decide)).trans hL
      refine v_iload_n hX d_Sur_look_4 3 rfl ?_
      refine v_iconst hX (4) d_Sur_look_5 ?_
      refine v_icmp_ge (tgt := 92) hX d_Sur_look_6 (by decide) (by unfold ir; omega) (by unfold ir; omega) (fun c6_1 => ?_) (fun c6_1 => ?_)
      · refine v_iload_n hX d_Sur_look_92 2 rfl ?_
        have e : c = 4 := by omega
        subst e
        exact hret _ _ _ _ d_Sur_look_93 (ir_n (by omega)) ⟨_, rfl, B, hBe, rfl, hI⟩ rfl
      · refine v_iconst hX (0) d_Sur_look_9 ?_
        refine v_istore (lv' := [(4, .int (iv (0))), (0, .ref (ad 3)), (1, .int (iv (((rows : Nat) : Int)))), (2, .int (iv (((B.1 : Nat) : Int)))), (3, .int (iv (((c : Nat) : Int))))]) hX d_Sur_look_10 (by decide) rfl ?_
        have LN : ∀ (fuel : Nat) (k : Nat) (σw : xF) (D : lkB), 101 - k < fuel → (k ≤ 101) → (D = lk1 so rC rK rL le rows c k B) → (lkI ad σ σw D) → (D.1 ≤ 202 * c + 2 * k) → vV G X 0 0 12 [(0, .ref (ad 3)), (1, .int (iv (((rows : Nat) : Int)))), (2, .int (iv (((D.1 : Nat) : Int)))), (3, .int (iv (((c : Nat) : Int)))), (4, .int (iv (((k : Nat) : Int))))] [] (ov f0 ad 400 σw) := by
          intro fuel
          induction fuel with
          | zero => intro k σw D hm; exact absurd hm (Nat.not_lt_zero _)
          | succ fuel ih_LN =>
            intro k σw D hm hk hDe hI hd
            have hTv := lkI_tab hI hT
            have hSv : pSur ad σw := (hI.1 3 (by decide) (by decide) (by decide) (by decide)).trans hS
            have hLv : pLim σw de le wo := (hI.1 2 (by decide) (by decide) (by decide) (by decide)).trans hL
            refine v_iload hX d_Sur_look_12 4 rfl ?_
            refine v_bipush hX (100) d_Sur_look_14 rfl ?_
            refine v_icmp_gt (tgt := 86) hX d_Sur_look_16 (by decide) (by unfold ir; omega) (by unfold ir; omega) (fun c16_2 => ?_) (fun c16_2 => ?_)
            · refine v_iincN (a := c) (n := 1) (lv' := [(3, .int (iv ((((c + 1) : Nat) : Int)))), (0, .ref (ad 3)), (1, .int (iv (((rows : Nat) : Int)))), (2, .int (iv (((D.1 : Nat) : Int)))), (4, .int (iv (((k : Nat) : Int))))]) hX d_Sur_look_86 rfl 3 rfl (by decide) rfl ?_
              refine v_goto (tgt := 4) hX d_Sur_look_89 (by decide) ?_
              refine v_lv [1, 2, 3, 0] rfl ?_
              exact ih_LC (c + 1) (σw) (D) (by omega) (by omega) (by have e : k = 101 := (by omega); subst e; rw [hDe, hBe]; rfl) hI (by omega)
            · refine v_aload_n hX d_Sur_look_19 0 rfl ?_
              refine g_get (i := 3) hX hj fl_Sur_21 d_Sur_look_20 (by omega) hSv rfl ?_
              refine v_iload_n hX d_Sur_look_23 1 rfl ?_
              refine v_iload_n hX d_Sur_look_24 3 rfl ?_
              refine v_iload hX d_Sur_look_25 4 rfl ?_
              refine g_callVI (As := [.int (iv (((rows : Nat) : Int))), .int (iv (((c : Nat) : Int))), .int (iv (((k : Nat) : Int)))]) (st := []) hX hj (i := 1) (by omega) hTv.1 (m_Tab_canCut hj hTv hB rows c (k : Int) hR (by omega) (ir_n (by omega))) cl_Sur_29 d_Sur_look_27 rfl ⟨by decide, by decide⟩ ⟨by decide, by decide⟩ (Nat.le_of_ble_eq_true rfl) (fun z1 σ2 hz3 hp4 => ?_)
              obtain ⟨he5, hv6⟩ := hp4
              rw [he5]
              by_cases qc : kCan so rK rL rows c k = true
              · have z1e : z1 = 1 := hv6.trans (if_pos ⟨by omega, by rw [Int.toNat_natCast]; exact qc⟩)
                subst z1e
                refine v_if_ne (tgt := 36) hX d_Sur_look_30 (by decide) (by unfold ir; omega) (fun c9 => ?_) (fun c9 => absurd c9 (by omega))
                refine v_iconst hX (0) d_Sur_look_36 ?_
                refine v_istore (lv' := [(5, .int (iv (0))), (0, .ref (ad 3)), (1, .int (iv (((rows : Nat) : Int)))), (2, .int (iv (((D.1 : Nat) : Int)))), (3, .int (iv (((c : Nat) : Int)))), (4, .int (iv (((k : Nat) : Int))))]) hX d_Sur_look_37 (by decide) rfl ?_
                have LS : ∀ (fuel : Nat) (d : Nat) (σx : xF) (E : lkB), 2 - d < fuel → (d ≤ 2) → (E = lkD rC rK rL le rows c k d D) → (lkI ad σ σx E) → (E.1 ≤ 202 * c + 2 * k + d) → vV G X 0 0 39 [(0, .ref (ad 3)), (1, .int (iv (((rows : Nat) : Int)))), (2, .int (iv (((E.1 : Nat) : Int)))), (3, .int (iv (((c : Nat) : Int)))), (4, .int (iv (((k : Nat) : Int)))), (5, .int (iv (((d : Nat) : Int))))] [] (ov f0 ad 400 σx) := by
                  intro fuel
                  induction fuel with
                  | zero => intro d σx E hm; exact absurd hm (Nat.not_lt_zero _)
                  | succ fuel ih_LS =>
                    intro d σx E hm hdd hEe hI he
                    have hTv := lkI_tab hI hT
                    have hSv : pSur ad σx := (hI.1 3 (by decide) (by decide) (by decide) (by decide)).trans hS
                    have hLv : pLim σx de le wo := (hI.1 2 (by decide) (by decide) (by decide) (by decide)).trans hL
                    obtain ⟨x0, x1, x2, h4⟩ := hI.2.1
                    obtain ⟨u5, v5, h5⟩ := hI.2.2.1
                    refine v_iload hX d_Sur_look_39 5 rfl ?_
                    refine v_iconst hX (1) d_Sur_look_41 ?_
                    refine v_icmp_gt (tgt := 80) hX d_Sur_look_42 (by decide) (by unfold ir; omega) (by unfold ir; omega) (fun c42_4 => ?_) (fun c42_4 => ?_)
                    · refine v_iincN (a := k) (n := 1) (lv' := [(4, .int (iv ((((k + 1) : Nat) : Int)))), (0, .ref (ad 3)), (1, .int (iv (((rows : Nat) : Int)))), (2, .int (iv (((E.1 : Nat) : Int)))), (3, .int (iv (((c : Nat) : Int)))), (5, .int (iv (((d : Nat) : Int))))]) hX d_Sur_look_80 rfl 4 rfl (by decide) rfl ?_
                      refine v_goto (tgt := 12) hX d_Sur_look_83 (by decide) ?_
                      refine v_lv [1, 2, 3, 4, 0] rfl ?_
                      exact ih_LN (k + 1) (σx) (E) (by omega) (by omega) (by show E = lk2 so rC rK rL le rows c k (lk1 so rC rK rL le rows c k B); have e : d = 2 := (by omega); subst e; rw [← hDe, hEe]; unfold lk2; rw [if_pos (by assumption)]; rfl) hI (by omega)
                    · refine v_aload_n hX d_Sur_look_45 0 rfl ?_
                      refine v_iload_n hX d_Sur_look_46 1 rfl ?_
                      refine v_iload_n hX d_Sur_look_47 3 rfl ?_
                      refine v_iload hX d_Sur_look_48 4 rfl ?_
                      refine v_iload hX d_Sur_look_50 5 rfl ?_
                      refine g_callVI (As := [.int (iv (((rows : Nat) : Int))), .int (iv (((c : Nat) : Int))), .int (iv (((k : Nat) : Int))), .int (iv (((d : Nat) : Int)))]) (st := []) hX hj (i := 3) (by omega) hSv (m_Sur_measure hj hTv hB hSv hLv hle x0 x1 x2 u5 v5 h4 h5 rows c k d hR (by omega) (by omega) (by omega)) cl_Sur_35 d_Sur_look_52 rfl ⟨by decide, by decide⟩ ⟨by decide, by decide⟩ (Nat.le_of_ble_eq_true rfl) (fun z7 σ8 hz9 hp10 => ?_)
                      rcases hp10 with ⟨m1, m2, m3⟩ | ⟨m1, m2, m3⟩
                      · subst m2
                        obtain ⟨hJ, hj4, hj5⟩ := lkI_tr hI m3
                        have hSx : pSur ad σ8 := (hJ.1 3 (by decide) (by decide) (by decide) (by decide)).trans hS
                        have rbe : ir ((kBe rK rL rows c k d : Nat) : Int) := ir_n (by have := kBe_le rK rL rows c k d; omega)
                        refine v_if_eq (tgt := 74) hX d_Sur_look_55 (by decide) (by unfold ir; omega) (fun c9 => absurd c9 (by omega)) (fun c9 => ?_)
                        refine v_aload_n hX d_Sur_look_58 0 rfl ?_
                        refine v_iload_n hX d_Sur_look_59 2 rfl ?_
                        refine v_if_ne (tgt := 67) hX d_Sur_look_60 (by decide) (by unfold ir; omega) (fun c60_6 => ?_) (fun c60_6 => ?_)
                        · refine v_iconst hX (0) d_Sur_look_67 ?_
                          refine g_callVV (As := [.int (iv (0))]) (st := []) hX hj (i := 3) (by omega) hSx (m_Sur_keepIfBetter hj hSx (c : Int) (k : Int) (d : Int) (kAb rC rK rL rows c k d) ((kBe rK rL rows c k d : Nat) : Int) E.2.1 E.2.2.1 E.2.2.2.1 E.2.2.2.2.1 E.2.2.2.2.2 hj4 hj5 hJ.2.2.2.1 hJ.2.2.2.2.1 (kAb_ir _ _ _ _ _ _ _) rbe hJ.2.2.2.2.2.1 hJ.2.2.2.2.2.2 0 (by omega)) cl_Sur_39 d_Sur_look_68 rfl ⟨by decide, by decide⟩ ⟨by decide, by decide⟩ (Nat.le_of_ble_eq_true rfl) (fun σ12 hp14 => ?_)
                          rcases hp14 with ⟨k1, k2⟩ | ⟨k1, k2⟩
                          · refine v_iincN (a := E.1) (n := 1) (lv' := [(2, .int (iv ((((E.1 + 1) : Nat) : Int)))), (0, .ref (ad 3)), (1, .int (iv (((rows : Nat) : Int)))), (3, .int (iv (((c : Nat) : Int)))), (4, .int (iv (((k : Nat) : Int)))), (5, .int (iv (((d : Nat) : Int))))]) hX d_Sur_look_71 rfl 2 rfl (by decide) rfl ?_
                            refine v_iincN (a := d) (n := 1) (lv' := [(5, .int (iv ((((d + 1) : Nat) : Int)))), (2, .int (iv ((((E.1 + 1) : Nat) : Int)))), (0, .ref (ad 3)), (1, .int (iv (((rows : Nat) : Int)))), (3, .int (iv (((c : Nat) : Int)))), (4, .int (iv (((k : Nat) : Int))))]) hX d_Sur_look_74 rfl 5 rfl (by decide) rfl ?_
                            refine v_goto (tgt := 39) hX d_Sur_look_77 (by decide) ?_
                            refine v_lv [2, 3, 1, 4, 5, 0] rfl ?_
                            exact ih_LS (d + 1) (σ12) ((E.1 + 1, (c : Int), (k : Int), (d : Int), kAb rC rK rL rows c k d, (kBe rK rL rows c k d : Int))) (by omega) (by omega) (by show _ = lkS rC rK rL le rows c k d (lkD rC rK rL le rows c k d D); rw [← hEe, lk_a m1 (by omega)]) (lkI_be hJ (kAb_ir _ _ _ _ _ _ _) rbe k2) (by show E.1 + 1 ≤ _; omega)
                          · rw [k2]
                            refine v_iincN (a := E.1) (n := 1) (lv' := [(2, .int (iv ((((E.1 + 1) : Nat) : Int)))), (0, .ref (ad 3)), (1, .int (iv (((rows : Nat) : Int)))), (3, .int (iv (((c : Nat) : Int)))), (4, .int (iv (((k : Nat) : Int)))), (5, .int (iv (((d : Nat) : Int))))]) hX d_Sur_look_71 rfl 2 rfl (by decide) rfl ?_
                            refine v_iincN (a := d) (n := 1) (lv' := [(5, .int (iv ((((d + 1) : Nat) : Int)))), (2, .int (iv ((((E.1 + 1) : Nat) : Int)))), (0, .ref (ad 3)), (1, .int (iv (((rows : Nat) : Int)))), (3, .int (iv (((c : Nat) : Int)))), (4, .int (iv (((k : Nat) : Int))))]) hX d_Sur_look_74 rfl 5 rfl (by decide) rfl ?_
                            refine v_goto (tgt := 39) hX d_Sur_look_77 (by decide) ?_
                            refine v_lv [2, 3, 1, 4, 5, 0] rfl ?_
                            exact ih_LS (d + 1) (σ8) ((E.1 + 1, E.2)) (by omega) (by omega) (by show _ = lkS rC rK rL le rows c k d (lkD rC rK rL le rows c k d D); rw [← hEe, lk_b m1 (by omega)]) hJ (by show E.1 + 1 ≤ _; omega)
                        · refine v_iconst hX (1) d_Sur_look_63 ?_
                          refine v_goto (tgt := 68) hX d_Sur_look_64 (by decide) ?_
                          refine g_callVV (As := [.int (iv (1))]) (st := []) hX hj (i := 3) (by omega) hSx (m_Sur_keepIfBetter hj hSx (c : Int) (k : Int) (d : Int) (kAb rC rK rL rows c k d) ((kBe rK rL rows c k d : Nat) : Int) E.2.1 E.2.2.1 E.2.2.2.1 E.2.2.2.2.1 E.2.2.2.2.2 hj4 hj5 hJ.2.2.2.1 hJ.2.2.2.2.1 (kAb_ir _ _ _ _ _ _ _) rbe hJ.2.2.2.2.2.1 hJ.2.2.2.2.2.2 1 (by omega)) cl_Sur_39 d_Sur_look_68 rfl ⟨by decide, by decide⟩ ⟨by decide, by decide⟩ (Nat.le_of_ble_eq_true rfl) (fun σ16 hp18 => ?_)
                          rcases hp18 with ⟨k1, k2⟩ | ⟨k1, k2⟩
                          · refine v_iincN (a := E.1) (n := 1) (lv' := [(2, .int (iv ((((E.1 + 1) : Nat) : Int)))), (0, .ref (ad 3)), (1, .int (iv (((rows : Nat) : Int)))), (3, .int (iv (((c : Nat) : Int)))), (4, .int (iv (((k : Nat) : Int)))), (5, .int (iv (((d : Nat) : Int))))]) hX d_Sur_look_71 rfl 2 rfl (by decide) rfl ?_
                            refine v_iincN (a := d) (n := 1) (lv' := [(5, .int (iv ((((d + 1) : Nat) : Int)))), (2, .int (iv ((((E.1 + 1) : Nat) : Int)))), (0, .ref (ad 3)), (1, .int (iv (((rows : Nat) : Int)))), (3, .int (iv (((c : Nat) : Int)))), (4, .int (iv (((k : Nat) : Int))))]) hX d_Sur_look_74 rfl 5 rfl (by decide) rfl ?_
                            refine v_goto (tgt := 39) hX d_Sur_look_77 (by decide) ?_
                            refine v_lv [2, 3, 1, 4, 5, 0] rfl ?_
                            exact ih_LS (d + 1) (σ16) ((E.1 + 1, (c : Int), (k : Int), (d : Int), kAb rC rK rL rows c k d, (kBe rK rL rows c k d : Int))) (by omega) (by omega) (by show _ = lkS rC rK rL le rows c k d (lkD rC rK rL le rows c k d D); rw [← hEe, lk_a m1 (by omega)]) (lkI_be hJ (kAb_ir _ _ _ _ _ _ _) rbe k2) (by show E.1 + 1 ≤ _; omega)
                          · rw [k2]
                            refine v_iincN (a := E.1) (n := 1) (lv' := [(2, .int (iv ((((E.1 + 1) : Nat) : Int)))), (0, .ref (ad 3)), (1, .int (iv (((rows : Nat) : Int)))), (3, .int (iv (((c : Nat) : Int)))), (4, .int (iv (((k : Nat) : Int)))), (5, .int (iv (((d : Nat) : Int))))]) hX d_Sur_look_71 rfl 2 rfl (by decide) rfl ?_
                            refine v_iincN (a := d) (n := 1) (lv' := [(5, .int (iv ((((d + 1) : Nat) : Int)))), (2, .int (iv ((((E.1 + 1) : Nat) : Int)))), (0, .ref (ad 3)), (1, .int (iv (((rows : Nat) : Int)))), (3, .int (iv (((c : Nat) : Int)))), (4, .int (iv (((k : Nat) : Int))))]) hX d_Sur_look_74 rfl 5 rfl (by decide) rfl ?_
                            refine v_goto (tgt := 39) hX d_Sur_look_77 (by decide) ?_
                            refine v_lv [2, 3, 1, 4, 5, 0] rfl ?_
                            exact ih_LS (d + 1) (σ8) ((E.1 + 1, E.2)) (by omega) (by omega) (by show _ = lkS rC rK rL le rows c k d (lkD rC rK rL le rows c k d D); rw [← hEe, lk_b m1 (by omega)]) hJ (by show E.1 + 1 ≤ _; omega)
                      · subst m2
                        rw [m3]
                        refine v_if_eq (tgt := 74) hX d_Sur_look_55 (by decide) (by unfold ir; omega) (fun c9 => ?_) (fun c9 => absurd c9 (by omega))
                        refine v_iincN (a := d) (n := 1) (lv' := [(5, .int (iv ((((d + 1) : Nat) : Int)))), (0, .ref (ad 3)), (1, .int (iv (((rows : Nat) : Int)))), (2, .int (iv (((E.1 : Nat) : Int)))), (3, .int (iv (((c : Nat) : Int)))), (4, .int (iv (((k : Nat) : Int))))]) hX d_Sur_look_74 rfl 5 rfl (by decide) rfl ?_
                        refine v_goto (tgt := 39) hX d_Sur_look_77 (by decide) ?_
                        refine v_lv [1, 2, 3, 4, 5, 0] rfl ?_
                        exact ih_LS (d + 1) (σx) (E) (by omega) (by omega) (by show E = lkS rC rK rL le rows c k d (lkD rC rK rL le rows c k d D); rw [← hEe, lk_no m1]) hI (by omega)
                refine v_lv [1, 2, 3, 4, 5, 0] rfl ?_
                exact LS _ (0) (σw) (D) (Nat.lt_succ_self _) (by decide) rfl hI (by omega)
              · have z1e : z1 = 0 := hv6.trans (if_neg (fun q => qc (by have := q.2; rw [Int.toNat_natCast] at this; exact this)))
                subst z1e
                refine v_if_ne (tgt := 36) hX d_Sur_look_30 (by decide) (by unfold ir; omega) (fun c9 => absurd c9 (by omega)) (fun c9 => ?_)
                refine v_goto (tgt := 80) hX d_Sur_look_33 (by decide) ?_
                refine v_iincN (a := k) (n := 1) (lv' := [(4, .int (iv ((((k + 1) : Nat) : Int)))), (0, .ref (ad 3)), (1, .int (iv (((rows : Nat) : Int)))), (2, .int (iv (((D.1 : Nat) : Int)))), (3, .int (iv (((c : Nat) : Int))))]) hX d_Sur_look_80 rfl 4 rfl (by decide) rfl ?_
                refine v_goto (tgt := 12) hX d_Sur_look_83 (by decide) ?_
                refine v_lv [1, 2, 3, 4, 0] rfl ?_
                exact ih_LN (k + 1) (σw) (D) (by omega) (by omega) (by show D = lk2 so rC rK rL le rows c k (lk1 so rC rK rL le rows c k B); rw [← hDe]; unfold lk2; rw [if_neg (by assumption)]) hI (by omega)
        refine v_lv [1, 2, 3, 4, 0] rfl ?_
        exact LN _ (0) (σv) (B) (Nat.lt_succ_self _) (by decide) rfl hI (by omega)
  refine v_lv [2, 3, 1, 0] rfl ?_
  exact LC _ (0) (σ) ((0, B0)) (Nat.lt_succ_self _) (by decide) rfl hI0 (Nat.le_refl 0)
