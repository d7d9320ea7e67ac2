/-! A NODE IS PARTED; by program -/
set_option maxHeartbeats 1000000 in
set_option maxRecDepth 100000 in
theorem m_Tre_partIfDue {G : xG} {f0 : xF} {ad : Nat → Nat} (hj : adOk ad 400) {σ : xF} {n : Nat} {val : Nat → Nat → Int} {cl so rC rK : Nat → Nat} {rL : Nat → Nat → Nat} (hT : pTab G ad σ n val cl so rC rK rL) (hB : bTab n cl so rC rK rL) (hS : pSur ad σ) {le de wo : Nat} (hL : pLim σ de le wo) (hle : le ≤ 10) (hwo : wo ≤ 1000) (hde : de ≤ 5) (B0 : Int × Int × Int × Int × Int) (hI0 : lkI ad σ σ (0, B0)) (t : Nat) (ht : t ≤ 1) (sz : Nat) (hz : sz ≤ 47) (T : Nat → Nat → Int) (ch : Nat → Option Nat) (hTr : pTre G ad σ t sz T ch) (k b : Nat) (hk : k < sz) (hb : b = 76 + 141 * t + 3 * k) (ro dp : Nat) (hR : ro < 16777216) (hdp : dp ≤ 5) (h2 : T k 2 = (ro : Int)) (h3 : T k 3 = (dp : Int)) (h5 : ir (T k 5)) : ∀ l, gVo l G f0 ad 400 y_Tre_partIfDue (.code y_Tre_partIfDue c_Tre_partIfDue 6 none) rm_Tre_partIfDue [.ref (ad (8 + t)), .ref (ad b)] σ (fun σ' => ((T k 5 = 0 ∨ de ≤ dp ∨ 47 < sz + 2) ∧ σ' = σ) ∨ (¬ (T k 5 = 0 ∨ de ≤ dp ∨ 47 < sz + 2) ∧ ∃ (B : lkB) (σs : xF), B = lk0 so rC rK rL le ro 4 (0, B0) ∧ lkI ad σ σs B ∧ (((B.1 = 0 ∨ ¬ (wo : Int) * B.2.2.2.2.2 < 100 * B.2.2.2.2.1) ∧ σ' = σs) ∨ (¬ (B.1 = 0 ∨ ¬ (wo : Int) * B.2.2.2.2.2 < 100 * B.2.2.2.2.1) ∧ ∃ c num side : Nat, c < 4 ∧ num ≤ 100 ∧ side ≤ 1 ∧ B.2.1 = c ∧ B.2.2.1 = num ∧ B.2.2.2.1 = side ∧ σ' = va_up (va_up (va_up (va_up (va_up (va_up σs (b + 1) (eO 0 [.ref (ad (b + 2)), .int (iv B.2.1), .int (iv B.2.2.1), .int (iv B.2.2.2.1)])) (b + 2) (eO 1 [.int (iv B.2.2.2.2.1), .int (iv B.2.2.2.2.2)])) (76 + 141 * t + 3 * sz) (nodE ad (76 + 141 * t + 3 * sz) sz (fBeg rC (T sz) (kLeft rK rL ro c num side) ((dp + 1 : Nat) : Int)) none)) (76 + 141 * t + 3 * (sz + 1)) (nodE ad (76 + 141 * t + 3 * (sz + 1)) (sz + 1) (fBeg rC (T (sz + 1)) (nd ro (kLeft rK rL ro c num side)) ((dp + 1 : Nat) : Int)) none)) b (nodE ad b k (T k) (some (76 + 141 * t + 3 * sz)))) (8 + t) (eO 7 [.int (iv ((sz + 2 : Nat) : Int)), .ref (ad 1), .ref (ad 2), .ref (ad 3), .ref (ad (18 + t)), .ref (ad (76 + 141 * t))]))))) := by
  intro l
  refine mV_of (by decide) (Nat.le_of_ble_eq_true rfl) (fun X hX hret => ?_)
  show vV G X 0 0 0 [(0, .ref (ad (8 + t))), (1, .ref (ad b))] [] (ov f0 ad 400 σ)
  obtain ⟨r1, r2, r3⟩ := id hTr
  have hnk := r3 k (by omega)
  rw [← hb] at hnk
  have hn1 : σ b = eO 3 [.int (iv k), .ref (ad (b + 1)), .int (iv ((ro : Nat) : Int)), .int (iv ((dp : Nat) : Int)), .int (iv (T k 4)), .int (iv (T k 5)), lC ad (ch k), lC ad ((ch k).map (fun q => q + 3)), .int (iv (T k 8)), .int (iv (T k 9)), .int (iv (T k 10)), .int (iv (T k 11))] := by rw [← h2, ← h3]; exact hnk.1
  refine v_aload_n hX d_Tre_partIfDue_0 1 rfl ?_
  refine g_get (i := b) hX hj fl_Tre_72 d_Tre_partIfDue_1 (by omega) hn1 rfl ?_
  refine v_if_eq (tgt := 32) hX d_Tre_partIfDue_4 (by decide) (by first | assumption | (unfold ir; omega)) (fun c4_1 => ?_) (fun c4_1 => ?_)
  · exact hret _ _ _ d_Tre_partIfDue_32 ⟨_, rfl, Or.inl ⟨by omega, rfl⟩⟩
  · refine v_aload_n hX d_Tre_partIfDue_7 1 rfl ?_
    refine g_get (i := b) hX hj fl_Tre_51 d_Tre_partIfDue_8 (by omega) hn1 rfl ?_
    refine v_aload_n hX d_Tre_partIfDue_11 0 rfl ?_
    refine g_get (i := 8 + t) hX hj fl_Tre_21 d_Tre_partIfDue_12 (by omega) r1 rfl ?_
    refine g_get (i := 2) hX hj fl_Tre_81 d_Tre_partIfDue_15 (by omega) hL rfl ?_
    refine v_icmp_ge (tgt := 32) hX d_Tre_partIfDue_18 (by decide) (by first | assumption | (unfold ir; omega)) (by first | assumption | (unfold ir; omega)) (fun c18_2 => ?_) (fun c18_2 => ?_)
    · exact hret _ _ _ d_Tre_partIfDue_32 ⟨_, rfl, Or.inl ⟨by omega, rfl⟩⟩
    · refine v_aload_n hX d_Tre_partIfDue_21 0 rfl ?_
      refine g_get (i := 8 + t) hX hj fl_Tre_36 d_Tre_partIfDue_22 (by omega) r1 rfl ?_
      refine v_iconst hX (2) d_Tre_partIfDue_25 ?_
      refine v_iaddN (a := sz) (b := 2) hX d_Tre_partIfDue_26 ?_
      refine v_bipush hX (47) d_Tre_partIfDue_27 rfl ?_
      refine v_icmp_le (tgt := 33) hX d_Tre_partIfDue_29 (by decide) (by first | assumption | (unfold ir; omega)) (by first | assumption | (unfold ir; omega)) (fun c29_3 => ?_) (fun c29_3 => ?_)
      · refine v_aload_n hX d_Tre_partIfDue_33 0 rfl ?_
        refine g_get (i := 8 + t) hX hj fl_Tre_25 d_Tre_partIfDue_34 (by omega) r1 rfl ?_
        refine v_aload_n hX d_Tre_partIfDue_37 1 rfl ?_
        refine g_get (i := b) hX hj fl_Tre_48 d_Tre_partIfDue_38 (by omega) hn1 rfl ?_
        refine g_callVI (As := [.int (iv (((ro : Nat) : Int)))]) (st := []) hX hj (i := 3) (by omega) hS (m_Sur_look hj hT hB hS hL hle B0 hI0 ro hR) cl_Tre_84 d_Tre_partIfDue_41 rfl ⟨by decide, by decide⟩ ⟨by decide, by decide⟩ (Nat.le_of_ble_eq_true rfl) (fun z1 σ2 hz3 hp4 => ?_)
        obtain ⟨B, hBe, hv, hI⟩ := hp4
        subst hv
        have hf5 := (show σ2 (8 + t) = σ (8 + t) by rw [hI.1 _ (by omega) (by omega) (by omega) (by omega)]).trans r1
        have hf6 := (show σ2 (18 + t) = σ (18 + t) by rw [hI.1 _ (by omega) (by omega) (by omega) (by omega)]).trans r2
        have hf7 := (show σ2 (b) = σ (b) by rw [hI.1 _ (by omega) (by omega) (by omega) (by omega)]).trans hn1
        have hf8 := (show σ2 (b + 1) = σ (b + 1) by rw [hI.1 _ (by omega) (by omega) (by omega) (by omega)]).trans hnk.2.1
        have hf9 := (show σ2 (b + 2) = σ (b + 2) by rw [hI.1 _ (by omega) (by omega) (by omega) (by omega)]).trans hnk.2.2
        have hf10 := (show σ2 (3) = σ (3) by rw [hI.1 _ (by omega) (by omega) (by omega) (by omega)]).trans hS
        have hf11 := (show σ2 (2) = σ (2) by rw [hI.1 _ (by omega) (by omega) (by omega) (by omega)]).trans hL
        have hf12 := (show σ2 (1) = σ (1) by rw [hI.1 _ (by omega) (by omega) (by omega) (by omega)]).trans hT.1
        have hTs := lkI_tab hI hT
        refine v_if_eq (tgt := 70) hX d_Tre_partIfDue_44 (by decide) (by have := lkB_le hBe; unfold ir; omega) (fun c44_4 => ?_) (fun c44_4 => ?_)
        · exact hret _ _ _ d_Tre_partIfDue_70 ⟨_, rfl, Or.inr ⟨by omega, B, _, hBe, hI, Or.inl ⟨by omega, rfl⟩⟩⟩
        · refine v_aload_n hX d_Tre_partIfDue_47 0 rfl ?_
          refine g_get (i := 8 + t) hX hj fl_Tre_25 d_Tre_partIfDue_48 (by omega) hf5 rfl ?_
          refine g_get (i := 3) hX hj fl_Tre_89 d_Tre_partIfDue_51 (by omega) hf10 rfl ?_
          refine g_get (i := 6) hX hj fl_Tre_93 d_Tre_partIfDue_54 (by omega) hI.2.2.2.1 rfl ?_
          refine v_aload_n hX d_Tre_partIfDue_57 0 rfl ?_
          refine g_get (i := 8 + t) hX hj fl_Tre_21 d_Tre_partIfDue_58 (by omega) hf5 rfl ?_
          refine g_get (i := 2) hX hj fl_Tre_99 d_Tre_partIfDue_61 (by omega) hf11 rfl ?_
          refine g_callVI (As := [.int (iv (((wo : Nat) : Int)))]) (st := []) hX hj (i := 7) (by omega) hI.2.2.2.2.1 (m_Fra_isAboveHundredths hj 7 (by decide) B.2.2.2.2.1 B.2.2.2.2.2 hI.2.2.2.2.1 (wo : Int) hI.2.2.2.2.2.1 hI.2.2.2.2.2.2 (ir_n (by omega))) cl_Tre_102 d_Tre_partIfDue_64 rfl ⟨by decide, by decide⟩ ⟨by decide, by decide⟩ (Nat.le_of_ble_eq_true rfl) (fun z13 σ14 hz15 hp16 => ?_)
          obtain ⟨he17, hv18⟩ := hp16
          rw [he17]
          by_cases qz13 : (wo : Int) * B.2.2.2.2.2 < 100 * B.2.2.2.2.1
          · have z13e : z13 = 1 := hv18.trans (if_pos qz13)
            subst z13e
            refine v_if_ne (tgt := 71) hX d_Tre_partIfDue_67 (by decide) (by first | assumption | (unfold ir; omega)) (fun c9 => ?_) (fun c9 => absurd c9 (by omega))
            refine v_aload_n hX d_Tre_partIfDue_71 1 rfl ?_
            refine g_get (i := b) hX hj fl_Tre_108 d_Tre_partIfDue_72 (by omega) hf7 rfl ?_
            refine v_astore_n (lv' := [(2, .ref (ad (b + 1))), (0, .ref (ad (8 + t))), (1, .ref (ad b))]) hX d_Tre_partIfDue_75 rfl (by decide) rfl ?_
            refine v_aload_n hX d_Tre_partIfDue_76 0 rfl ?_
            refine v_aload_n hX d_Tre_partIfDue_77 1 rfl ?_
            refine g_get (i := 8 + t) hX hj fl_Tre_25 d_Tre_partIfDue_78 (by omega) hf5 rfl ?_
            refine g_get (i := 3) hX hj fl_Tre_89 d_Tre_partIfDue_81 (by omega) hf10 rfl ?_
            refine g_callVV (As := [.ref (ad 6)]) (st := []) hX hj (i := b + 1) (by omega) hf8 (m_Cut_becomeAs hj (b + 1) (b + 2) (by omega) (T k 12) (T k 13) (T k 14) hf8 6 7 (by decide) B.2.1 B.2.2.1 B.2.2.2.1 hI.2.2.2.1 (by omega) (by decide) (T k 15) (T k 16) B.2.2.2.2.1 B.2.2.2.2.2 hf9 hI.2.2.2.2.1 (by omega) (by omega) (by omega) (by omega) (by omega) (by omega)) cl_Tre_111 d_Tre_partIfDue_84 rfl ⟨by decide, by decide⟩ ⟨by decide, by decide⟩ (Nat.le_of_ble_eq_true rfl) (fun σ20 hp22 => ?_)
            have hf23 := (show σ20 (8 + t) = σ2 (8 + t) by rw [hp22, va_up_ne _ _ (by omega), va_up_ne _ _ (by omega)]).trans hf5
            have hf24 := (show σ20 (18 + t) = σ2 (18 + t) by rw [hp22, va_up_ne _ _ (by omega), va_up_ne _ _ (by omega)]).trans hf6
            have hf25 := (show σ20 (b) = σ2 (b) by rw [hp22, va_up_ne _ _ (by omega), va_up_ne _ _ (by omega)]).trans hf7
            have hf26 := (show σ20 (3) = σ2 (3) by rw [hp22, va_up_ne _ _ (by omega), va_up_ne _ _ (by omega)]).trans hf10
            have hf27 := (show σ20 (2) = σ2 (2) by rw [hp22, va_up_ne _ _ (by omega), va_up_ne _ _ (by omega)]).trans hf11
            have hf28 := (show σ20 (1) = σ2 (1) by rw [hp22, va_up_ne _ _ (by omega), va_up_ne _ _ (by omega)]).trans hf12
            have hf29 := (show σ20 (6) = σ2 (6) by rw [hp22, va_up_ne _ _ (by omega), va_up_ne _ _ (by omega)]).trans hI.2.2.2.1
            have hf30 := (show σ20 (7) = σ2 (7) by rw [hp22, va_up_ne _ _ (by omega), va_up_ne _ _ (by omega)]).trans hI.2.2.2.2.1
            have hcb : σ20 (b + 1) = eO 0 [.ref (ad (b + 2)), .int (iv B.2.1), .int (iv B.2.2.1), .int (iv B.2.2.2.1)] := by rw [hp22, va_up_ne _ _ (by omega), va_up_self]
            obtain ⟨c, num, side, hc4, hn4, hs4, e1, e2, e3, e4, e5⟩ := lkR_all hBe (by omega)
            have hTx : pTab G ad σ20 n val cl so rC rK rL := hTs.up (fun i9 hi9 => by rw [hp22, va_up_ne _ _ (by omega), va_up_ne _ _ (by omega)])
            have hLl : (kLeft rK rL ro c num side) < 16777216 := kLeft_lt hR
            have hRr : (nd ro (kLeft rK rL ro c num side)) < 16777216 := Nat.lt_of_le_of_lt (nd_le _ _) hR
            refine v_aload_n hX d_Tre_partIfDue_87 1 rfl ?_
            refine g_get (i := 8 + t) hX hj fl_Tre_17 d_Tre_partIfDue_88 (by omega) hf23 rfl ?_
            refine v_aload_n hX d_Tre_partIfDue_91 2 rfl ?_
            refine g_get (i := b) hX hj fl_Tre_48 d_Tre_partIfDue_92 (by omega) hf25 rfl ?_
            refine v_aload_n hX d_Tre_partIfDue_95 0 rfl ?_
            refine g_get (i := b + 1) hX hj fl_Tre_115 d_Tre_partIfDue_96 (by omega) hcb rfl ?_
            refine v_aload_n hX d_Tre_partIfDue_99 0 rfl ?_
            refine g_get (i := b + 1) hX hj fl_Tre_118 d_Tre_partIfDue_100 (by omega) hcb rfl ?_
            refine v_aload_n hX d_Tre_partIfDue_103 0 rfl ?_
            refine g_get (i := b + 1) hX hj fl_Tre_121 d_Tre_partIfDue_104 (by omega) hcb rfl ?_
            refine v_eq (st' := [.int (iv (((side : Nat) : Int))), .int (iv (((num : Nat) : Int))), .int (iv (((c : Nat) : Int))), .int (iv (((ro : Nat) : Int))), .ref (ad 1)]) (by rw [e1, e2, e3]) ?_
            refine g_callVI (As := [.int (iv (((ro : Nat) : Int))), .int (iv (((c : Nat) : Int))), .int (iv (((num : Nat) : Int))), .int (iv (((side : Nat) : Int)))]) (st := []) hX hj (i := 1) (by omega) hf28 (m_Tab_leftOf hj hTx hB ro c num side hR hc4 hn4 hs4) cl_Tre_124 d_Tre_partIfDue_107 rfl ⟨by decide, by decide⟩ ⟨by decide, by decide⟩ (Nat.le_of_ble_eq_true rfl) (fun z31 σ32 hz33 hp34 => ?_)
            obtain ⟨he35, hv36⟩ := hp34
            rw [he35]
            subst hv36
            refine v_istore_n (lv' := [(3, .int (iv ((((kLeft rK rL ro c num side) : Nat) : Int)))), (2, .ref (ad (b + 1))), (0, .ref (ad (8 + t))), (1, .ref (ad b))]) hX d_Tre_partIfDue_110 rfl (by decide) rfl ?_
            refine v_aload_n hX d_Tre_partIfDue_111 2 rfl ?_
            refine g_get (i := 8 + t) hX hj fl_Tre_11 d_Tre_partIfDue_112 (by omega) hf23 rfl ?_
            refine v_aload_n hX d_Tre_partIfDue_115 2 rfl ?_
            refine g_get (i := 8 + t) hX hj fl_Tre_36 d_Tre_partIfDue_116 (by omega) hf23 rfl ?_
            refine g_aald (i := 18 + t) hX hj d_Tre_partIfDue_119 (by omega) hf24 rfl (by decide) (sz) rfl (by omega) (if_pos (by omega)) ?_
            refine v_astore (lv' := [(4, .ref (ad (76 + 141 * t + 3 * sz))), (3, .int (iv ((((kLeft rK rL ro c num side) : Nat) : Int)))), (2, .ref (ad (b + 1))), (0, .ref (ad (8 + t))), (1, .ref (ad b))]) hX d_Tre_partIfDue_120 (by decide) rfl ?_
            refine v_aload_n hX d_Tre_partIfDue_122 3 rfl ?_
            refine g_get (i := 8 + t) hX hj fl_Tre_11 d_Tre_partIfDue_123 (by omega) hf23 rfl ?_
            refine v_aload_n hX d_Tre_partIfDue_126 3 rfl ?_
            refine g_get (i := 8 + t) hX hj fl_Tre_36 d_Tre_partIfDue_127 (by omega) hf23 rfl ?_
            refine v_iconst hX (1) d_Tre_partIfDue_130 ?_
            refine v_iaddN (a := sz) (b := 1) hX d_Tre_partIfDue_131 ?_
            refine g_aald (i := 18 + t) hX hj d_Tre_partIfDue_132 (by omega) hf24 rfl (by decide) ((sz + 1)) rfl (by omega) (if_pos (by omega)) ?_
            refine v_astore (lv' := [(5, .ref (ad (76 + 141 * t + 3 * (sz + 1)))), (4, .ref (ad (76 + 141 * t + 3 * sz))), (3, .int (iv ((((kLeft rK rL ro c num side) : Nat) : Int)))), (2, .ref (ad (b + 1))), (0, .ref (ad (8 + t))), (1, .ref (ad b))]) hX d_Tre_partIfDue_133 (by decide) rfl ?_
            refine v_aload_n hX d_Tre_partIfDue_135 4 rfl ?_
            refine v_aload hX d_Tre_partIfDue_136 1 rfl ?_
            refine v_iload_n hX d_Tre_partIfDue_138 2 rfl ?_
            refine v_aload_n hX d_Tre_partIfDue_139 5 rfl ?_
            refine g_get (i := b) hX hj fl_Tre_51 d_Tre_partIfDue_140 (by omega) hf25 rfl ?_
            refine v_iconst hX (1) d_Tre_partIfDue_143 ?_
            refine v_iaddN (a := dp) (b := 1) hX d_Tre_partIfDue_144 ?_
            refine g_callVV (As := [.ref (ad (76 + 141 * t + 3 * sz)), .int (iv ((((kLeft rK rL ro c num side) : Nat) : Int))), .int (iv ((((dp + 1) : Nat) : Int)))]) (st := []) hX hj (i := 8 + t) (by omega) hf23 (m_Tre_begin hj hTx hB t sz ht hf23 (76 + 141 * t + 3 * sz) sz (by omega) (T sz) (ch sz) (show σ20 (76 + 141 * t + 3 * sz) = nodE ad (76 + 141 * t + 3 * sz) sz (T sz) (ch sz) by rw [hp22, va_up_ne _ _ (by omega), va_up_ne _ _ (by omega), hI.1 _ (by omega) (by omega) (by omega) (by omega)]; exact (r3 sz (by omega)).1) (kLeft rK rL ro c num side) hLl ((dp + 1 : Nat) : Int)) cl_Tre_40 d_Tre_partIfDue_145 rfl ⟨by decide, by decide⟩ ⟨by decide, by decide⟩ (Nat.le_of_ble_eq_true rfl) (fun σ38 hp40 => ?_)
            have hf41 := (show σ38 (8 + t) = σ20 (8 + t) by rw [hp40, va_up_ne _ _ (by omega)]).trans hf23
            have hf42 := (show σ38 (18 + t) = σ20 (18 + t) by rw [hp40, va_up_ne _ _ (by omega)]).trans hf24
            have hf43 := (show σ38 (b) = σ20 (b) by rw [hp40, va_up_ne _ _ (by omega)]).trans hf25
            have hf44 := (show σ38 (3) = σ20 (3) by rw [hp40, va_up_ne _ _ (by omega)]).trans hf26
            have hf45 := (show σ38 (2) = σ20 (2) by rw [hp40, va_up_ne _ _ (by omega)]).trans hf27
            have hf46 := (show σ38 (1) = σ20 (1) by rw [hp40, va_up_ne _ _ (by omega)]).trans hf28
            have hf47 := (show σ38 (6) = σ20 (6) by rw [hp40, va_up_ne _ _ (by omega)]).trans hf29
            have hf48 := (show σ38 (7) = σ20 (7) by rw [hp40, va_up_ne _ _ (by omega)]).trans hf30
            have hf49 := (show σ38 (b + 1) = σ20 (b + 1) by rw [hp40, va_up_ne _ _ (by omega)]).trans hcb
            have hTy : pTab G ad σ38 n val cl so rC rK rL := hTx.up (fun i9 hi9 => by rw [hp40, va_up_ne _ _ (by omega)])
            refine v_aload_n hX d_Tre_partIfDue_148 4 rfl ?_
            refine v_aload hX d_Tre_partIfDue_149 0 rfl ?_
            refine v_aload_n hX d_Tre_partIfDue_151 5 rfl ?_
            refine g_get (i := b) hX hj fl_Tre_48 d_Tre_partIfDue_152 (by omega) hf43 rfl ?_
            refine v_iload_n hX d_Tre_partIfDue_155 2 rfl ?_
            refine v_iconst hX (-1) d_Tre_partIfDue_156 ?_
            refine v_ixor (z := (-1 - (((kLeft rK rL ro c num side) : Nat) : Int))) hX d_Tre_partIfDue_157 (iv_not ((kLeft rK rL ro c num side))) ?_
            refine v_iand (z := (((nd ro (kLeft rK rL ro c num side)) : Nat) : Int)) hX d_Tre_partIfDue_158 (iv_andnot (ro) ((kLeft rK rL ro c num side))) ?_
            refine v_aload_n hX d_Tre_partIfDue_159 5 rfl ?_
            refine g_get (i := b) hX hj fl_Tre_51 d_Tre_partIfDue_160 (by omega) hf43 rfl ?_
            refine v_iconst hX (1) d_Tre_partIfDue_163 ?_
            refine v_iaddN (a := dp) (b := 1) hX d_Tre_partIfDue_164 ?_
            refine g_callVV (As := [.ref (ad (76 + 141 * t + 3 * (sz + 1))), .int (iv ((((nd ro (kLeft rK rL ro c num side)) : Nat) : Int))), .int (iv ((((dp + 1) : Nat) : Int)))]) (st := []) hX hj (i := 8 + t) (by omega) hf41 (m_Tre_begin hj hTy hB t sz ht hf41 (76 + 141 * t + 3 * (sz + 1)) (sz + 1) (by omega) (T (sz + 1)) (ch (sz + 1)) (show σ38 (76 + 141 * t + 3 * (sz + 1)) = nodE ad (76 + 141 * t + 3 * (sz + 1)) (sz + 1) (T (sz + 1)) (ch (sz + 1)) by rw [hp40, va_up_ne _ _ (by omega), hp22, va_up_ne _ _ (by omega), va_up_ne _ _ (by omega), hI.1 _ (by omega) (by omega) (by omega) (by omega)]; exact (r3 (sz + 1) (by omega)).1) (nd ro (kLeft rK rL ro c num side)) hRr ((dp + 1 : Nat) : Int)) cl_Tre_40 d_Tre_partIfDue_165 rfl ⟨by decide, by decide⟩ ⟨by decide, by decide⟩ (Nat.le_of_ble_eq_true rfl) (fun σ51 hp53 => ?_)
            have hf54 := (show σ51 (8 + t) = σ38 (8 + t) by rw [hp53, va_up_ne _ _ (by omega)]).trans hf41
            have hf55 := (show σ51 (18 + t) = σ38 (18 + t) by rw [hp53, va_up_ne _ _ (by omega)]).trans hf42
            have hf56 := (show σ51 (b) = σ38 (b) by rw [hp53, va_up_ne _ _ (by omega)]).trans hf43
            have hf57 := (show σ51 (3) = σ38 (3) by rw [hp53, va_up_ne _ _ (by omega)]).trans hf44
            have hf58 := (show σ51 (2) = σ38 (2) by rw [hp53, va_up_ne _ _ (by omega)]).trans hf45
            have hf59 := (show σ51 (1) = σ38 (1) by rw [hp53, va_up_ne _ _ (by omega)]).trans hf46
            have hf60 := (show σ51 (6) = σ38 (6) by rw [hp53, va_up_ne _ _ (by omega)]).trans hf47
            have hf61 := (show σ51 (7) = σ38 (7) by rw [hp53, va_up_ne _ _ (by omega)]).trans hf48
            have hf62 := (show σ51 (b + 1) = σ38 (b + 1) by rw [hp53, va_up_ne _ _ (by omega)]).trans hf49
            refine v_aload_n hX d_Tre_partIfDue_168 5 rfl ?_
            refine v_aload hX d_Tre_partIfDue_169 1 rfl ?_
            refine g_put (i := b) (fs' := [.int (iv (((k : Nat) : Int))), .ref (ad (b + 1)), .int (iv (((ro : Nat) : Int))), .int (iv (((dp : Nat) : Int))), .int (iv ((T k 4))), .int (iv ((T k 5))), .ref (ad (76 + 141 * t + 3 * sz)), lC ad ((ch k).map (fun q => q + 3)), .int (iv ((T k 8))), .int (iv ((T k 9))), .int (iv ((T k 10))), .int (iv ((T k 11)))]) hX hj pf_Tre_75 d_Tre_partIfDue_171 (by omega) hf56 rfl rfl (Nat.le_of_ble_eq_true rfl) rfl ?_
            obtain ⟨σ63, hs64⟩ : ∃ s9, s9 = va_up σ51 (b) (eO 3 [.int (iv (((k : Nat) : Int))), .ref (ad (b + 1)), .int (iv (((ro : Nat) : Int))), .int (iv (((dp : Nat) : Int))), .int (iv ((T k 4))), .int (iv ((T k 5))), .ref (ad (76 + 141 * t + 3 * sz)), lC ad ((ch k).map (fun q => q + 3)), .int (iv ((T k 8))), .int (iv ((T k 9))), .int (iv ((T k 10))), .int (iv ((T k 11)))]) := ⟨_, rfl⟩
            rw [← hs64]
            have hf65 := (show σ63 (8 + t) = σ51 (8 + t) by rw [hs64, va_up_ne _ _ (by omega)]).trans hf54
            have hf66 := (show σ63 (18 + t) = σ51 (18 + t) by rw [hs64, va_up_ne _ _ (by omega)]).trans hf55
            have hf68 := (show σ63 (3) = σ51 (3) by rw [hs64, va_up_ne _ _ (by omega)]).trans hf57
            have hf69 := (show σ63 (2) = σ51 (2) by rw [hs64, va_up_ne _ _ (by omega)]).trans hf58
            have hf70 := (show σ63 (1) = σ51 (1) by rw [hs64, va_up_ne _ _ (by omega)]).trans hf59
            have hf71 := (show σ63 (6) = σ51 (6) by rw [hs64, va_up_ne _ _ (by omega)]).trans hf60
            have hf72 := (show σ63 (7) = σ51 (7) by rw [hs64, va_up_ne _ _ (by omega)]).trans hf61
            have hf73 := (show σ63 (b + 1) = σ51 (b + 1) by rw [hs64, va_up_ne _ _ (by omega)]).trans hf62
            have hf74 : σ63 (b) = (eO 3 [.int (iv (((k : Nat) : Int))), .ref (ad (b + 1)), .int (iv (((ro : Nat) : Int))), .int (iv (((dp : Nat) : Int))), .int (iv ((T k 4))), .int (iv ((T k 5))), .ref (ad (76 + 141 * t + 3 * sz)), lC ad ((ch k).map (fun q => q + 3)), .int (iv ((T k 8))), .int (iv ((T k 9))), .int (iv ((T k 10))), .int (iv ((T k 11)))]) := by rw [hs64, va_up_self]
            refine v_aload_n hX d_Tre_partIfDue_174 5 rfl ?_
            refine v_aload hX d_Tre_partIfDue_175 0 rfl ?_
            refine v_eq (st' := [.ref (ad (76 + 141 * t + 3 * sz + 3)), .ref (ad b)]) (by rw [show 76 + 141 * t + 3 * (sz + 1) = 76 + 141 * t + 3 * sz + 3 by omega]) ?_
            refine g_put (i := b) (fs' := [.int (iv (((k : Nat) : Int))), .ref (ad (b + 1)), .int (iv (((ro : Nat) : Int))), .int (iv (((dp : Nat) : Int))), .int (iv ((T k 4))), .int (iv ((T k 5))), .ref (ad (76 + 141 * t + 3 * sz)), .ref (ad (76 + 141 * t + 3 * sz + 3)), .int (iv ((T k 8))), .int (iv ((T k 9))), .int (iv ((T k 10))), .int (iv ((T k 11)))]) hX hj pf_Tre_78 d_Tre_partIfDue_177 (by omega) hf74 rfl rfl (Nat.le_of_ble_eq_true rfl) rfl ?_
            obtain ⟨σ75, hs76⟩ : ∃ s9, s9 = va_up σ63 (b) (eO 3 [.int (iv (((k : Nat) : Int))), .ref (ad (b + 1)), .int (iv (((ro : Nat) : Int))), .int (iv (((dp : Nat) : Int))), .int (iv ((T k 4))), .int (iv ((T k 5))), .ref (ad (76 + 141 * t + 3 * sz)), .ref (ad (76 + 141 * t + 3 * sz + 3)), .int (iv ((T k 8))), .int (iv ((T k 9))), .int (iv ((T k 10))), .int (iv ((T k 11)))]) := ⟨_, rfl⟩
            rw [← hs76]
            have hf77 := (show σ75 (8 + t) = σ63 (8 + t) by rw [hs76, va_up_ne _ _ (by omega)]).trans hf65
            have hf78 := (show σ75 (18 + t) = σ63 (18 + t) by rw [hs76, va_up_ne _ _ (by omega)]).trans hf66
            have hf79 := (show σ75 (3) = σ63 (3) by rw [hs76, va_up_ne _ _ (by omega)]).trans hf68
            have hf80 := (show σ75 (2) = σ63 (2) by rw [hs76, va_up_ne _ _ (by omega)]).trans hf69
            have hf81 := (show σ75 (1) = σ63 (1) by rw [hs76, va_up_ne _ _ (by omega)]).trans hf70
            have hf82 := (show σ75 (6) = σ63 (6) by rw [hs76, va_up_ne _ _ (by omega)]).trans hf71
            have hf83 := (show σ75 (7) = σ63 (7) by rw [hs76, va_up_ne _ _ (by omega)]).trans hf72
            have hf84 := (show σ75 (b + 1) = σ63 (b + 1) by rw [hs76, va_up_ne _ _ (by omega)]).trans hf73
            have hf86 : σ75 (b) = (eO 3 [.int (iv (((k : Nat) : Int))), .ref (ad (b + 1)), .int (iv (((ro : Nat) : Int))), .int (iv (((dp : Nat) : Int))), .int (iv ((T k 4))), .int (iv ((T k 5))), .ref (ad (76 + 141 * t + 3 * sz)), .ref (ad (76 + 141 * t + 3 * sz + 3)), .int (iv ((T k 8))), .int (iv ((T k 9))), .int (iv ((T k 10))), .int (iv ((T k 11)))]) := by rw [hs76, va_up_self]
            refine v_aload_n hX d_Tre_partIfDue_180 4 rfl ?_
            refine v_dup hX d_Tre_partIfDue_181 rfl ?_
            refine g_get (i := 8 + t) hX hj fl_Tre_36 d_Tre_partIfDue_182 (by omega) hf77 rfl ?_
            refine v_iconst hX (2) d_Tre_partIfDue_185 ?_
            refine v_iaddN (a := sz) (b := 2) hX d_Tre_partIfDue_186 ?_
            refine g_put (i := 8 + t) (fs' := [.int (iv ((((sz + 2) : Nat) : Int))), .ref (ad 1), .ref (ad 2), .ref (ad 3), .ref (ad (18 + t)), .ref (ad (76 + 141 * t))]) hX hj pf_Tre_36 d_Tre_partIfDue_187 (by omega) hf77 rfl rfl (Nat.le_of_ble_eq_true rfl) rfl ?_
            obtain ⟨σ87, hs88⟩ : ∃ s9, s9 = va_up σ75 (8 + t) (eO 7 [.int (iv ((((sz + 2) : Nat) : Int))), .ref (ad 1), .ref (ad 2), .ref (ad 3), .ref (ad (18 + t)), .ref (ad (76 + 141 * t))]) := ⟨_, rfl⟩
            rw [← hs88]
            have hf90 := (show σ87 (18 + t) = σ75 (18 + t) by rw [hs88, va_up_ne _ _ (by omega)]).trans hf78
            have hf91 := (show σ87 (3) = σ75 (3) by rw [hs88, va_up_ne _ _ (by omega)]).trans hf79
            have hf92 := (show σ87 (2) = σ75 (2) by rw [hs88, va_up_ne _ _ (by omega)]).trans hf80
            have hf93 := (show σ87 (1) = σ75 (1) by rw [hs88, va_up_ne _ _ (by omega)]).trans hf81
            have hf94 := (show σ87 (6) = σ75 (6) by rw [hs88, va_up_ne _ _ (by omega)]).trans hf82
            have hf95 := (show σ87 (7) = σ75 (7) by rw [hs88, va_up_ne _ _ (by omega)]).trans hf83
            have hf96 := (show σ87 (b + 1) = σ75 (b + 1) by rw [hs88, va_up_ne _ _ (by omega)]).trans hf84
            have hf97 := (show σ87 (b) = σ75 (b) by rw [hs88, va_up_ne _ _ (by omega)]).trans hf86
            have hf98 : σ87 (8 + t) = (eO 7 [.int (iv ((((sz + 2) : Nat) : Int))), .ref (ad 1), .ref (ad 2), .ref (ad 3), .ref (ad (18 + t)), .ref (ad (76 + 141 * t))]) := by rw [hs88, va_up_self]
            exact hret _ _ _ d_Tre_partIfDue_190 ⟨_, rfl, Or.inr ⟨by omega, B, σ2, hBe, hI, Or.inr ⟨by omega, c, num, side, hc4, hn4, hs4, e1, e2, e3, by rw [hs88, hs76, hs64, hp53, hp40, hp22, bx_uu, ← h2, ← h3]; rfl⟩⟩⟩
          · have z13e : z13 = 0 := hv18.trans (if_neg qz13)
            subst z13e
            refine v_if_ne (tgt := 71) hX d_Tre_partIfDue_67 (by decide) (by first | assumption | (unfold ir; omega)) (fun c9 => absurd c9 (by omega)) (fun c9 => ?_)
            exact hret _ _ _ d_Tre_partIfDue_70 ⟨_, rfl, Or.inr ⟨by omega, B, _, hBe, hI, Or.inl ⟨by omega, rfl⟩⟩⟩
      · exact hret _ _ _ d_Tre_partIfDue_32 ⟨_, rfl, Or.inl ⟨by omega, rfl⟩⟩
