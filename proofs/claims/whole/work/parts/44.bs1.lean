/-! THE CLASS'S OWN METHODS; by program -/
set_option maxHeartbeats 1000000 in
set_option maxRecDepth 100000 in
theorem m_Bs_ask {G : xG} {f0 : xF} {ad : Nat → Nat} (hj : adOk ad 400) {σ : xF} (cg lo : Int) (hBs : σ 0 = bsE ad cg lo) (g : Nat → Int) (hg : σ 11 = eJ G 4 g) (a b c d : Int) : ∀ l, gVo l G f0 ad 400 y_Bs_ask (.code y_Bs_ask c_Bs_ask 5 none) rm_Bs_ask [.ref (ad 0), .int (iv (a)), .int (iv (b)), .int (iv (c)), .int (iv (d))] σ (fun σ' => σ' = va_up σ 11 (eJ G 4 (as4 g a b c d))) := by
  intro l
  refine mV_of (by decide) (Nat.le_of_ble_eq_true rfl) (fun X hX hret => ?_)
  show vV G X 0 0 0 [(0, .ref (ad 0)), (1, .int (iv (a))), (2, .int (iv (b))), (3, .int (iv (c))), (4, .int (iv (d)))] [] (ov f0 ad 400 σ)
  refine v_aload_n hX d_Bs_ask_0 0 rfl ?_
  refine g_get (i := 0) hX hj fl_Bs_53 d_Bs_ask_1 (by omega) hBs rfl ?_
  refine v_iconst hX (0) d_Bs_ask_4 ?_
  refine v_iload_n hX d_Bs_ask_5 1 rfl ?_
  refine g_iast (i := 11) hX hj d_Bs_ask_6 (by omega) hg (by decide) (0) rfl (by omega) ?_
  obtain ⟨σ1, hs2⟩ : ∃ s9, s9 = va_up σ (11) (eJ G 4 (va_up g (0) (a))) := ⟨_, rfl⟩
  rw [← hs2]
  have hf3 := (show σ1 (0) = σ (0) by rw [hs2, va_up_ne _ _ (by omega)]).trans hBs
  have hf5 : σ1 (11) = (eJ G 4 (va_up g (0) (a))) := by rw [hs2, va_up_self]
  refine v_aload_n hX d_Bs_ask_7 0 rfl ?_
  refine g_get (i := 0) hX hj fl_Bs_53 d_Bs_ask_8 (by omega) hf3 rfl ?_
  refine v_iconst hX (1) d_Bs_ask_11 ?_
  refine v_iload_n hX d_Bs_ask_12 2 rfl ?_
  refine g_iast (i := 11) hX hj d_Bs_ask_13 (by omega) hf5 (by decide) (1) rfl (by omega) ?_
  obtain ⟨σ6, hs7⟩ : ∃ s9, s9 = va_up σ1 (11) (eJ G 4 (va_up (va_up g (0) (a)) (1) (b))) := ⟨_, rfl⟩
  rw [← hs7]
  have hf8 := (show σ6 (0) = σ1 (0) by rw [hs7, va_up_ne _ _ (by omega)]).trans hf3
  have hf10 : σ6 (11) = (eJ G 4 (va_up (va_up g (0) (a)) (1) (b))) := by rw [hs7, va_up_self]
  refine v_aload_n hX d_Bs_ask_14 0 rfl ?_
  refine g_get (i := 0) hX hj fl_Bs_53 d_Bs_ask_15 (by omega) hf8 rfl ?_
  refine v_iconst hX (2) d_Bs_ask_18 ?_
  refine v_iload_n hX d_Bs_ask_19 3 rfl ?_
  refine g_iast (i := 11) hX hj d_Bs_ask_20 (by omega) hf10 (by decide) (2) rfl (by omega) ?_
  obtain ⟨σ11, hs12⟩ : ∃ s9, s9 = va_up σ6 (11) (eJ G 4 (va_up (va_up (va_up g (0) (a)) (1) (b)) (2) (c))) := ⟨_, rfl⟩
  rw [← hs12]
  have hf13 := (show σ11 (0) = σ6 (0) by rw [hs12, va_up_ne _ _ (by omega)]).trans hf8
  have hf15 : σ11 (11) = (eJ G 4 (va_up (va_up (va_up g (0) (a)) (1) (b)) (2) (c))) := by rw [hs12, va_up_self]
  refine v_aload_n hX d_Bs_ask_21 0 rfl ?_
  refine g_get (i := 0) hX hj fl_Bs_53 d_Bs_ask_22 (by omega) hf13 rfl ?_
  refine v_iconst hX (3) d_Bs_ask_25 ?_
  refine v_iload hX d_Bs_ask_26 4 rfl ?_
  refine g_iast (i := 11) hX hj d_Bs_ask_28 (by omega) hf15 (by decide) (3) rfl (by omega) ?_
  obtain ⟨σ16, hs17⟩ : ∃ s9, s9 = va_up σ11 (11) (eJ G 4 (va_up (va_up (va_up (va_up g (0) (a)) (1) (b)) (2) (c)) (3) (d))) := ⟨_, rfl⟩
  rw [← hs17]
  have hf18 := (show σ16 (0) = σ11 (0) by rw [hs17, va_up_ne _ _ (by omega)]).trans hf13
  have hf20 : σ16 (11) = (eJ G 4 (va_up (va_up (va_up (va_up g (0) (a)) (1) (b)) (2) (c)) (3) (d))) := by rw [hs17, va_up_self]
  exact hret _ _ _ d_Bs_ask_29 ⟨_, rfl, (by rw [hs17, hs12, hs7, hs2, bx_uu, bx_uu, bx_uu]; rfl)⟩

set_option maxHeartbeats 1000000 in
set_option maxRecDepth 100000 in
theorem m_Bs_noteChange {G : xG} {f0 : xF} {ad : Nat → Nat} (hj : adOk ad 400) {σ : xF} (cg lo : Int) (hBs : σ 0 = bsE ad cg lo) : ∀ l, gVo l G f0 ad 400 y_Bs_noteChange (.code y_Bs_noteChange c_Bs_noteChange 1 none) rm_Bs_noteChange [.ref (ad 0)] σ (fun σ' => σ' = va_up σ 0 (bsE ad 1 (-1))) := by
  intro l
  refine mV_of (by decide) (Nat.le_of_ble_eq_true rfl) (fun X hX hret => ?_)
  show vV G X 0 0 0 [(0, .ref (ad 0))] [] (ov f0 ad 400 σ)
  refine v_aload_n hX d_Bs_noteChange_0 0 rfl ?_
  refine v_iconst hX (1) d_Bs_noteChange_1 ?_
  refine g_put (i := 0) (fs' := [.ref (ad 1), .ref (ad 2), .ref (ad 3), .ref (ad 8), .ref (ad 9), .ref (ad 10), .ref (ad 11), .int (iv (1)), .int (iv (lo))]) hX hj pf_Bs_57 d_Bs_noteChange_2 (by omega) hBs rfl rfl (Nat.le_of_ble_eq_true rfl) rfl ?_
  obtain ⟨σ1, hs2⟩ : ∃ s9, s9 = va_up σ (0) (eO 8 [.ref (ad 1), .ref (ad 2), .ref (ad 3), .ref (ad 8), .ref (ad 9), .ref (ad 10), .ref (ad 11), .int (iv (1)), .int (iv (lo))]) := ⟨_, rfl⟩
  rw [← hs2]
  have hf4 : σ1 (0) = (eO 8 [.ref (ad 1), .ref (ad 2), .ref (ad 3), .ref (ad 8), .ref (ad 9), .ref (ad 10), .ref (ad 11), .int (iv (1)), .int (iv (lo))]) := by rw [hs2, va_up_self]
  refine v_aload_n hX d_Bs_noteChange_5 0 rfl ?_
  refine v_iconst hX (-1) d_Bs_noteChange_6 ?_
  refine g_put (i := 0) (fs' := [.ref (ad 1), .ref (ad 2), .ref (ad 3), .ref (ad 8), .ref (ad 9), .ref (ad 10), .ref (ad 11), .int (iv (1)), .int (iv ((-1)))]) hX hj pf_Bs_61 d_Bs_noteChange_7 (by omega) hf4 rfl rfl (Nat.le_of_ble_eq_true rfl) rfl ?_
  obtain ⟨σ5, hs6⟩ : ∃ s9, s9 = va_up σ1 (0) (eO 8 [.ref (ad 1), .ref (ad 2), .ref (ad 3), .ref (ad 8), .ref (ad 9), .ref (ad 10), .ref (ad 11), .int (iv (1)), .int (iv ((-1)))]) := ⟨_, rfl⟩
  rw [← hs6]
  have hf8 : σ5 (0) = (eO 8 [.ref (ad 1), .ref (ad 2), .ref (ad 3), .ref (ad 8), .ref (ad 9), .ref (ad 10), .ref (ad 11), .int (iv (1)), .int (iv ((-1)))]) := by rw [hs6, va_up_self]
  exact hret _ _ _ d_Bs_noteChange_10 ⟨_, rfl, (by rw [hs6, hs2, bx_uu]; rfl)⟩

set_option maxHeartbeats 1000000 in
set_option maxRecDepth 100000 in
theorem m_Bs_settings {G : xG} {f0 : xF} {ad : Nat → Nat} (hj : adOk ad 400) {σ : xF} (cg lo : Int) (hBs : σ 0 = bsE ad cg lo) (x y v : Int) (hl : σ 2 = eO 2 [.int (iv x), .int (iv y), .int (iv v)]) (d e w : Int) (hd : ir d) (he : ir e) (hw : ir w) : ∀ l, gI l G f0 ad 400 y_Bs_settings (.code y_Bs_settings c_Bs_settings 4 (some (.int))) rm_Bs_settings [.ref (ad 0), .int (iv (d)), .int (iv (e)), .int (iv (w))] σ (fun z σ' => ((0 ≤ d ∧ d ≤ 5 ∧ 1 ≤ e ∧ e ≤ 10 ∧ 0 ≤ w ∧ w ≤ 1000) ∧ z = 1 ∧ σ' = va_up (va_up σ 2 (eO 2 [.int (iv d), .int (iv e), .int (iv w)])) 0 (bsE ad 1 (-1))) ∨ (¬ (0 ≤ d ∧ d ≤ 5 ∧ 1 ≤ e ∧ e ≤ 10 ∧ 0 ≤ w ∧ w ≤ 1000) ∧ z = -2 ∧ σ' = σ)) := by
  intro l
  refine mI_of (rt := .int) (by decide) (Nat.le_of_ble_eq_true rfl) (fun X hX hret => ?_)
  show vV G X 0 0 0 [(0, .ref (ad 0)), (1, .int (iv (d))), (2, .int (iv (e))), (3, .int (iv (w)))] [] (ov f0 ad 400 σ)
  refine v_iload_n hX d_Bs_settings_0 1 rfl ?_
  refine v_if_lt (tgt := 20) hX d_Bs_settings_1 (by decide) (by first | assumption | (unfold ir at *; omega)) (fun c1_1 => ?_) (fun c1_1 => ?_)
  · refine v_bipush hX (-2) d_Bs_settings_20 rfl ?_
    exact hret _ _ _ _ d_Bs_settings_22 (by unfold ir; omega) ⟨_, rfl, Or.inr ⟨by omega, rfl, rfl⟩⟩ rfl
  · refine v_iload_n hX d_Bs_settings_4 1 rfl ?_
    refine v_iconst hX (5) d_Bs_settings_5 ?_
    refine v_icmp_gt (tgt := 20) hX d_Bs_settings_6 (by decide) (by first | assumption | (unfold ir at *; omega)) (by first | assumption | (unfold ir at *; omega)) (fun c6_2 => ?_) (fun c6_2 => ?_)
    · refine v_bipush hX (-2) d_Bs_settings_20 rfl ?_
      exact hret _ _ _ _ d_Bs_settings_22 (by unfold ir; omega) ⟨_, rfl, Or.inr ⟨by omega, rfl, rfl⟩⟩ rfl
    · refine v_iload_n hX d_Bs_settings_9 2 rfl ?_
      refine v_iconst hX (1) d_Bs_settings_10 ?_
      refine v_icmp_lt (tgt := 20) hX d_Bs_settings_11 (by decide) (by first | assumption | (unfold ir at *; omega)) (by first | assumption | (unfold ir at *; omega)) (fun c11_3 => ?_) (fun c11_3 => ?_)
      · refine v_bipush hX (-2) d_Bs_settings_20 rfl ?_
        exact hret _ _ _ _ d_Bs_settings_22 (by unfold ir; omega) ⟨_, rfl, Or.inr ⟨by omega, rfl, rfl⟩⟩ rfl
      · refine v_iload_n hX d_Bs_settings_14 2 rfl ?_
        refine v_bipush hX (10) d_Bs_settings_15 rfl ?_
        refine v_icmp_le (tgt := 23) hX d_Bs_settings_17 (by decide) (by first | assumption | (unfold ir at *; omega)) (by first | assumption | (unfold ir at *; omega)) (fun c17_4 => ?_) (fun c17_4 => ?_)
        · refine v_iload_n hX d_Bs_settings_23 3 rfl ?_
          refine v_if_lt (tgt := 34) hX d_Bs_settings_24 (by decide) (by first | assumption | (unfold ir at *; omega)) (fun c24_5 => ?_) (fun c24_5 => ?_)
          · refine v_bipush hX (-2) d_Bs_settings_34 rfl ?_
            exact hret _ _ _ _ d_Bs_settings_36 (by unfold ir; omega) ⟨_, rfl, Or.inr ⟨by omega, rfl, rfl⟩⟩ rfl
          · refine v_iload_n hX d_Bs_settings_27 3 rfl ?_
            refine v_sipush hX (1000) d_Bs_settings_28 rfl ?_
            refine v_icmp_le (tgt := 37) hX d_Bs_settings_31 (by decide) (by first | assumption | (unfold ir at *; omega)) (by first | assumption | (unfold ir at *; omega)) (fun c31_6 => ?_) (fun c31_6 => ?_)
            · refine v_aload_n hX d_Bs_settings_37 0 rfl ?_
              refine g_get (i := 0) hX hj fl_Bs_19 d_Bs_settings_38 (by omega) hBs rfl ?_
              refine v_iload_n hX d_Bs_settings_41 1 rfl ?_
              refine g_put (i := 2) (fs' := [.int (iv (d)), .int (iv (y)), .int (iv (v))]) hX hj pf_Bs_98 d_Bs_settings_42 (by omega) hl rfl rfl (Nat.le_of_ble_eq_true rfl) rfl ?_
              obtain ⟨σ1, hs2⟩ : ∃ s9, s9 = va_up σ (2) (eO 2 [.int (iv (d)), .int (iv (y)), .int (iv (v))]) := ⟨_, rfl⟩
              rw [← hs2]
              have hf3 := (show σ1 (0) = σ (0) by rw [hs2, va_up_ne _ _ (by omega)]).trans hBs
              have hf5 : σ1 (2) = (eO 2 [.int (iv (d)), .int (iv (y)), .int (iv (v))]) := by rw [hs2, va_up_self]
              refine v_aload_n hX d_Bs_settings_45 0 rfl ?_
              refine g_get (i := 0) hX hj fl_Bs_19 d_Bs_settings_46 (by omega) hf3 rfl ?_
              refine v_iload_n hX d_Bs_settings_49 2 rfl ?_
              refine g_put (i := 2) (fs' := [.int (iv (d)), .int (iv (e)), .int (iv (v))]) hX hj pf_Bs_101 d_Bs_settings_50 (by omega) hf5 rfl rfl (Nat.le_of_ble_eq_true rfl) rfl ?_
              obtain ⟨σ6, hs7⟩ : ∃ s9, s9 = va_up σ1 (2) (eO 2 [.int (iv (d)), .int (iv (e)), .int (iv (v))]) := ⟨_, rfl⟩
              rw [← hs7]
              have hf8 := (show σ6 (0) = σ1 (0) by rw [hs7, va_up_ne _ _ (by omega)]).trans hf3
              have hf10 : σ6 (2) = (eO 2 [.int (iv (d)), .int (iv (e)), .int (iv (v))]) := by rw [hs7, va_up_self]
              refine v_aload_n hX d_Bs_settings_53 0 rfl ?_
              refine g_get (i := 0) hX hj fl_Bs_19 d_Bs_settings_54 (by omega) hf8 rfl ?_
              refine v_iload_n hX d_Bs_settings_57 3 rfl ?_
              refine g_put (i := 2) (fs' := [.int (iv (d)), .int (iv (e)), .int (iv (w))]) hX hj pf_Bs_104 d_Bs_settings_58 (by omega) hf10 rfl rfl (Nat.le_of_ble_eq_true rfl) rfl ?_
              obtain ⟨σ11, hs12⟩ : ∃ s9, s9 = va_up σ6 (2) (eO 2 [.int (iv (d)), .int (iv (e)), .int (iv (w))]) := ⟨_, rfl⟩
              rw [← hs12]
              have hf13 := (show σ11 (0) = σ6 (0) by rw [hs12, va_up_ne _ _ (by omega)]).trans hf8
              have hf15 : σ11 (2) = (eO 2 [.int (iv (d)), .int (iv (e)), .int (iv (w))]) := by rw [hs12, va_up_self]
              refine v_aload_n hX d_Bs_settings_61 0 rfl ?_
              refine g_callVV (As := []) (st := []) hX hj (i := 0) (by omega) hf13 (m_Bs_noteChange hj cg lo hf13) cl_Bs_72 d_Bs_settings_62 rfl ⟨by decide, by decide⟩ ⟨by decide, by decide⟩ (Nat.le_of_ble_eq_true rfl) (fun σ17 hp19 => ?_)
              refine v_iconst hX (1) d_Bs_settings_65 ?_
              exact hret _ _ _ _ d_Bs_settings_66 (by unfold ir; omega) ⟨_, rfl, Or.inl ⟨by omega, rfl, by rw [hp19, hs12, hs7, hs2, bx_uu, bx_uu]⟩⟩ rfl
            · refine v_bipush hX (-2) d_Bs_settings_34 rfl ?_
              exact hret _ _ _ _ d_Bs_settings_36 (by unfold ir; omega) ⟨_, rfl, Or.inr ⟨by omega, rfl, rfl⟩⟩ rfl
        · refine v_bipush hX (-2) d_Bs_settings_20 rfl ?_
          exact hret _ _ _ _ d_Bs_settings_22 (by unfold ir; omega) ⟨_, rfl, Or.inr ⟨by omega, rfl, rfl⟩⟩ rfl
