/-! TREES; by program -/
set_option maxHeartbeats 1000000 in
set_option maxRecDepth 100000 in
theorem m_Tre_find {G : xG} {f0 : xF} {ad : Nat → Nat} (hj : adOk ad 400) {σ : xF} (t : Nat) (ht : t ≤ 1) (sz : Nat) (hz : sz ≤ 47) (T : Nat → Nat → Int) (ch : Nat → Option Nat) (hTr : pTre G ad σ t sz T ch) (k : Int) (hk : ir k) : ∀ l, gR l G f0 ad 400 y_Tre_find (.code y_Tre_find c_Tre_find 2 (some (.object "BestSplits$Node"))) rm_Tre_find [.ref (ad (8 + t)), .int (iv (k))] σ (fun r σ' => σ' = σ ∧ r = (if 0 ≤ k ∧ k < sz then some (ad (76 + 141 * t + 3 * k.toNat)) else none)) := by
  intro l
  refine mR_of (rt := .object "BestSplits$Node") (Or.inl ⟨_, rfl⟩) (by decide) (Nat.le_of_ble_eq_true rfl) (fun X hX hret => ?_)
  show vV G X 0 0 0 [(0, .ref (ad (8 + t))), (1, .int (iv (k)))] [] (ov f0 ad 400 σ)
  obtain ⟨r1, r2, r3⟩ := id hTr
  refine v_iload_n hX d_Tre_find_0 1 rfl ?_
  refine v_if_lt (tgt := 27) hX d_Tre_find_1 (by decide) (by first | assumption | (unfold ir at *; omega)) (fun c1_1 => ?_) (fun c1_1 => ?_)
  · refine v_null hX d_Tre_find_27 ?_
    exact hret _ _ none _ d_Tre_find_28 ⟨_, rfl, rfl, (if_neg (by omega)).symm⟩
  · refine v_iload_n hX d_Tre_find_4 1 rfl ?_
    refine v_aload_n hX d_Tre_find_5 0 rfl ?_
    refine g_get (i := 8 + t) hX hj fl_Tre_36 d_Tre_find_6 (by omega) r1 rfl ?_
    refine v_icmp_ge (tgt := 27) hX d_Tre_find_9 (by decide) (by first | assumption | (unfold ir at *; omega)) (by first | assumption | (unfold ir at *; omega)) (fun c9_2 => ?_) (fun c9_2 => ?_)
    · refine v_null hX d_Tre_find_27 ?_
      exact hret _ _ none _ d_Tre_find_28 ⟨_, rfl, rfl, (if_neg (by omega)).symm⟩
    · refine v_iload_n hX d_Tre_find_12 1 rfl ?_
      refine v_bipush hX (47) d_Tre_find_13 rfl ?_
      refine v_icmp_ge (tgt := 27) hX d_Tre_find_15 (by decide) (by first | assumption | (unfold ir at *; omega)) (by first | assumption | (unfold ir at *; omega)) (fun c15_3 => absurd c15_3 (by omega)) (fun c15_3 => ?_)
      refine v_aload_n hX d_Tre_find_18 0 rfl ?_
      refine g_get (i := 8 + t) hX hj fl_Tre_11 d_Tre_find_19 (by omega) r1 rfl ?_
      refine v_iload_n hX d_Tre_find_22 1 rfl ?_
      refine g_aald (i := 18 + t) hX hj d_Tre_find_23 (by omega) r2 rfl (by decide) (Int.toNat (k)) (by omega) (by omega) (if_pos (by omega)) ?_
      refine v_goto (tgt := 28) hX d_Tre_find_24 (by decide) ?_
      exact hret _ _ (some _) _ d_Tre_find_28 ⟨_, rfl, rfl, (if_pos (by omega)).symm⟩

set_option maxHeartbeats 1000000 in
set_option maxRecDepth 100000 in
theorem m_Tre_begin {G : xG} {f0 : xF} {ad : Nat → Nat} (hj : adOk ad 400) {σ : xF} {n : Nat} {val : Nat → Nat → Int} {cl so rC rK : Nat → Nat} {rL : Nat → Nat → Nat} (hT : pTab G ad σ n val cl so rC rK rL) (hB : bTab n cl so rC rK rL) (t sz : Nat) (ht : t ≤ 1) (r1 : σ (8 + t) = eO 7 [.int (iv sz), .ref (ad 1), .ref (ad 2), .ref (ad 3), .ref (ad (18 + t)), .ref (ad (76 + 141 * t))]) (b num : Nat) (bM : 76 ≤ b ∧ b + 2 < 400) (F : Nat → Int) (c0 : Option Nat) (hN : σ b = nodE ad b num F c0) (rows : Nat) (hR : rows < 16777216) (dep : Int) : ∀ l, gVo l G f0 ad 400 y_Tre_begin (.code y_Tre_begin c_Tre_begin 4 none) rm_Tre_begin [.ref (ad (8 + t)), .ref (ad b), .int (iv (((rows : Nat) : Int))), .int (iv (dep))] σ (fun σ' => σ' = va_up σ b (nodE ad b num (fBeg rC F rows dep) none)) := by
  intro l
  refine mV_of (by decide) (Nat.le_of_ble_eq_true rfl) (fun X hX hret => ?_)
  show vV G X 0 0 0 [(0, .ref (ad (8 + t))), (1, .ref (ad b)), (2, .int (iv (((rows : Nat) : Int)))), (3, .int (iv (dep)))] [] (ov f0 ad 400 σ)
  refine v_aload_n hX d_Tre_begin_0 1 rfl ?_
  refine v_iload_n hX d_Tre_begin_1 2 rfl ?_
  refine g_put (i := b) (fs' := [.int (iv (((num : Nat) : Int))), .ref (ad (b + 1)), .int (iv (((rows : Nat) : Int))), .int (iv ((F 3))), .int (iv ((F 4))), .int (iv ((F 5))), lC ad c0, lC ad (c0.map (fun q => q + 3)), .int (iv ((F 8))), .int (iv ((F 9))), .int (iv ((F 10))), .int (iv ((F 11)))]) hX hj pf_Tre_48 d_Tre_begin_2 (by omega) hN rfl rfl (Nat.le_of_ble_eq_true rfl) rfl ?_
  obtain ⟨σ1, hs2⟩ : ∃ s9, s9 = va_up σ (b) (eO 3 [.int (iv (((num : Nat) : Int))), .ref (ad (b + 1)), .int (iv (((rows : Nat) : Int))), .int (iv ((F 3))), .int (iv ((F 4))), .int (iv ((F 5))), lC ad c0, lC ad (c0.map (fun q => q + 3)), .int (iv ((F 8))), .int (iv ((F 9))), .int (iv ((F 10))), .int (iv ((F 11)))]) := ⟨_, rfl⟩
  rw [← hs2]
  have hf3 := (show σ1 (8 + t) = σ (8 + t) by rw [hs2, va_up_ne _ _ (by omega)]).trans r1
  have hf5 : σ1 (b) = (eO 3 [.int (iv (((num : Nat) : Int))), .ref (ad (b + 1)), .int (iv (((rows : Nat) : Int))), .int (iv ((F 3))), .int (iv ((F 4))), .int (iv ((F 5))), lC ad c0, lC ad (c0.map (fun q => q + 3)), .int (iv ((F 8))), .int (iv ((F 9))), .int (iv ((F 10))), .int (iv ((F 11)))]) := by rw [hs2, va_up_self]
  refine v_aload_n hX d_Tre_begin_5 1 rfl ?_
  refine v_iload_n hX d_Tre_begin_6 3 rfl ?_
  refine g_put (i := b) (fs' := [.int (iv (((num : Nat) : Int))), .ref (ad (b + 1)), .int (iv (((rows : Nat) : Int))), .int (iv (dep)), .int (iv ((F 4))), .int (iv ((F 5))), lC ad c0, lC ad (c0.map (fun q => q + 3)), .int (iv ((F 8))), .int (iv ((F 9))), .int (iv ((F 10))), .int (iv ((F 11)))]) hX hj pf_Tre_51 d_Tre_begin_7 (by omega) hf5 rfl rfl (Nat.le_of_ble_eq_true rfl) rfl ?_
  obtain ⟨σ6, hs7⟩ : ∃ s9, s9 = va_up σ1 (b) (eO 3 [.int (iv (((num : Nat) : Int))), .ref (ad (b + 1)), .int (iv (((rows : Nat) : Int))), .int (iv (dep)), .int (iv ((F 4))), .int (iv ((F 5))), lC ad c0, lC ad (c0.map (fun q => q + 3)), .int (iv ((F 8))), .int (iv ((F 9))), .int (iv ((F 10))), .int (iv ((F 11)))]) := ⟨_, rfl⟩
  rw [← hs7]
  have hf8 := (show σ6 (8 + t) = σ1 (8 + t) by rw [hs7, va_up_ne _ _ (by omega)]).trans hf3
  have hf10 : σ6 (b) = (eO 3 [.int (iv (((num : Nat) : Int))), .ref (ad (b + 1)), .int (iv (((rows : Nat) : Int))), .int (iv (dep)), .int (iv ((F 4))), .int (iv ((F 5))), lC ad c0, lC ad (c0.map (fun q => q + 3)), .int (iv ((F 8))), .int (iv ((F 9))), .int (iv ((F 10))), .int (iv ((F 11)))]) := by rw [hs7, va_up_self]
  refine v_aload_n hX d_Tre_begin_10 1 rfl ?_
  have hTa : pTab G ad σ6 n val cl so rC rK rL := hT.up (fun i9 hi9 => by rw [hs7, va_up_ne _ _ (by omega), hs2, va_up_ne _ _ (by omega)])
  refine v_aload_n hX d_Tre_begin_11 0 rfl ?_
  refine g_get (i := 8 + t) hX hj fl_Tre_17 d_Tre_begin_12 (by omega) hf8 rfl ?_
  refine v_iload_n hX d_Tre_begin_15 2 rfl ?_
  refine g_callVI (As := [.int (iv (((rows : Nat) : Int)))]) (st := [.ref (ad b)]) hX hj (i := 1) (by omega) hTa.1 (m_Tab_labelOf hj hTa hB rows hR) cl_Tre_54 d_Tre_begin_16 rfl ⟨by decide, by decide⟩ ⟨by decide, by decide⟩ (Nat.le_of_ble_eq_true rfl) (fun z11 σ12 hz13 hp14 => ?_)
  obtain ⟨he15, hv16⟩ := hp14
  rw [he15]
  subst hv16
  refine g_put (i := b) (fs' := [.int (iv (((num : Nat) : Int))), .ref (ad (b + 1)), .int (iv (((rows : Nat) : Int))), .int (iv (dep)), .int (iv ((((kLab rC rows) : Nat) : Int))), .int (iv ((F 5))), lC ad c0, lC ad (c0.map (fun q => q + 3)), .int (iv ((F 8))), .int (iv ((F 9))), .int (iv ((F 10))), .int (iv ((F 11)))]) hX hj pf_Tre_60 d_Tre_begin_19 (by omega) hf10 rfl rfl (Nat.le_of_ble_eq_true rfl) rfl ?_
  obtain ⟨σ17, hs18⟩ : ∃ s9, s9 = va_up σ6 (b) (eO 3 [.int (iv (((num : Nat) : Int))), .ref (ad (b + 1)), .int (iv (((rows : Nat) : Int))), .int (iv (dep)), .int (iv ((((kLab rC rows) : Nat) : Int))), .int (iv ((F 5))), lC ad c0, lC ad (c0.map (fun q => q + 3)), .int (iv ((F 8))), .int (iv ((F 9))), .int (iv ((F 10))), .int (iv ((F 11)))]) := ⟨_, rfl⟩
  rw [← hs18]
  have hf19 := (show σ17 (8 + t) = σ6 (8 + t) by rw [hs18, va_up_ne _ _ (by omega)]).trans hf8
  have hf21 := (show σ17 (1) = σ6 (1) by rw [hs18, va_up_ne _ _ (by omega)]).trans hTa.1
  have hf22 : σ17 (b) = (eO 3 [.int (iv (((num : Nat) : Int))), .ref (ad (b + 1)), .int (iv (((rows : Nat) : Int))), .int (iv (dep)), .int (iv ((((kLab rC rows) : Nat) : Int))), .int (iv ((F 5))), lC ad c0, lC ad (c0.map (fun q => q + 3)), .int (iv ((F 8))), .int (iv ((F 9))), .int (iv ((F 10))), .int (iv ((F 11)))]) := by rw [hs18, va_up_self]
  refine v_aload_n hX d_Tre_begin_22 1 rfl ?_
  refine v_iload_n hX d_Tre_begin_23 2 rfl ?_
  refine g_callSI (As := [.int (iv (((rows : Nat) : Int)))]) (st := [.ref (ad b)]) hX (k0_Int_bitCount rows hR) cl_Tre_63 d_Tre_begin_24 rfl ⟨by decide, by decide⟩ ⟨by decide, by decide⟩ (Nat.le_of_ble_eq_true rfl) (fun z23 hz24 hp25 => ?_)
  subst hp25
  have hTb : pTab G ad σ17 n val cl so rC rK rL := hT.up (fun i9 hi9 => by rw [hs18, va_up_ne _ _ (by omega), hs7, va_up_ne _ _ (by omega), hs2, va_up_ne _ _ (by omega)])
  refine v_aload_n hX d_Tre_begin_27 0 rfl ?_
  refine g_get (i := 8 + t) hX hj fl_Tre_17 d_Tre_begin_28 (by omega) hf19 rfl ?_
  refine v_iload_n hX d_Tre_begin_31 2 rfl ?_
  refine v_aload_n hX d_Tre_begin_32 1 rfl ?_
  refine g_get (i := b) hX hj fl_Tre_60 d_Tre_begin_33 (by omega) hf22 rfl ?_
  refine g_callVI (As := [.int (iv (((rows : Nat) : Int))), .int (iv ((((kLab rC rows) : Nat) : Int)))]) (st := [.int (iv ((((cnt rows) : Nat) : Int))), .ref (ad b)]) hX hj (i := 1) (by omega) hTb.1 (m_Tab_countOf hj hTb hB rows (kLab rC rows) hR (kLab_lt rC rows)) cl_Tre_68 d_Tre_begin_36 rfl ⟨by decide, by decide⟩ ⟨by decide, by decide⟩ (Nat.le_of_ble_eq_true rfl) (fun z26 σ27 hz28 hp29 => ?_)
  obtain ⟨he30, hv31⟩ := hp29
  rw [he30]
  subst hv31
  refine v_isub hX d_Tre_begin_39 ?_
  refine g_put (i := b) (fs' := [.int (iv (((num : Nat) : Int))), .ref (ad (b + 1)), .int (iv (((rows : Nat) : Int))), .int (iv (dep)), .int (iv ((((kLab rC rows) : Nat) : Int))), .int (iv (((((cnt rows) : Nat) : Int) - (((kCnt rC rows (kLab rC rows)) : Nat) : Int)))), lC ad c0, lC ad (c0.map (fun q => q + 3)), .int (iv ((F 8))), .int (iv ((F 9))), .int (iv ((F 10))), .int (iv ((F 11)))]) hX hj pf_Tre_72 d_Tre_begin_40 (by omega) hf22 rfl rfl (Nat.le_of_ble_eq_true rfl) rfl ?_
  obtain ⟨σ32, hs33⟩ : ∃ s9, s9 = va_up σ17 (b) (eO 3 [.int (iv (((num : Nat) : Int))), .ref (ad (b + 1)), .int (iv (((rows : Nat) : Int))), .int (iv (dep)), .int (iv ((((kLab rC rows) : Nat) : Int))), .int (iv (((((cnt rows) : Nat) : Int) - (((kCnt rC rows (kLab rC rows)) : Nat) : Int)))), lC ad c0, lC ad (c0.map (fun q => q + 3)), .int (iv ((F 8))), .int (iv ((F 9))), .int (iv ((F 10))), .int (iv ((F 11)))]) := ⟨_, rfl⟩
  rw [← hs33]
  have hf34 := (show σ32 (8 + t) = σ17 (8 + t) by rw [hs33, va_up_ne _ _ (by omega)]).trans hf19
  have hf35 := (show σ32 (1) = σ17 (1) by rw [hs33, va_up_ne _ _ (by omega)]).trans hTb.1
  have hf37 : σ32 (b) = (eO 3 [.int (iv (((num : Nat) : Int))), .ref (ad (b + 1)), .int (iv (((rows : Nat) : Int))), .int (iv (dep)), .int (iv ((((kLab rC rows) : Nat) : Int))), .int (iv (((((cnt rows) : Nat) : Int) - (((kCnt rC rows (kLab rC rows)) : Nat) : Int)))), lC ad c0, lC ad (c0.map (fun q => q + 3)), .int (iv ((F 8))), .int (iv ((F 9))), .int (iv ((F 10))), .int (iv ((F 11)))]) := by rw [hs33, va_up_self]
  refine v_aload_n hX d_Tre_begin_43 1 rfl ?_
  refine v_null hX d_Tre_begin_44 ?_
  refine g_put (i := b) (fs' := [.int (iv (((num : Nat) : Int))), .ref (ad (b + 1)), .int (iv (((rows : Nat) : Int))), .int (iv (dep)), .int (iv ((((kLab rC rows) : Nat) : Int))), .int (iv (((((cnt rows) : Nat) : Int) - (((kCnt rC rows (kLab rC rows)) : Nat) : Int)))), .null, lC ad (c0.map (fun q => q + 3)), .int (iv ((F 8))), .int (iv ((F 9))), .int (iv ((F 10))), .int (iv ((F 11)))]) hX hj pf_Tre_75 d_Tre_begin_45 (by omega) hf37 rfl rfl (Nat.le_of_ble_eq_true rfl) rfl ?_
  obtain ⟨σ38, hs39⟩ : ∃ s9, s9 = va_up σ32 (b) (eO 3 [.int (iv (((num : Nat) : Int))), .ref (ad (b + 1)), .int (iv (((rows : Nat) : Int))), .int (iv (dep)), .int (iv ((((kLab rC rows) : Nat) : Int))), .int (iv (((((cnt rows) : Nat) : Int) - (((kCnt rC rows (kLab rC rows)) : Nat) : Int)))), .null, lC ad (c0.map (fun q => q + 3)), .int (iv ((F 8))), .int (iv ((F 9))), .int (iv ((F 10))), .int (iv ((F 11)))]) := ⟨_, rfl⟩
  rw [← hs39]
  have hf40 := (show σ38 (8 + t) = σ32 (8 + t) by rw [hs39, va_up_ne _ _ (by omega)]).trans hf34
  have hf41 := (show σ38 (1) = σ32 (1) by rw [hs39, va_up_ne _ _ (by omega)]).trans hf35
  have hf43 : σ38 (b) = (eO 3 [.int (iv (((num : Nat) : Int))), .ref (ad (b + 1)), .int (iv (((rows : Nat) : Int))), .int (iv (dep)), .int (iv ((((kLab rC rows) : Nat) : Int))), .int (iv (((((cnt rows) : Nat) : Int) - (((kCnt rC rows (kLab rC rows)) : Nat) : Int)))), .null, lC ad (c0.map (fun q => q + 3)), .int (iv ((F 8))), .int (iv ((F 9))), .int (iv ((F 10))), .int (iv ((F 11)))]) := by rw [hs39, va_up_self]
  refine v_aload_n hX d_Tre_begin_48 1 rfl ?_
  refine v_null hX d_Tre_begin_49 ?_
  refine g_put (i := b) (fs' := [.int (iv (((num : Nat) : Int))), .ref (ad (b + 1)), .int (iv (((rows : Nat) : Int))), .int (iv (dep)), .int (iv ((((kLab rC rows) : Nat) : Int))), .int (iv (((((cnt rows) : Nat) : Int) - (((kCnt rC rows (kLab rC rows)) : Nat) : Int)))), .null, .null, .int (iv ((F 8))), .int (iv ((F 9))), .int (iv ((F 10))), .int (iv ((F 11)))]) hX hj pf_Tre_78 d_Tre_begin_50 (by omega) hf43 rfl rfl (Nat.le_of_ble_eq_true rfl) rfl ?_
  obtain ⟨σ44, hs45⟩ : ∃ s9, s9 = va_up σ38 (b) (eO 3 [.int (iv (((num : Nat) : Int))), .ref (ad (b + 1)), .int (iv (((rows : Nat) : Int))), .int (iv (dep)), .int (iv ((((kLab rC rows) : Nat) : Int))), .int (iv (((((cnt rows) : Nat) : Int) - (((kCnt rC rows (kLab rC rows)) : Nat) : Int)))), .null, .null, .int (iv ((F 8))), .int (iv ((F 9))), .int (iv ((F 10))), .int (iv ((F 11)))]) := ⟨_, rfl⟩
  rw [← hs45]
  have hf46 := (show σ44 (8 + t) = σ38 (8 + t) by rw [hs45, va_up_ne _ _ (by omega)]).trans hf40
  have hf47 := (show σ44 (1) = σ38 (1) by rw [hs45, va_up_ne _ _ (by omega)]).trans hf41
  have hf49 : σ44 (b) = (eO 3 [.int (iv (((num : Nat) : Int))), .ref (ad (b + 1)), .int (iv (((rows : Nat) : Int))), .int (iv (dep)), .int (iv ((((kLab rC rows) : Nat) : Int))), .int (iv (((((cnt rows) : Nat) : Int) - (((kCnt rC rows (kLab rC rows)) : Nat) : Int)))), .null, .null, .int (iv ((F 8))), .int (iv ((F 9))), .int (iv ((F 10))), .int (iv ((F 11)))]) := by rw [hs45, va_up_self]
  exact hret _ _ _ d_Tre_begin_53 ⟨_, rfl, (by rw [hs45, hs39, hs33, hs18, hs7, hs2, bx_uu, bx_uu, bx_uu, bx_uu, bx_uu]; rfl)⟩
