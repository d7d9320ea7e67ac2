/-! STAGES; by program -/
set_option maxHeartbeats 1000000 in
set_option maxRecDepth 100000 in
theorem m_Pru_has {G : xG} {f0 : xF} {ad : Nat → Nat} (hj : adOk ad 400) {σ : xF} {ps : Nat} {lc ws al be : Nat → Int} (hP : pPru G ad σ ps lc ws al be) (hps : ps ≤ 24) (s : Int) (hs : ir s) : ∀ l, gI l G f0 ad 400 y_Pru_has (.code y_Pru_has c_Pru_has 2 (some (.boolean))) rm_Pru_has [.ref (ad 10), .int (iv (s))] σ (fun z σ' => σ' = σ ∧ z = pI (0 ≤ s ∧ s < ps)) := by
  intro l
  refine mI_of (rt := .boolean) (by decide) (Nat.le_of_ble_eq_true rfl) (fun X hX hret => ?_)
  show vV G X 0 0 0 [(0, .ref (ad 10)), (1, .int (iv (s)))] [] (ov f0 ad 400 σ)
  obtain ⟨p1, p2, p3, p4, p5, p6⟩ := id hP
  refine v_iload_n hX d_Pru_has_0 1 rfl ?_
  refine v_if_lt (tgt := 22) hX d_Pru_has_1 (by decide) (by first | assumption | (unfold ir at *; omega)) (fun c1_1 => ?_) (fun c1_1 => ?_)
  · refine v_iconst hX (0) d_Pru_has_22 ?_
    exact hret _ _ _ _ d_Pru_has_23 (by first | assumption | (unfold ir at *; omega)) ⟨_, rfl, rfl, (pI_f (by omega))⟩ rfl
  · refine v_iload_n hX d_Pru_has_4 1 rfl ?_
    refine v_aload_n hX d_Pru_has_5 0 rfl ?_
    refine g_get (i := 10) hX hj fl_Pru_33 d_Pru_has_6 (by omega) p1 rfl ?_
    refine v_icmp_ge (tgt := 22) hX d_Pru_has_9 (by decide) (by first | assumption | (unfold ir at *; omega)) (by first | assumption | (unfold ir at *; omega)) (fun c9_2 => ?_) (fun c9_2 => ?_)
    · refine v_iconst hX (0) d_Pru_has_22 ?_
      exact hret _ _ _ _ d_Pru_has_23 (by first | assumption | (unfold ir at *; omega)) ⟨_, rfl, rfl, (pI_f (by omega))⟩ rfl
    · refine v_iload_n hX d_Pru_has_12 1 rfl ?_
      refine v_bipush hX (24) d_Pru_has_13 rfl ?_
      refine v_icmp_ge (tgt := 22) hX d_Pru_has_15 (by decide) (by first | assumption | (unfold ir at *; omega)) (by first | assumption | (unfold ir at *; omega)) (fun c15_3 => ?_) (fun c15_3 => ?_)
      · refine v_iconst hX (0) d_Pru_has_22 ?_
        exact hret _ _ _ _ d_Pru_has_23 (by first | assumption | (unfold ir at *; omega)) ⟨_, rfl, rfl, (pI_f (by omega))⟩ rfl
      · refine v_iconst hX (1) d_Pru_has_18 ?_
        refine v_goto (tgt := 23) hX d_Pru_has_19 (by decide) ?_
        exact hret _ _ _ _ d_Pru_has_23 (by first | assumption | (unfold ir at *; omega)) ⟨_, rfl, rfl, (pI_t (by omega))⟩ rfl

set_option maxHeartbeats 1000000 in
set_option maxRecDepth 100000 in
theorem m_Pru_weigh {G : xG} {f0 : xF} {ad : Nat → Nat} (hj : adOk ad 400) {σ : xF} {ps : Nat} {lc ws al be : Nat → Int} (hP : pPru G ad σ ps lc ws al be) (hps : ps ≤ 24) (x y : Int) (hf23 : pFra σ 23 x y) (b num : Nat) (bM : 76 ≤ b ∧ b + 2 < 400) (F : Nat → Int) (c0 : Option Nat) (hN : σ b = nodE ad b num F c0) : ∀ l, gVo l G f0 ad 400 y_Pru_weigh (.code y_Pru_weigh c_Pru_weigh 2 none) rm_Pru_weigh [.ref (ad 10), .ref (ad b)] σ (fun σ' => σ' = va_up σ 23 (eO 1 [.int (iv (F 5 - F 11)), .int (iv (F 10 - 1))])) := by
  intro l
  refine mV_of (by decide) (Nat.le_of_ble_eq_true rfl) (fun X hX hret => ?_)
  show vV G X 0 0 0 [(0, .ref (ad 10)), (1, .ref (ad b))] [] (ov f0 ad 400 σ)
  obtain ⟨p1, p2, p3, p4, p5, p6⟩ := id hP
  refine v_aload_n hX d_Pru_weigh_0 0 rfl ?_
  refine g_get (i := 10) hX hj fl_Pru_25 d_Pru_weigh_1 (by omega) p1 rfl ?_
  refine v_aload_n hX d_Pru_weigh_4 1 rfl ?_
  refine g_get (i := b) hX hj fl_Pru_96 d_Pru_weigh_5 (by omega) hN rfl ?_
  refine v_aload_n hX d_Pru_weigh_8 1 rfl ?_
  refine g_get (i := b) hX hj fl_Pru_71 d_Pru_weigh_9 (by omega) hN rfl ?_
  refine v_isub hX d_Pru_weigh_12 ?_
  refine v_aload_n hX d_Pru_weigh_13 1 rfl ?_
  refine g_get (i := b) hX hj fl_Pru_68 d_Pru_weigh_14 (by omega) hN rfl ?_
  refine v_iconst hX (1) d_Pru_weigh_17 ?_
  refine v_isub hX d_Pru_weigh_18 ?_
  refine g_callVV (As := [.int (iv (((F 5) - (F 11)))), .int (iv (((F 10) - 1)))]) (st := []) hX hj (i := 23) (by omega) hf23 (m_Fra_become hj 23 (by decide) x y hf23 (F 5 - F 11) (F 10 - 1)) cl_Pru_99 d_Pru_weigh_19 rfl ⟨by decide, by decide⟩ ⟨by decide, by decide⟩ (Nat.le_of_ble_eq_true rfl) (fun σ2 hp4 => ?_)
  have hf5 := (show σ2 (10) = σ (10) by rw [hp4, va_up_ne _ _ (by omega)]).trans p1
  have hf6 := (show σ2 (b) = σ (b) by rw [hp4, va_up_ne _ _ (by omega)]).trans hN
  have hf7 : σ2 (23) = (eO 1 [.int (iv (F 5 - F 11)), .int (iv (F 10 - 1))]) := by rw [hp4, va_up_self]
  exact hret _ _ _ d_Pru_weigh_22 ⟨_, rfl, (by rw [hp4])⟩

set_option maxHeartbeats 1000000 in
set_option maxRecDepth 100000 in
theorem m_Pru_recordStage {G : xG} {f0 : xF} {ad : Nat → Nat} (hj : adOk ad 400) {σ : xF} {ps : Nat} {lc ws al be : Nat → Int} (hP : pPru G ad σ ps lc ws al be) (hps : ps ≤ 24) (sz : Nat) (hz : sz ≤ 47) (hz1 : 1 ≤ sz) (T : Nat → Nat → Int) (ch : Nat → Option Nat) (hTr : pTre G ad σ 0 sz T ch) (hco : chOk 0 ch) (s : Nat) (hs : s < 24) (h8 : ∀ x, x < sz → ir (T x 8) ∧ ir (T x 9)) : ∀ l, gI l G f0 ad 400 y_Pru_recordStage (.code y_Pru_recordStage c_Pru_recordStage 4 (some (.boolean))) rm_Pru_recordStage [.ref (ad 10), .int (iv (((s : Nat) : Int)))] σ (fun z σ' => pTre G ad σ' 0 sz (kSum ch s sz sz T) ch ∧ pPru G ad σ' (s + 1) (va_up lc s ((kSum ch s sz sz T) 0 10)) (va_up ws s ((kSum ch s sz sz T) 0 11)) al be ∧ (∀ i, i ≠ 10 → i ≠ 21 → i ≠ 22 → i < 76 ∨ 217 ≤ i → σ' i = σ i) ∧ z = pI (¬ T 0 9 ≤ s ∧ ¬ T 0 8 ≤ s)) := by
  intro l
  refine mI_of (rt := .boolean) (by decide) (Nat.le_of_ble_eq_true rfl) (fun X hX hret => ?_)
  show vV G X 0 0 0 [(0, .ref (ad 10)), (1, .int (iv (((s : Nat) : Int))))] [] (ov f0 ad 400 σ)
  obtain ⟨p1, p2, p3, p4, p5, p6⟩ := id hP
  obtain ⟨r1, r2, r3⟩ := id hTr
  refine v_aload_n hX d_Pru_recordStage_0 0 rfl ?_
  refine g_get (i := 10) hX hj fl_Pru_29 d_Pru_recordStage_1 (by omega) p1 rfl ?_
  refine g_get (i := 8) hX hj fl_Pru_37 d_Pru_recordStage_4 (by omega) r1 rfl ?_
  refine v_iconst hX (1) d_Pru_recordStage_7 ?_
  refine v_isub hX d_Pru_recordStage_8 ?_
  refine v_istore_n (lv' := [(2, .int (iv ((((sz : Nat) : Int) - 1)))), (0, .ref (ad 10)), (1, .int (iv (((s : Nat) : Int))))]) hX d_Pru_recordStage_9 rfl (by decide) rfl ?_
  have LOOP : ∀ (fuel : Nat) (j : Nat) (y : Int) (σv : xF), sz - j < fuel → (j ≤ sz) → (y = (sz : Int) - 1 - (j : Int)) → (pTre G ad σv 0 sz (kSum ch s sz j T) ch) → (∀ i, i < 76 ∨ 217 ≤ i → σv i = σ i) → vV G X 0 0 10 [(0, .ref (ad 10)), (1, .int (iv (((s : Nat) : Int)))), (2, .int (iv (y)))] [] (ov f0 ad 400 σv) := by
    intro fuel
    induction fuel with
    | zero => intro j y σv hm; exact absurd hm (Nat.not_lt_zero _)
    | succ fuel ih_LOOP =>
      intro j y σv hm hj9 hy hTv hFr
      have hPv : pPru G ad σv ps lc ws al be := hP.up (fun i hi => hFr i (by omega))
      obtain ⟨v1, v2, v3⟩ := id hTv
      refine v_iload_n hX d_Pru_recordStage_10 2 rfl ?_
      refine v_if_lt (tgt := 38) hX d_Pru_recordStage_11 (by decide) (by unfold ir; omega) (fun c11_1 => ?_) (fun c11_1 => ?_)
      · have ej : j = sz := by omega
        rw [ej] at hTv
        obtain ⟨v1, v2, v3⟩ := id hTv
        have h0 : σv 76 = nodE ad 76 0 ((kSum ch s sz sz T) 0) (ch 0) := (v3 0 (by decide)).1
        refine v_aload_n hX d_Pru_recordStage_38 0 rfl ?_
        refine g_get (i := 10) hX hj fl_Pru_29 d_Pru_recordStage_39 (by omega) hPv.1 rfl ?_
        refine g_get (i := 8) hX hj fl_Pru_64 d_Pru_recordStage_42 (by omega) v1 rfl ?_
        refine v_astore_n (lv' := [(2, .ref (ad 76)), (0, .ref (ad 10)), (1, .int (iv (((s : Nat) : Int))))]) hX d_Pru_recordStage_45 rfl (by decide) rfl ?_
        refine v_aload_n hX d_Pru_recordStage_46 1 rfl ?_
        refine g_get (i := 10) hX hj fl_Pru_17 d_Pru_recordStage_47 (by omega) hPv.1 rfl ?_
        refine v_iload_n hX d_Pru_recordStage_50 2 rfl ?_
        refine v_aload_n hX d_Pru_recordStage_51 0 rfl ?_
        refine g_get (i := 76) hX hj fl_Pru_68 d_Pru_recordStage_52 (by omega) h0 rfl ?_
        refine g_iast (i := 21) hX hj d_Pru_recordStage_55 (by omega) hPv.2.2.1 (by decide) (s) rfl (by omega) ?_
        obtain ⟨σ1, hs2⟩ : ∃ s9, s9 = va_up σv (21) (eJ G 24 (va_up lc (s) ((((kSum ch s sz sz T) 0) 10)))) := ⟨_, rfl⟩
        rw [← hs2]
        have hf3 := (show σ1 (10) = σv (10) by rw [hs2, va_up_ne _ _ (by omega)]).trans hPv.1
        have hf4 := (show σ1 (8) = σv (8) by rw [hs2, va_up_ne _ _ (by omega)]).trans v1
        have hf5 := (show σ1 (76) = σv (76) by rw [hs2, va_up_ne _ _ (by omega)]).trans h0
        have hf7 := (show σ1 (22) = σv (22) by rw [hs2, va_up_ne _ _ (by omega)]).trans hPv.2.2.2.1
        have hf8 : σ1 (21) = (eJ G 24 (va_up lc (s) ((((kSum ch s sz sz T) 0) 10)))) := by rw [hs2, va_up_self]
        refine v_aload_n hX d_Pru_recordStage_56 1 rfl ?_
        refine g_get (i := 10) hX hj fl_Pru_21 d_Pru_recordStage_57 (by omega) hf3 rfl ?_
        refine v_iload_n hX d_Pru_recordStage_60 2 rfl ?_
        refine v_aload_n hX d_Pru_recordStage_61 0 rfl ?_
        refine g_get (i := 76) hX hj fl_Pru_71 d_Pru_recordStage_62 (by omega) hf5 rfl ?_
        refine g_iast (i := 22) hX hj d_Pru_recordStage_65 (by omega) hf7 (by decide) (s) rfl (by omega) ?_
        obtain ⟨σ9, hs10⟩ : ∃ s9, s9 = va_up σ1 (22) (eJ G 24 (va_up ws (s) ((((kSum ch s sz sz T) 0) 11)))) := ⟨_, rfl⟩
        rw [← hs10]
        have hf11 := (show σ9 (10) = σ1 (10) by rw [hs10, va_up_ne _ _ (by omega)]).trans hf3
        have hf12 := (show σ9 (8) = σ1 (8) by rw [hs10, va_up_ne _ _ (by omega)]).trans hf4
        have hf13 := (show σ9 (76) = σ1 (76) by rw [hs10, va_up_ne _ _ (by omega)]).trans hf5
        have hf15 := (show σ9 (21) = σ1 (21) by rw [hs10, va_up_ne _ _ (by omega)]).trans hf8
        have hf16 : σ9 (22) = (eJ G 24 (va_up ws (s) ((((kSum ch s sz sz T) 0) 11)))) := by rw [hs10, va_up_self]
        refine v_aload_n hX d_Pru_recordStage_66 1 rfl ?_
        refine v_iload_n hX d_Pru_recordStage_67 2 rfl ?_
        refine v_iconst hX (1) d_Pru_recordStage_68 ?_
        refine v_iaddN (a := s) (b := 1) hX d_Pru_recordStage_69 ?_
        refine g_put (i := 10) (fs' := [.int (iv ((((s + 1) : Nat) : Int))), .ref (ad 20), .ref (ad 21), .ref (ad 22), .ref (ad 8), .ref (ad 23)]) hX hj pf_Pru_33 d_Pru_recordStage_70 (by omega) hf11 rfl rfl (Nat.le_of_ble_eq_true rfl) rfl ?_
        obtain ⟨σ17, hs18⟩ : ∃ s9, s9 = va_up σ9 (10) (eO 4 [.int (iv ((((s + 1) : Nat) : Int))), .ref (ad 20), .ref (ad 21), .ref (ad 22), .ref (ad 8), .ref (ad 23)]) := ⟨_, rfl⟩
        rw [← hs18]
        have hf20 := (show σ17 (8) = σ9 (8) by rw [hs18, va_up_ne _ _ (by omega)]).trans hf12
        have hf21 := (show σ17 (76) = σ9 (76) by rw [hs18, va_up_ne _ _ (by omega)]).trans hf13
        have hf22 := (show σ17 (21) = σ9 (21) by rw [hs18, va_up_ne _ _ (by omega)]).trans hf15
        have hf23 := (show σ17 (22) = σ9 (22) by rw [hs18, va_up_ne _ _ (by omega)]).trans hf16
        have hf24 : σ17 (10) = (eO 4 [.int (iv ((((s + 1) : Nat) : Int))), .ref (ad 20), .ref (ad 21), .ref (ad 22), .ref (ad 8), .ref (ad 23)]) := by rw [hs18, va_up_self]
        refine v_aload_n hX d_Pru_recordStage_73 0 rfl ?_
        refine v_iload_n hX d_Pru_recordStage_74 2 rfl ?_
        refine g_callVI (As := [.int (iv (((s : Nat) : Int)))]) (st := []) hX hj (i := 76) (by omega) hf21 (m_Nod_stateAt hj 76 0 (by decide) ((kSum ch s sz sz T) 0) (ch 0) ((v3 0 (by decide)).up (by rw [hs18, va_up_ne _ _ (by omega), hs10, va_up_ne _ _ (by omega), hs2, va_up_ne _ _ (by omega)]) (by rw [hs18, va_up_ne _ _ (by omega), hs10, va_up_ne _ _ (by omega), hs2, va_up_ne _ _ (by omega)]) (by rw [hs18, va_up_ne _ _ (by omega), hs10, va_up_ne _ _ (by omega), hs2, va_up_ne _ _ (by omega)])) (s : Int) (ir_n (by omega)) (by rw [kSum_hi _ _ _ _ _ _ (by decide)]; exact (h8 0 (by omega)).1) (by rw [kSum_hi _ _ _ _ _ _ (by decide)]; exact (h8 0 (by omega)).2)) cl_Pru_74 d_Pru_recordStage_75 rfl ⟨by decide, by decide⟩ ⟨by decide, by decide⟩ (Nat.le_of_ble_eq_true rfl) (fun z25 σ26 hz27 hp28 => ?_)
        obtain ⟨he29, hv30⟩ := hp28
        rw [he29]
        have hzr : ir z25 := hz27
        refine v_if_ne (tgt := 85) hX d_Pru_recordStage_78 (by decide) (by unfold ir; omega) (fun c78_2 => ?_) (fun c78_2 => ?_)
        · refine v_iconst hX (0) d_Pru_recordStage_85 ?_
          have hv2 : z25 = (if T 0 9 ≤ (s : Int) then (2 : Int) else if T 0 8 ≤ (s : Int) then 1 else 0) := by rw [hv30, kSum_hi _ _ _ _ _ _ (by decide), kSum_hi _ _ _ _ _ _ (by decide)]
          have ou : ∀ i, i ≠ 10 → i ≠ 21 → i ≠ 22 → σ17 i = σv i := fun i i1 i2 i3 => by rw [hs18, va_up_ne _ _ i1, hs10, va_up_ne _ _ i3, hs2, va_up_ne _ _ i2]
          refine hret _ _ _ _ d_Pru_recordStage_86 (by unfold ir; omega) ⟨_, rfl, ⟨(ou _ (by omega) (by omega) (by omega)).trans v1, (ou _ (by omega) (by omega) (by omega)).trans v2, fun n9 hn9 => (v3 n9 hn9).up (ou _ (by omega) (by omega) (by omega)) (ou _ (by omega) (by omega) (by omega)) (ou _ (by omega) (by omega) (by omega))⟩, ?_, fun i i1 i2 i3 i4 => (ou i i1 i2 i3).trans (hFr i i4), ?_⟩ rfl
          · obtain ⟨w1, w2, w3, w4, ⟨x5, y5, w5⟩, w6⟩ := id hPv
            exact ⟨hf24, (ou _ (by decide) (by decide) (by decide)).trans w2, hf22, hf23, ⟨x5, y5, (ou _ (by decide) (by decide) (by decide)).trans w5⟩, fun s9 hs9 => (ou _ (by omega) (by omega) (by omega)).trans (w6 s9 hs9)⟩
          · exact pI_f (st_n hv2 (by assumption))
        · refine v_iconst hX (1) d_Pru_recordStage_81 ?_
          refine v_goto (tgt := 86) hX d_Pru_recordStage_82 (by decide) ?_
          have hv2 : z25 = (if T 0 9 ≤ (s : Int) then (2 : Int) else if T 0 8 ≤ (s : Int) then 1 else 0) := by rw [hv30, kSum_hi _ _ _ _ _ _ (by decide), kSum_hi _ _ _ _ _ _ (by decide)]
          have ou : ∀ i, i ≠ 10 → i ≠ 21 → i ≠ 22 → σ17 i = σv i := fun i i1 i2 i3 => by rw [hs18, va_up_ne _ _ i1, hs10, va_up_ne _ _ i3, hs2, va_up_ne _ _ i2]
          refine hret _ _ _ _ d_Pru_recordStage_86 (by unfold ir; omega) ⟨_, rfl, ⟨(ou _ (by omega) (by omega) (by omega)).trans v1, (ou _ (by omega) (by omega) (by omega)).trans v2, fun n9 hn9 => (v3 n9 hn9).up (ou _ (by omega) (by omega) (by omega)) (ou _ (by omega) (by omega) (by omega)) (ou _ (by omega) (by omega) (by omega))⟩, ?_, fun i i1 i2 i3 i4 => (ou i i1 i2 i3).trans (hFr i i4), ?_⟩ rfl
          · obtain ⟨w1, w2, w3, w4, ⟨x5, y5, w5⟩, w6⟩ := id hPv
            exact ⟨hf24, (ou _ (by decide) (by decide) (by decide)).trans w2, hf22, hf23, ⟨x5, y5, (ou _ (by decide) (by decide) (by decide)).trans w5⟩, fun s9 hs9 => (ou _ (by omega) (by omega) (by omega)).trans (w6 s9 hs9)⟩
          · exact pI_t (st_0 hv2 (by assumption))
      · refine v_aload_n hX d_Pru_recordStage_14 0 rfl ?_
        refine g_get (i := 10) hX hj fl_Pru_29 d_Pru_recordStage_15 (by omega) hPv.1 rfl ?_
        refine v_iload_n hX d_Pru_recordStage_18 2 rfl ?_
        obtain ⟨x, hx, hxe⟩ : ∃ x : Nat, x < sz ∧ x = sz - 1 - j := ⟨_, by omega, rfl⟩
        refine v_top (x' := iv ((x : Nat) : Int)) (congrArg iv (by omega)) ?_
        refine g_callVR (As := [.int (iv (((x : Nat) : Int)))]) (st := []) hX hj (i := 8) (by omega) v1 (m_Tre_find hj 0 (by decide) sz hz _ _ (show pTre G ad σv 0 sz _ ch from hTv) ((x : Nat) : Int) (ir_n (by omega))) cl_Pru_40 d_Pru_recordStage_19 rfl ⟨by decide, by decide⟩ ⟨by decide, by decide⟩ (Nat.le_of_ble_eq_true rfl) (fun z31 σ32 hp34 => ?_)
        obtain ⟨he35, hv36⟩ := hp34
        rw [he35]
        have hv36e : z31 = some (ad (76 + 141 * 0 + 3 * x)) := by rw [hv36, if_pos (by omega), Int.toNat_natCast]
        subst hv36e
        refine v_eq (st' := [.ref (ad (76 + 3 * x))]) (by show va_rf (some (ad (76 + 141 * 0 + 3 * x))) :: _ = _; rw [show 76 + 141 * 0 + 3 * x = 76 + 3 * x by omega]; rfl) ?_
        refine v_astore_n (lv' := [(3, .ref (ad (76 + 3 * x))), (0, .ref (ad 10)), (1, .int (iv (((s : Nat) : Int)))), (2, .int (iv (y)))]) hX d_Pru_recordStage_22 rfl (by decide) rfl ?_
        refine v_aload_n hX d_Pru_recordStage_23 0 rfl ?_
        refine v_ifnull hX d_Pru_recordStage_24 ?_
        refine v_aload_n hX d_Pru_recordStage_27 0 rfl ?_
        have hnx : σv (76 + 3 * x) = nodE ad (76 + 3 * x) x ((kSum ch s sz j T) x) (ch x) := by have h := (v3 x (by omega)).1; rw [show 76 + 141 * 0 + 3 * x = 76 + 3 * x by omega] at h; exact h
        refine v_iload_n hX d_Pru_recordStage_28 2 rfl ?_
        have hpn : pNod ad σv (76 + 3 * x) x ((kSum ch s sz j T) x) (ch x) := by have h := v3 x (by omega); rw [show 76 + 141 * 0 + 3 * x = 76 + 3 * x by omega] at h; exact h
        obtain ⟨mm, hKK, hKe⟩ : ∃ mm : Nat, (∀ q, ch x = some q → 76 + 3 * x + 2 < q ∧ q + 5 < 400 ∧ pNod ad σv q mm ((kSum ch s sz j T) mm) (ch mm) ∧ pNod ad σv (q + 3) (mm + 1) ((kSum ch s sz j T) (mm + 1)) (ch (mm + 1))) ∧ ∀ b, nodE ad b x (va_up (va_up ((kSum ch s sz j T) x) 10 (if ch x = none ∨ (kSum ch s sz j T) x 8 ≤ s then 1 else (kSum ch s sz j T) mm 10 + (kSum ch s sz j T) (mm + 1) 10)) 11 (if ch x = none ∨ (kSum ch s sz j T) x 8 ≤ s then (kSum ch s sz j T) x 5 else (kSum ch s sz j T) mm 11 + (kSum ch s sz j T) (mm + 1) 11)) (ch x) = nodE ad b x (fSum (kSum ch s sz j T) ch s x) (ch x) := by
          rcases hch : ch x with _ | q
          · exact ⟨0, fun q h => (by cases h), fun b => by unfold fSum; rw [hch, if_pos (Or.inl rfl), if_pos (Or.inl rfl)]⟩
          · obtain ⟨mm, e1, e2, e3⟩ := hco x q (by omega) hch
            refine ⟨mm, fun q2 h => ?_, fun b => ?_⟩
            · cases h
              have h1 := v3 mm (by omega)
              have h2 := v3 (mm + 1) (by omega)
              rw [← e1] at h1
              rw [show 76 + 141 * 0 + 3 * (mm + 1) = q + 3 by omega] at h2
              exact ⟨by omega, by omega, h1, h2⟩
            · unfold fSum
              rw [hch]
              show _ = nodE ad b x (va_up (va_up ((kSum ch s sz j T) x) 10 (if (kSum ch s sz j T) x 8 ≤ s then 1 else (kSum ch s sz j T) ((q - 76) / 3) 10 + (kSum ch s sz j T) ((q - 76) / 3 + 1) 10)) 11 (if (kSum ch s sz j T) x 8 ≤ s then (kSum ch s sz j T) x 5 else (kSum ch s sz j T) ((q - 76) / 3) 11 + (kSum ch s sz j T) ((q - 76) / 3 + 1) 11)) (some q)
              rw [show (q - 76) / 3 = mm by omega]
              by_cases g : (kSum ch s sz j T) x 8 ≤ s
              · rw [if_pos (Or.inr g), if_pos (Or.inr g), if_pos g, if_pos g]
              · have gn : ¬ ((some q : Option Nat) = none ∨ (kSum ch s sz j T) x 8 ≤ s) := fun h => h.elim (fun h => by cases h) g
                rw [if_neg gn, if_neg gn, if_neg g, if_neg g]
        refine g_callVV (As := [.int (iv (((s : Nat) : Int)))]) (st := []) hX hj (i := 76 + 3 * x) (by omega) hnx (m_Nod_sumUp hj (76 + 3 * x) x (by omega) ((kSum ch s sz j T) x) (ch x) hpn (mm) ((kSum ch s sz j T) mm) ((kSum ch s sz j T) (mm + 1)) (ch mm) (ch (mm + 1)) hKK (s : Int) (ir_n (by omega)) (by rw [kSum_hi _ _ _ _ _ _ (by decide)]; exact (h8 x hx).1)) cl_Pru_60 d_Pru_recordStage_29 rfl ⟨by decide, by decide⟩ ⟨by decide, by decide⟩ (Nat.le_of_ble_eq_true rfl) (fun σ38 hp40 => ?_)
        have hTn : pTre G ad σ38 0 sz (kSum ch s sz (j + 1) T) ch := by
          show pTre G ad σ38 0 sz (va_up (kSum ch s sz j T) (sz - 1 - j) (fSum (kSum ch s sz j T) ch s (sz - 1 - j))) ch
          rw [← hxe]
          refine hTv.nod (by decide) (by omega) (fun q hq => fSum_hi _ _ _ _ _ (by omega)) ?_
          rw [hp40, show 76 + 141 * 0 + 3 * x = 76 + 3 * x by omega]
          exact congrArg _ (hKe _)
        have hFn : ∀ i, i < 76 ∨ 217 ≤ i → σ38 i = σ i := fun i hi => by rw [hp40, va_up_ne _ _ (by omega)]; exact hFr i hi
        refine v_iinc (lv' := [(2, .int (iv ((y + (-1))))), (3, .ref (ad (76 + 3 * x))), (0, .ref (ad 10)), (1, .int (iv (((s : Nat) : Int))))]) hX d_Pru_recordStage_32 3 rfl (by decide) rfl ?_
        refine v_goto (tgt := 10) hX d_Pru_recordStage_35 (by decide) ?_
        refine v_lv [2, 3, 0] rfl ?_
        exact ih_LOOP (j + 1) ((y + (-1))) (σ38) (by omega) (by omega) (by omega) hTn hFn
  refine v_lv [1, 2, 0] rfl ?_
  exact LOOP _ (0) ((((sz : Nat) : Int) - 1)) (σ) (Nat.lt_succ_self _) (Nat.zero_le _) (by omega) hTr (fun _ _ => rfl)
