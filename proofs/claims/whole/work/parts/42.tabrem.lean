/-! NO ROWS; by program -/
set_option maxHeartbeats 1000000 in
set_option maxRecDepth 100000 in
theorem m_Tab_removeAll {G : xG} {f0 : xF} {ad : Nat → Nat} (hj : adOk ad 400) {σ : xF} {n : Nat} {val : Nat → Nat → Int} {cl so rC rK : Nat → Nat} {rL : Nat → Nat → Nat} (hT : pTab G ad σ n val cl so rC rK rL) (hB : bTab n cl so rC rK rL) : ∀ l, gI l G f0 ad 400 y_Tab_removeAll (.code y_Tab_removeAll c_Tab_removeAll 4 (some (.int))) rm_Tab_removeAll [.ref (ad 1)] σ (fun z σ' => pTab G ad σ' 0 val cl so (va_up (va_up (va_up rC 0 0) 1 0) 2 0) (zrN 4 rK) (zrL 4 rL) ∧ (∀ i, i ≠ 1 → i ≠ 15 → i ≠ 16 → (i < 24 ∨ 27 < i) → σ' i = σ i) ∧ z = ((n : Nat) : Int)) := by
  intro l
  refine mI_of (rt := .int) (by decide) (Nat.le_of_ble_eq_true rfl) (fun X hX hret => ?_)
  show vV G X 0 0 0 [(0, .ref (ad 1))] [] (ov f0 ad 400 σ)
  obtain ⟨a1, a2, a3, a4, a5, a6, a7, a8, a9⟩ := id hT
  obtain ⟨b1, b2, b3, b4, b5, b6⟩ := id hB
  refine v_aload_n hX d_Tab_removeAll_0 0 rfl ?_
  refine g_get (i := 1) hX hj fl_Tab_20 d_Tab_removeAll_1 (by omega) a1 rfl ?_
  refine v_istore_n (lv' := [(1, .int (iv (((n : Nat) : Int)))), (0, .ref (ad 1))]) hX d_Tab_removeAll_4 rfl (by decide) rfl ?_
  refine v_aload_n hX d_Tab_removeAll_5 1 rfl ?_
  refine v_iconst hX (0) d_Tab_removeAll_6 ?_
  refine g_put (i := 1) (fs' := [.ref (ad 12), .ref (ad 13), .int (iv (0)), .ref (ad 14), .ref (ad 15), .ref (ad 16), .ref (ad 17)]) hX hj pf_Tab_20 d_Tab_removeAll_7 (by omega) a1 rfl rfl (Nat.le_of_ble_eq_true rfl) rfl ?_
  obtain ⟨σ1, hs2⟩ : ∃ s9, s9 = va_up σ (1) (eO 6 [.ref (ad 12), .ref (ad 13), .int (iv (0)), .ref (ad 14), .ref (ad 15), .ref (ad 16), .ref (ad 17)]) := ⟨_, rfl⟩
  rw [← hs2]
  have hf4 := (show σ1 (12) = σ (12) by rw [hs2, va_up_ne _ _ (by omega)]).trans a2
  have hf5 := (show σ1 (13) = σ (13) by rw [hs2, va_up_ne _ _ (by omega)]).trans a3
  have hf6 := (show σ1 (14) = σ (14) by rw [hs2, va_up_ne _ _ (by omega)]).trans a4
  have hf7 := (show σ1 (15) = σ (15) by rw [hs2, va_up_ne _ _ (by omega)]).trans a5
  have hf8 := (show σ1 (16) = σ (16) by rw [hs2, va_up_ne _ _ (by omega)]).trans a6
  have hf9 := (show σ1 (17) = σ (17) by rw [hs2, va_up_ne _ _ (by omega)]).trans a7
  have hf10 : σ1 (1) = (eO 6 [.ref (ad 12), .ref (ad 13), .int (iv (0)), .ref (ad 14), .ref (ad 15), .ref (ad 16), .ref (ad 17)]) := by rw [hs2, va_up_self]
  refine v_iconst hX (0) d_Tab_removeAll_10 ?_
  refine v_istore_n (lv' := [(2, .int (iv (0))), (1, .int (iv (((n : Nat) : Int)))), (0, .ref (ad 1))]) hX d_Tab_removeAll_11 rfl (by decide) rfl ?_
  refine v_iload_n hX d_Tab_removeAll_12 0 rfl ?_
  refine v_iconst hX (3) d_Tab_removeAll_13 ?_
  refine v_icmp_ge (tgt := 30) hX d_Tab_removeAll_14 (by decide) (by first | assumption | (unfold ir; omega)) (by first | assumption | (unfold ir; omega)) (fun c9 => absurd c9 (by omega)) (fun c9 => ?_)
  refine v_aload_n hX d_Tab_removeAll_17 2 rfl ?_
  refine g_get (i := 1) hX hj fl_Tab_27 d_Tab_removeAll_18 (by omega) hf10 rfl ?_
  refine v_iload_n hX d_Tab_removeAll_21 0 rfl ?_
  refine v_iconst hX (0) d_Tab_removeAll_22 ?_
  refine g_iast (i := 15) hX hj d_Tab_removeAll_23 (by omega) hf7 (by decide) (0) rfl (by omega) ?_
  obtain ⟨σ11, hs12⟩ : ∃ s9, s9 = va_up σ1 (15) (eJ G 3 (va_up (fun j => (((rC j) : Nat) : Int)) (0) (0))) := ⟨_, rfl⟩
  rw [← hs12]
  have hf13 := (show σ11 (12) = σ1 (12) by rw [hs12, va_up_ne _ _ (by omega)]).trans hf4
  have hf14 := (show σ11 (13) = σ1 (13) by rw [hs12, va_up_ne _ _ (by omega)]).trans hf5
  have hf15 := (show σ11 (14) = σ1 (14) by rw [hs12, va_up_ne _ _ (by omega)]).trans hf6
  have hf17 := (show σ11 (16) = σ1 (16) by rw [hs12, va_up_ne _ _ (by omega)]).trans hf8
  have hf18 := (show σ11 (17) = σ1 (17) by rw [hs12, va_up_ne _ _ (by omega)]).trans hf9
  have hf19 := (show σ11 (1) = σ1 (1) by rw [hs12, va_up_ne _ _ (by omega)]).trans hf10
  have hf20 : σ11 (15) = (eJ G 3 (va_up (fun j => (((rC j) : Nat) : Int)) (0) (0))) := by rw [hs12, va_up_self]
  refine v_iincN (a := 0) (n := 1) (lv' := [(2, .int (iv (1))), (1, .int (iv (((n : Nat) : Int)))), (0, .ref (ad 1))]) hX d_Tab_removeAll_24 rfl 0 rfl (by decide) rfl ?_
  refine v_goto (tgt := 12) hX d_Tab_removeAll_27 (by decide) ?_
  refine v_iload_n hX d_Tab_removeAll_12 0 rfl ?_
  refine v_iconst hX (3) d_Tab_removeAll_13 ?_
  refine v_icmp_ge (tgt := 30) hX d_Tab_removeAll_14 (by decide) (by first | assumption | (unfold ir; omega)) (by first | assumption | (unfold ir; omega)) (fun c9 => absurd c9 (by omega)) (fun c9 => ?_)
  refine v_aload_n hX d_Tab_removeAll_17 2 rfl ?_
  refine g_get (i := 1) hX hj fl_Tab_27 d_Tab_removeAll_18 (by omega) hf19 rfl ?_
  refine v_iload_n hX d_Tab_removeAll_21 0 rfl ?_
  refine v_iconst hX (0) d_Tab_removeAll_22 ?_
  refine g_iast (i := 15) hX hj d_Tab_removeAll_23 (by omega) hf20 (by decide) (1) rfl (by omega) ?_
  obtain ⟨σ21, hs22⟩ : ∃ s9, s9 = va_up σ11 (15) (eJ G 3 (va_up (va_up (fun j => (((rC j) : Nat) : Int)) (0) (0)) (1) (0))) := ⟨_, rfl⟩
  rw [← hs22]
  have hf23 := (show σ21 (12) = σ11 (12) by rw [hs22, va_up_ne _ _ (by omega)]).trans hf13
  have hf24 := (show σ21 (13) = σ11 (13) by rw [hs22, va_up_ne _ _ (by omega)]).trans hf14
  have hf25 := (show σ21 (14) = σ11 (14) by rw [hs22, va_up_ne _ _ (by omega)]).trans hf15
  have hf26 := (show σ21 (16) = σ11 (16) by rw [hs22, va_up_ne _ _ (by omega)]).trans hf17
  have hf27 := (show σ21 (17) = σ11 (17) by rw [hs22, va_up_ne _ _ (by omega)]).trans hf18
  have hf28 := (show σ21 (1) = σ11 (1) by rw [hs22, va_up_ne _ _ (by omega)]).trans hf19
  have hf30 : σ21 (15) = (eJ G 3 (va_up (va_up (fun j => (((rC j) : Nat) : Int)) (0) (0)) (1) (0))) := by rw [hs22, va_up_self]
  refine v_iincN (a := 1) (n := 1) (lv' := [(2, .int (iv (2))), (1, .int (iv (((n : Nat) : Int)))), (0, .ref (ad 1))]) hX d_Tab_removeAll_24 rfl 0 rfl (by decide) rfl ?_
  refine v_goto (tgt := 12) hX d_Tab_removeAll_27 (by decide) ?_
  refine v_iload_n hX d_Tab_removeAll_12 0 rfl ?_
  refine v_iconst hX (3) d_Tab_removeAll_13 ?_
  refine v_icmp_ge (tgt := 30) hX d_Tab_removeAll_14 (by decide) (by first | assumption | (unfold ir; omega)) (by first | assumption | (unfold ir; omega)) (fun c9 => absurd c9 (by omega)) (fun c9 => ?_)
  refine v_aload_n hX d_Tab_removeAll_17 2 rfl ?_
  refine g_get (i := 1) hX hj fl_Tab_27 d_Tab_removeAll_18 (by omega) hf28 rfl ?_
  refine v_iload_n hX d_Tab_removeAll_21 0 rfl ?_
  refine v_iconst hX (0) d_Tab_removeAll_22 ?_
  refine g_iast (i := 15) hX hj d_Tab_removeAll_23 (by omega) hf30 (by decide) (2) rfl (by omega) ?_
  obtain ⟨σ31, hs32⟩ : ∃ s9, s9 = va_up σ21 (15) (eJ G 3 (va_up (va_up (va_up (fun j => (((rC j) : Nat) : Int)) (0) (0)) (1) (0)) (2) (0))) := ⟨_, rfl⟩
  rw [← hs32]
  have hf33 := (show σ31 (12) = σ21 (12) by rw [hs32, va_up_ne _ _ (by omega)]).trans hf23
  have hf34 := (show σ31 (13) = σ21 (13) by rw [hs32, va_up_ne _ _ (by omega)]).trans hf24
  have hf35 := (show σ31 (14) = σ21 (14) by rw [hs32, va_up_ne _ _ (by omega)]).trans hf25
  have hf36 := (show σ31 (16) = σ21 (16) by rw [hs32, va_up_ne _ _ (by omega)]).trans hf26
  have hf37 := (show σ31 (17) = σ21 (17) by rw [hs32, va_up_ne _ _ (by omega)]).trans hf27
  have hf38 := (show σ31 (1) = σ21 (1) by rw [hs32, va_up_ne _ _ (by omega)]).trans hf28
  have hf40 : σ31 (15) = (eJ G 3 (va_up (va_up (va_up (fun j => (((rC j) : Nat) : Int)) (0) (0)) (1) (0)) (2) (0))) := by rw [hs32, va_up_self]
  refine v_iincN (a := 2) (n := 1) (lv' := [(2, .int (iv (3))), (1, .int (iv (((n : Nat) : Int)))), (0, .ref (ad 1))]) hX d_Tab_removeAll_24 rfl 0 rfl (by decide) rfl ?_
  refine v_goto (tgt := 12) hX d_Tab_removeAll_27 (by decide) ?_
  refine v_iload_n hX d_Tab_removeAll_12 0 rfl ?_
  refine v_iconst hX (3) d_Tab_removeAll_13 ?_
  refine v_icmp_ge (tgt := 30) hX d_Tab_removeAll_14 (by decide) (by first | assumption | (unfold ir; omega)) (by first | assumption | (unfold ir; omega)) (fun c9 => ?_) (fun c9 => absurd c9 (by omega))
  refine v_iconst hX (0) d_Tab_removeAll_30 ?_
  refine v_istore_n (lv' := [(2, .int (iv (0))), (1, .int (iv (((n : Nat) : Int)))), (0, .ref (ad 1))]) hX d_Tab_removeAll_31 rfl (by decide) rfl ?_
  have g1 := hT.n1 (σ' := σ1) (n2 := 0) (fun i hi => by rw [hs2, va_up_ne _ _ hi]) (by rw [hs2, va_up_self]; rfl)
  have g4 : pTab G ad σ31 0 val cl so (va_up (va_up (va_up rC 0 0) 1 0) 2 0) rK rL := g1.rC1 (σ' := σ31) (rC2 := (va_up (va_up (va_up rC 0 0) 1 0) 2 0)) (fun i hi => by rw [hs32, va_up_ne _ _ hi, hs22, va_up_ne _ _ hi, hs12, va_up_ne _ _ hi]) (by rw [hs32, va_up_self]; exact congrArg (eJ G 3) (funext fun j9 => by by_cases e2 : j9 = 2 <;> by_cases e1 : j9 = 1 <;> by_cases e0 : j9 = 0 <;> simp [va_up, e0, e1, e2]))
  have LC : ∀ (fuel : Nat) (c : Nat) (σv : xF), 4 - c < fuel → (c ≤ 4) → (pTab G ad σv 0 val cl so (va_up (va_up (va_up rC 0 0) 1 0) 2 0) (zrN c rK) (zrL c rL)) → (∀ i, i ≠ 1 → i ≠ 15 → i ≠ 16 → (i < 24 ∨ 27 < i) → σv i = σ i) → vV G X 0 0 32 [(0, .ref (ad 1)), (1, .int (iv (((n : Nat) : Int)))), (2, .int (iv (((c : Nat) : Int))))] [] (ov f0 ad 400 σv) := by
    intro fuel
    induction fuel with
    | zero => intro c σv hm; exact absurd hm (Nat.not_lt_zero _)
    | succ fuel ih_LC =>
      intro c σv hm hc hTv hFr
      obtain ⟨d1, d2, d3, d4, d5, d6, d7, d8, d9⟩ := id hTv
      refine v_iload_n hX d_Tab_removeAll_32 2 rfl ?_
      refine v_iconst hX (4) d_Tab_removeAll_33 ?_
      refine v_icmp_ge (tgt := 73) hX d_Tab_removeAll_34 (by decide) (by first | assumption | (unfold ir; omega)) (by first | assumption | (unfold ir; omega)) (fun c34_5 => ?_) (fun c34_5 => ?_)
      · refine v_iload_n hX d_Tab_removeAll_73 1 rfl ?_
        have ec : c = 4 := by omega
        subst ec
        exact hret _ _ _ _ d_Tab_removeAll_74 (by unfold ir; omega) ⟨_, rfl, hTv, hFr, rfl⟩ rfl
      · refine v_aload_n hX d_Tab_removeAll_37 0 rfl ?_
        refine g_get (i := 1) hX hj fl_Tab_30 d_Tab_removeAll_38 (by omega) d1 rfl ?_
        refine v_iload_n hX d_Tab_removeAll_41 2 rfl ?_
        refine v_iconst hX (0) d_Tab_removeAll_42 ?_
        refine g_iast (i := 16) hX hj d_Tab_removeAll_43 (by omega) d6 (by decide) (c) rfl (by omega) ?_
        obtain ⟨σ41, hs42⟩ : ∃ s9, s9 = va_up σv (16) (eJ G 4 (va_up (fun j => (((zrN c rK) j : Nat) : Int)) (c) (0))) := ⟨_, rfl⟩
        rw [← hs42]
        have hf43 := (show σ41 (1) = σv (1) by rw [hs42, va_up_ne _ _ (by omega)]).trans d1
        have hf45 := (show σ41 (17) = σv (17) by rw [hs42, va_up_ne _ _ (by omega)]).trans d7
        have hf46 : σ41 (16) = (eJ G 4 (va_up (fun j => (((zrN c rK) j : Nat) : Int)) (c) (0))) := by rw [hs42, va_up_self]
        refine v_iconst hX (0) d_Tab_removeAll_44 ?_
        refine v_istore_n (lv' := [(3, .int (iv (0))), (0, .ref (ad 1)), (1, .int (iv (((n : Nat) : Int)))), (2, .int (iv (((c : Nat) : Int))))]) hX d_Tab_removeAll_45 rfl (by decide) rfl ?_
        have LK : ∀ (fuel : Nat) (k : Nat) (σw : xF), 101 - k < fuel → (k ≤ 101) → (pTab G ad σw 0 val cl so (va_up (va_up (va_up rC 0 0) 1 0) 2 0) (zrN (c + 1) rK) (va_up (zrL c rL) c (zrN k (rL c)))) → (∀ i, i ≠ 1 → i ≠ 15 → i ≠ 16 → (i < 24 ∨ 27 < i) → σw i = σ i) → vV G X 0 0 46 [(0, .ref (ad 1)), (1, .int (iv (((n : Nat) : Int)))), (2, .int (iv (((c : Nat) : Int)))), (3, .int (iv (((k : Nat) : Int))))] [] (ov f0 ad 400 σw) := by
          intro fuel
          induction fuel with
          | zero => intro k σw hm; exact absurd hm (Nat.not_lt_zero _)
          | succ fuel ih_LK =>
            intro k σw hm hk hTw hFw
            obtain ⟨u1, u2, u3, u4, u5, u6, u7, u8, u9⟩ := id hTw
            have hrow : σw (24 + c) = eJ G 101 (fun j => (((zrN k (rL c)) j : Nat) : Int)) := by have h := u8 c (by omega); rw [va_up_self] at h; exact h
            refine v_iload_n hX d_Tab_removeAll_46 3 rfl ?_
            refine v_bipush hX (100) d_Tab_removeAll_47 rfl ?_
            refine v_icmp_gt (tgt := 67) hX d_Tab_removeAll_49 (by decide) (by first | assumption | (unfold ir; omega)) (by first | assumption | (unfold ir; omega)) (fun c49_6 => ?_) (fun c49_6 => ?_)
            · have ek : k = 101 := by omega
              rw [ek] at hTw
              have hTn : pTab G ad σw 0 val cl so (va_up (va_up (va_up rC 0 0) 1 0) 2 0) (zrN (c + 1) rK) (zrL (c + 1) rL) := by rw [← zrL_s]; exact hTw
              have hFs := hFw
              refine v_iincN (a := c) (n := 1) (lv' := [(2, .int (iv ((((c + 1) : Nat) : Int)))), (0, .ref (ad 1)), (1, .int (iv (((n : Nat) : Int)))), (3, .int (iv (((k : Nat) : Int))))]) hX d_Tab_removeAll_67 rfl 2 rfl (by decide) rfl ?_
              refine v_goto (tgt := 32) hX d_Tab_removeAll_70 (by decide) ?_
              refine v_lv [1, 2, 0] rfl ?_
              exact ih_LC (c + 1) (σw) (by omega) (by omega) hTn hFs
            · refine v_aload_n hX d_Tab_removeAll_52 0 rfl ?_
              refine g_get (i := 1) hX hj fl_Tab_33 d_Tab_removeAll_53 (by omega) u1 rfl ?_
              refine v_iload_n hX d_Tab_removeAll_56 2 rfl ?_
              refine g_aaldA (i := 17) hX hj d_Tab_removeAll_57 (by omega) u7 rfl (by decide) (c) rfl (by omega) (if_pos (by omega)) ?_
              refine v_iload_n hX d_Tab_removeAll_58 3 rfl ?_
              refine v_iconst hX (0) d_Tab_removeAll_59 ?_
              refine g_iast (i := 24 + c) hX hj d_Tab_removeAll_60 (by omega) hrow (by decide) (k) rfl (by omega) ?_
              obtain ⟨σ47, hs48⟩ : ∃ s9, s9 = va_up σw (24 + c) (eJ G 101 (va_up (fun j => (((zrN k (rL c)) j : Nat) : Int)) (k) (0))) := ⟨_, rfl⟩
              rw [← hs48]
              have hf49 := (show σ47 (1) = σw (1) by rw [hs48, va_up_ne _ _ (by omega)]).trans u1
              have hf50 := (show σ47 (17) = σw (17) by rw [hs48, va_up_ne _ _ (by omega)]).trans u7
              have hf52 : σ47 (24 + c) = (eJ G 101 (va_up (fun j => (((zrN k (rL c)) j : Nat) : Int)) (k) (0))) := by rw [hs48, va_up_self]
              refine v_iincN (a := k) (n := 1) (lv' := [(3, .int (iv ((((k + 1) : Nat) : Int)))), (0, .ref (ad 1)), (1, .int (iv (((n : Nat) : Int)))), (2, .int (iv (((c : Nat) : Int))))]) hX d_Tab_removeAll_61 rfl 3 rfl (by decide) rfl ?_
              refine v_goto (tgt := 46) hX d_Tab_removeAll_64 (by decide) ?_
              refine v_lv [1, 2, 3, 0] rfl ?_
              exact ih_LK (k + 1) (σ47) (by omega) (by omega) (by have h9 := hTw.rL1 (c := c) (by omega) (g := va_up (zrN k (rL c)) k 0) (σ' := σ47) (fun i hi => by rw [hs48, va_up_ne _ _ hi]) (by rw [hs48, va_up_self, ← eJ_nat]; rfl); rw [bx_uu, zrN_s] at h9; exact h9) (fun i i1 i2 i3 i4 => by rw [hs48, va_up_ne _ _ (by omega)]; exact hFw i i1 i2 i3 i4)
        refine v_lv [1, 2, 3, 0] rfl ?_
        exact LK _ (0) (σ41) (Nat.lt_succ_self _) (by decide) (by rw [zrN_0, ← zrL_m c rL, va_up_id, ← zrN_s]; exact hTv.rK1 (fun i hi => by rw [hs42, va_up_ne _ _ hi]) (by rw [hs42, va_up_self, ← eJ_nat]; rfl)) (fun i i1 i2 i3 i4 => by rw [hs42, va_up_ne _ _ i3]; exact hFr i i1 i2 i3 i4)
  refine v_lv [2, 1, 0] rfl ?_
  exact LC _ (0) (σ31) (Nat.lt_succ_self _) (by decide) (by rw [zrN_0, zrL_0]; exact g4) (fun i i1 i2 i3 i4 => by rw [hs32, va_up_ne _ _ i2, hs22, va_up_ne _ _ i2, hs12, va_up_ne _ _ i2, hs2, va_up_ne _ _ i1])
