/-! THE TABLE, written; by program -/
set_option maxHeartbeats 1000000 in
set_option maxRecDepth 100000 in
theorem m_Tab_changeSort {G : xG} {f0 : xF} {ad : Nat → Nat} (hj : adOk ad 400) {σ : xF} {n : Nat} {val : Nat → Nat → Int} {cl so rC rK : Nat → Nat} {rL : Nat → Nat → Nat} (hT : pTab G ad σ n val cl so rC rK rL) (hB : bTab n cl so rC rK rL) (c s : Nat) (hc : c < 4) (hs : s < 2) : ∀ l, gI l G f0 ad 400 y_Tab_changeSort (.code y_Tab_changeSort c_Tab_changeSort 4 (some (.int))) rm_Tab_changeSort [.ref (ad 1), .int (iv (((c : Nat) : Int))), .int (iv (((s : Nat) : Int)))] σ (fun z σ' => pTab G ad σ' n val cl (va_up so c s) rC rK rL ∧ (∀ i, i ≠ 14 → σ' i = σ i) ∧ z = ((so c : Nat) : Int)) := by
  intro l
  refine mI_of (rt := .int) (by decide) (Nat.le_of_ble_eq_true rfl) (fun X hX hret => ?_)
  show vV G X 0 0 0 [(0, .ref (ad 1)), (1, .int (iv (((c : Nat) : Int)))), (2, .int (iv (((s : Nat) : Int))))] [] (ov f0 ad 400 σ)
  obtain ⟨a1, a2, a3, a4, a5, a6, a7, a8, a9⟩ := id hT
  obtain ⟨b1, b2, b3, b4, b5, b6⟩ := id hB
  refine v_iload_n hX d_Tab_changeSort_0 1 rfl ?_
  refine g_callSI (As := [.int (iv (((c : Nat) : Int)))]) (st := []) hX (k0_Bs_isColumn (((c : Nat) : Int)) (by first | assumption | (unfold ir at *; omega))) cl_Tab_36 d_Tab_changeSort_1 rfl ⟨by decide, by decide⟩ ⟨by decide, by decide⟩ (Nat.le_of_ble_eq_true rfl) (fun z1 hz2 hp3 => ?_)
  have z1e : z1 = 1 := hp3.trans (if_pos (by omega))
  subst z1e
  refine v_if_ne (tgt := 9) hX d_Tab_changeSort_4 (by decide) (by unfold ir; omega) (fun c9 => ?_) (fun c9 => absurd c9 (by omega))
  refine v_aload_n hX d_Tab_changeSort_9 0 rfl ?_
  refine g_get (i := 1) hX hj fl_Tab_24 d_Tab_changeSort_10 (by omega) a1 rfl ?_
  refine v_iload_n hX d_Tab_changeSort_13 1 rfl ?_
  refine g_iald (i := 14) hX hj d_Tab_changeSort_14 (by omega) a4 (by decide) (c) rfl (by omega) ?_
  refine v_istore_n (lv' := [(3, .int (iv ((((so c) : Nat) : Int)))), (0, .ref (ad 1)), (1, .int (iv (((c : Nat) : Int)))), (2, .int (iv (((s : Nat) : Int))))]) hX d_Tab_changeSort_15 rfl (by decide) rfl ?_
  refine v_aload_n hX d_Tab_changeSort_16 1 rfl ?_
  refine g_get (i := 1) hX hj fl_Tab_24 d_Tab_changeSort_17 (by omega) a1 rfl ?_
  refine v_iload_n hX d_Tab_changeSort_20 2 rfl ?_
  refine v_iload_n hX d_Tab_changeSort_21 3 rfl ?_
  refine g_iast (i := 14) hX hj d_Tab_changeSort_22 (by omega) a4 (by decide) (c) rfl (by omega) ?_
  obtain ⟨σ4, hs5⟩ : ∃ s9, s9 = va_up σ (14) (eJ G 4 (va_up (fun j => (((so j) : Nat) : Int)) (c) (((s : Nat) : Int)))) := ⟨_, rfl⟩
  rw [← hs5]
  have hf6 := (show σ4 (1) = σ (1) by rw [hs5, va_up_ne _ _ (by omega)]).trans a1
  have hf7 := (show σ4 (12) = σ (12) by rw [hs5, va_up_ne _ _ (by omega)]).trans a2
  have hf8 := (show σ4 (13) = σ (13) by rw [hs5, va_up_ne _ _ (by omega)]).trans a3
  have hf10 := (show σ4 (15) = σ (15) by rw [hs5, va_up_ne _ _ (by omega)]).trans a5
  have hf11 := (show σ4 (16) = σ (16) by rw [hs5, va_up_ne _ _ (by omega)]).trans a6
  have hf12 := (show σ4 (17) = σ (17) by rw [hs5, va_up_ne _ _ (by omega)]).trans a7
  have hf13 : σ4 (14) = (eJ G 4 (va_up (fun j => (((so j) : Nat) : Int)) (c) (((s : Nat) : Int)))) := by rw [hs5, va_up_self]
  refine v_iload_n hX d_Tab_changeSort_23 0 rfl ?_
  exact hret _ _ _ _ d_Tab_changeSort_24 (by have := b3 c; unfold ir; omega) ⟨_, rfl, hT.so1 (fun i hi => by rw [hs5, va_up_ne _ _ hi]) (by rw [hs5, va_up_self, eJ_nat]), fun i hi => (by rw [hs5, va_up_ne _ _ hi]), rfl⟩ rfl

set_option maxHeartbeats 1000000 in
set_option maxRecDepth 100000 in
theorem m_Tab_enterKnown {G : xG} {f0 : xF} {ad : Nat → Nat} (hj : adOk ad 400) {σ : xF} {n : Nat} {val : Nat → Nat → Int} {cl so rC rK : Nat → Nat} {rL : Nat → Nat → Nat} (hT : pTab G ad σ n val cl so rC rK rL) (hB : bTab n cl so rC rK rL) (r c v : Nat) (hr : r < 24) (hc : c < 4) (hv1 : v ≤ 100) (hv2 : so c = 1 → v ≤ 5) : ∀ l, gVo l G f0 ad 400 y_Tab_enterKnown (.code y_Tab_enterKnown c_Tab_enterKnown 6 none) rm_Tab_enterKnown [.ref (ad 1), .int (iv (((r : Nat) : Int))), .int (iv (((c : Nat) : Int))), .int (iv (((v : Nat) : Int)))] σ (fun σ' => pTab G ad σ' n val cl so rC (va_up rK c (rK c ||| 2 ^ r)) (va_up rL c (enL (so c) v (2 ^ r) (if so c = 1 then 64 else 101) (rL c))) ∧ (∀ i, i ≠ 16 → i ≠ 24 + c → σ' i = σ i)) := by
  intro l
  refine mV_of (by decide) (Nat.le_of_ble_eq_true rfl) (fun X hX hret => ?_)
  show vV G X 0 0 0 [(0, .ref (ad 1)), (1, .int (iv (((r : Nat) : Int)))), (2, .int (iv (((c : Nat) : Int)))), (3, .int (iv (((v : Nat) : Int))))] [] (ov f0 ad 400 σ)
  obtain ⟨a1, a2, a3, a4, a5, a6, a7, a8, a9⟩ := id hT
  obtain ⟨b1, b2, b3, b4, b5, b6⟩ := id hB
  refine v_iload_n hX d_Tab_enterKnown_0 2 rfl ?_
  refine g_callSI (As := [.int (iv (((c : Nat) : Int)))]) (st := []) hX (k0_Bs_isColumn (((c : Nat) : Int)) (by first | assumption | (unfold ir at *; omega))) cl_Tab_36 d_Tab_enterKnown_1 rfl ⟨by decide, by decide⟩ ⟨by decide, by decide⟩ (Nat.le_of_ble_eq_true rfl) (fun z1 hz2 hp3 => ?_)
  have z1e : z1 = 1 := hp3.trans (if_pos (by omega))
  subst z1e
  refine v_if_ne (tgt := 8) hX d_Tab_enterKnown_4 (by decide) (by first | assumption | (unfold ir at *; omega)) (fun c9 => ?_) (fun c9 => absurd c9 (by omega))
  refine v_iconst hX (1) d_Tab_enterKnown_8 ?_
  refine v_iload_n hX d_Tab_enterKnown_9 1 rfl ?_
  refine v_ishl (z := (((2 ^ r) : Nat) : Int)) hX d_Tab_enterKnown_10 (iv_shl1 (r) (by omega)) ?_
  refine v_istore (lv' := [(4, .int (iv ((((2 ^ r) : Nat) : Int)))), (0, .ref (ad 1)), (1, .int (iv (((r : Nat) : Int)))), (2, .int (iv (((c : Nat) : Int)))), (3, .int (iv (((v : Nat) : Int))))]) hX d_Tab_enterKnown_11 (by decide) rfl ?_
  refine v_aload_n hX d_Tab_enterKnown_13 1 rfl ?_
  refine g_get (i := 1) hX hj fl_Tab_30 d_Tab_enterKnown_14 (by omega) a1 rfl ?_
  refine v_iload_n hX d_Tab_enterKnown_17 3 rfl ?_
  refine v_dup2_11 hX d_Tab_enterKnown_18 rfl rfl ?_
  refine g_iald (i := 16) hX hj d_Tab_enterKnown_19 (by omega) a6 (by decide) (c) rfl (by omega) ?_
  refine v_iload hX d_Tab_enterKnown_20 0 rfl ?_
  refine v_ior (z := ((((rK c) ||| (2 ^ r)) : Nat) : Int)) hX d_Tab_enterKnown_22 (iv_or ((rK c)) ((2 ^ r))) ?_
  refine g_iast (i := 16) hX hj d_Tab_enterKnown_23 (by omega) a6 (by decide) (c) rfl (by omega) ?_
  obtain ⟨σ4, hs5⟩ : ∃ s9, s9 = va_up σ (16) (eJ G 4 (va_up (fun j => (((rK j) : Nat) : Int)) (c) (((((rK c) ||| (2 ^ r)) : Nat) : Int)))) := ⟨_, rfl⟩
  rw [← hs5]
  have hf6 := (show σ4 (1) = σ (1) by rw [hs5, va_up_ne _ _ (by omega)]).trans a1
  have hf7 := (show σ4 (12) = σ (12) by rw [hs5, va_up_ne _ _ (by omega)]).trans a2
  have hf8 := (show σ4 (13) = σ (13) by rw [hs5, va_up_ne _ _ (by omega)]).trans a3
  have hf9 := (show σ4 (14) = σ (14) by rw [hs5, va_up_ne _ _ (by omega)]).trans a4
  have hf10 := (show σ4 (15) = σ (15) by rw [hs5, va_up_ne _ _ (by omega)]).trans a5
  have hf12 := (show σ4 (17) = σ (17) by rw [hs5, va_up_ne _ _ (by omega)]).trans a7
  have hf13 : σ4 (16) = (eJ G 4 (va_up (fun j => (((rK j) : Nat) : Int)) (c) (((((rK c) ||| (2 ^ r)) : Nat) : Int)))) := by rw [hs5, va_up_self]
  refine v_iconst hX (0) d_Tab_enterKnown_24 ?_
  refine v_istore (lv' := [(5, .int (iv (0))), (4, .int (iv ((((2 ^ r) : Nat) : Int)))), (0, .ref (ad 1)), (1, .int (iv (((r : Nat) : Int)))), (2, .int (iv (((c : Nat) : Int)))), (3, .int (iv (((v : Nat) : Int))))]) hX d_Tab_enterKnown_25 (by decide) rfl ?_
  have LOOP : ∀ (fuel : Nat) (k : Nat) (σv : xF), 101 - k < fuel → (k ≤ (if so c = 1 then 64 else 101)) → (pTab G ad σv n val cl so rC (va_up rK c (rK c ||| 2 ^ r)) (va_up rL c (enL (so c) v (2 ^ r) k (rL c)))) → (∀ i, i ≠ 16 → i ≠ 24 + c → σv i = σ i) → vV G X 0 0 27 [(0, .ref (ad 1)), (1, .int (iv (((r : Nat) : Int)))), (2, .int (iv (((c : Nat) : Int)))), (3, .int (iv (((v : Nat) : Int)))), (4, .int (iv ((((2 ^ r) : Nat) : Int)))), (5, .int (iv (((k : Nat) : Int))))] [] (ov f0 ad 400 σv) := by
    intro fuel
    induction fuel with
    | zero => intro k σv hm; exact absurd hm (Nat.not_lt_zero _)
    | succ fuel ih_LOOP =>
      intro k σv hm hk hTv hFr
      obtain ⟨d1, d2, d3, d4, d5, d6, d7, d8, d9⟩ := id hTv
      have hrow : σv (24 + c) = eJ G 101 (fun j => (((enL (so c) v (2 ^ r) k (rL c)) j : Nat) : Int)) := by have h := d8 c hc; rw [va_up_self] at h; exact h
      have hBv : bTab n cl so rC (va_up rK c (rK c ||| 2 ^ r)) (va_up rL c (enL (so c) v (2 ^ r) k (rL c))) := (hB.rK1 (or_lt 24 (b5 c) (two_lt hr))).rL1 (fun q => enL_lt (b6 c) (two_lt hr) q)
      refine v_iload hX d_Tab_enterKnown_27 5 rfl ?_
      refine v_aload_n hX d_Tab_enterKnown_29 0 rfl ?_
      refine v_iload_n hX d_Tab_enterKnown_30 2 rfl ?_
      refine g_callVI (As := [.int (iv (((c : Nat) : Int)))]) (st := [.int (iv (((k : Nat) : Int)))]) hX hj (i := 1) (by omega) d1 (m_Tab_lastNumber hj hTv hBv c hc) cl_Tab_47 d_Tab_enterKnown_31 rfl ⟨by decide, by decide⟩ ⟨by decide, by decide⟩ (Nat.le_of_ble_eq_true rfl) (fun z14 σ15 hz16 hp17 => ?_)
      obtain ⟨he18, hv19⟩ := hp17
      rw [he18]
      obtain ⟨lm, hlm, hl1, hl2⟩ : ∃ lm : Nat, z14 + 1 = (lm : Int) ∧ lm ≤ 101 ∧ lm = (if so c = 1 then 64 else 101) := by
        by_cases q9 : so c = 1
        · exact ⟨64, by rw [hv19, if_pos q9]; rfl, by decide, by rw [if_pos q9]⟩
        · exact ⟨101, by rw [hv19, if_neg q9]; rfl, by decide, by rw [if_neg q9]⟩
      rw [← hl2] at hk
      refine v_icmp_gt (tgt := 68) hX d_Tab_enterKnown_34 (by decide) (by first | assumption | (unfold ir at *; omega)) (by first | assumption | (unfold ir at *; omega)) (fun c34_2 => ?_) (fun c34_2 => ?_)
      · have ek : k = lm := by omega
        rw [ek, hl2] at hTv
        exact hret _ _ _ d_Tab_enterKnown_68 ⟨_, rfl, hTv, hFr⟩
      · refine v_aload_n hX d_Tab_enterKnown_37 0 rfl ?_
        refine v_iload_n hX d_Tab_enterKnown_38 2 rfl ?_
        refine v_iload hX d_Tab_enterKnown_39 5 rfl ?_
        refine v_iload_n hX d_Tab_enterKnown_41 3 rfl ?_
        refine g_callVI (As := [.int (iv (((c : Nat) : Int))), .int (iv (((k : Nat) : Int))), .int (iv (((v : Nat) : Int)))]) (st := []) hX hj (i := 1) (by omega) d1 (m_Tab_isLeftOf hj hTv hBv c k v hc (by omega) hv1 hv2) cl_Tab_51 d_Tab_enterKnown_42 rfl ⟨by decide, by decide⟩ ⟨by decide, by decide⟩ (Nat.le_of_ble_eq_true rfl) (fun z20 σ21 hz22 hp23 => ?_)
        obtain ⟨he24, hv25⟩ := hp23
        rw [he24]
        by_cases qz : lfP (so c) k v = true
        · have z20e : z20 = 1 := hv25.trans (if_pos qz)
          subst z20e
          refine v_if_eq (tgt := 62) hX d_Tab_enterKnown_45 (by decide) (by first | assumption | (unfold ir at *; omega)) (fun c9 => absurd c9 (by omega)) (fun c9 => ?_)
          refine v_aload_n hX d_Tab_enterKnown_48 0 rfl ?_
          refine g_get (i := 1) hX hj fl_Tab_33 d_Tab_enterKnown_49 (by omega) d1 rfl ?_
          refine v_iload_n hX d_Tab_enterKnown_52 2 rfl ?_
          refine g_aaldA (i := 17) hX hj d_Tab_enterKnown_53 (by omega) d7 rfl (by decide) (c) rfl (by omega) (if_pos (by omega)) ?_
          refine v_iload hX d_Tab_enterKnown_54 5 rfl ?_
          refine v_dup2_11 hX d_Tab_enterKnown_56 rfl rfl ?_
          refine g_iald (i := 24 + c) hX hj d_Tab_enterKnown_57 (by omega) hrow (by decide) (k) rfl (by omega) ?_
          refine v_iload hX d_Tab_enterKnown_58 4 rfl ?_
          refine v_ior (z := (((((enL (so c) v (2 ^ r) k (rL c)) k) ||| (2 ^ r)) : Nat) : Int)) hX d_Tab_enterKnown_60 (iv_or (((enL (so c) v (2 ^ r) k (rL c)) k)) ((2 ^ r))) ?_
          refine g_iast (i := 24 + c) hX hj d_Tab_enterKnown_61 (by omega) hrow (by decide) (k) rfl (by omega) ?_
          obtain ⟨σ26, hs27⟩ : ∃ s9, s9 = va_up σv (24 + c) (eJ G 101 (va_up (fun j => (((enL (so c) v (2 ^ r) k (rL c)) j : Nat) : Int)) (k) ((((((enL (so c) v (2 ^ r) k (rL c)) k) ||| (2 ^ r)) : Nat) : Int)))) := ⟨_, rfl⟩
          rw [← hs27]
          have hf28 := (show σ26 (1) = σv (1) by rw [hs27, va_up_ne _ _ (by omega)]).trans d1
          have hf29 := (show σ26 (17) = σv (17) by rw [hs27, va_up_ne _ _ (by omega)]).trans d7
          have hf31 : σ26 (24 + c) = (eJ G 101 (va_up (fun j => (((enL (so c) v (2 ^ r) k (rL c)) j : Nat) : Int)) (k) ((((((enL (so c) v (2 ^ r) k (rL c)) k) ||| (2 ^ r)) : Nat) : Int)))) := by rw [hs27, va_up_self]
          refine v_iincN (a := k) (n := 1) (lv' := [(5, .int (iv ((((k + 1) : Nat) : Int)))), (0, .ref (ad 1)), (1, .int (iv (((r : Nat) : Int)))), (2, .int (iv (((c : Nat) : Int)))), (3, .int (iv (((v : Nat) : Int)))), (4, .int (iv ((((2 ^ r) : Nat) : Int))))]) hX d_Tab_enterKnown_62 rfl 5 rfl (by decide) rfl ?_
          refine v_goto (tgt := 27) hX d_Tab_enterKnown_65 (by decide) ?_
          refine v_lv [1, 2, 3, 4, 5, 0] rfl ?_
          exact ih_LOOP (k + 1) (σ26) (by omega) (by omega) (by rw [← enL_t qz]; have h9 := hTv.rL1 hc (g := va_up (enL (so c) v (2 ^ r) k (rL c)) k ((enL (so c) v (2 ^ r) k (rL c)) k ||| 2 ^ r)) (σ' := σ26) (fun i hi => by rw [hs27, va_up_ne _ _ hi]) (by rw [hs27, va_up_self, eJ_nat]); rw [bx_uu] at h9; exact h9) (fun i i1 i2 => by rw [hs27, va_up_ne _ _ i2]; exact hFr i i1 i2)
        · have z20e : z20 = 0 := hv25.trans (if_neg qz)
          subst z20e
          refine v_if_eq (tgt := 62) hX d_Tab_enterKnown_45 (by decide) (by first | assumption | (unfold ir at *; omega)) (fun c9 => ?_) (fun c9 => absurd c9 (by omega))
          refine v_iincN (a := k) (n := 1) (lv' := [(5, .int (iv ((((k + 1) : Nat) : Int)))), (0, .ref (ad 1)), (1, .int (iv (((r : Nat) : Int)))), (2, .int (iv (((c : Nat) : Int)))), (3, .int (iv (((v : Nat) : Int)))), (4, .int (iv ((((2 ^ r) : Nat) : Int))))]) hX d_Tab_enterKnown_62 rfl 5 rfl (by decide) rfl ?_
          refine v_goto (tgt := 27) hX d_Tab_enterKnown_65 (by decide) ?_
          refine v_lv [1, 2, 3, 4, 5, 0] rfl ?_
          exact ih_LOOP (k + 1) (σv) (by omega) (by omega) (by rw [← enL_f qz]; exact hTv) hFr
  refine v_lv [2, 3, 4, 5, 1, 0] rfl ?_
  exact LOOP _ (0) (σ4) (Nat.lt_succ_self _) (Nat.zero_le _) (by rw [enL_0, va_up_id]; exact hT.rK1 (fun i hi => by rw [hs5, va_up_ne _ _ hi]) (by rw [hs5, va_up_self, eJ_nat])) (fun i i1 i2 => by rw [hs5, va_up_ne _ _ i1])
