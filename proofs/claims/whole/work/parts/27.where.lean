/-! COMING TO A LEAF; by program -/
set_option maxHeartbeats 1000000 in
set_option maxRecDepth 100000 in
theorem m_Tre_whereComes {G : xG} {f0 : xF} {ad : Nat → Nat} (hj : adOk ad 400) {σ : xF} {n : Nat} {val : Nat → Nat → Int} {cl so rC rK : Nat → Nat} {rL : Nat → Nat → Nat} (hT : pTab G ad σ n val cl so rC rK rL) (hB : bTab n cl so rC rK rL) (t : Nat) (ht : t ≤ 1) (sz : Nat) (hz : sz ≤ 47) (T : Nat → Nat → Int) (ch : Nat → Option Nat) (hTr : pTre G ad σ t sz T ch) (hto : tOk T) (hco : chOk t ch) (i : Nat) (hi : i < 400) (a : Nat → Int) (ha : σ i = eJ G 4 a) (hv : tks so a = true) : ∀ l, gR l G f0 ad 400 y_Tre_whereComes (.code y_Tre_whereComes c_Tre_whereComes 5 (some (.object "BestSplits$Node"))) rm_Tre_whereComes [.ref (ad (8 + t)), .ref (ad i)] σ (fun r σ' => σ' = σ ∧ r = some (ad (76 + 141 * t + 3 * (kWh t so a T ch 5 0))) ∧ kWh t so a T ch 5 0 < 47) := by
  intro l
  refine mR_of (rt := .object "BestSplits$Node") (Or.inl ⟨_, rfl⟩) (by decide) (Nat.le_of_ble_eq_true rfl) (fun X hX hret => ?_)
  show vV G X 0 0 0 [(0, .ref (ad (8 + t))), (1, .ref (ad i))] [] (ov f0 ad 400 σ)
  obtain ⟨r1, r2, r3⟩ := id hTr
  refine v_aload_n hX d_Tre_whereComes_0 0 rfl ?_
  refine g_get (i := 8 + t) hX hj fl_Tre_32 d_Tre_whereComes_1 (by omega) r1 rfl ?_
  refine v_astore_n (lv' := [(2, .ref (ad (76 + 141 * t))), (0, .ref (ad (8 + t))), (1, .ref (ad i))]) hX d_Tre_whereComes_4 rfl (by decide) rfl ?_
  refine v_iconst hX (0) d_Tre_whereComes_5 ?_
  refine v_istore_n (lv' := [(3, .int (iv (0))), (2, .ref (ad (76 + 141 * t))), (0, .ref (ad (8 + t))), (1, .ref (ad i))]) hX d_Tre_whereComes_6 rfl (by decide) rfl ?_
  have LOOP : ∀ (fuel : Nat) (d : Nat) (x : Nat), 5 - d < fuel → (d ≤ 5) → (x < 47) → (kWh t so a T ch (5 - d) x = kWh t so a T ch 5 0) → vV G X 0 0 7 [(0, .ref (ad (8 + t))), (1, .ref (ad i)), (2, .ref (ad (76 + 141 * t + 3 * x))), (3, .int (iv (((d : Nat) : Int))))] [] (ov f0 ad 400 σ) := by
    intro fuel
    induction fuel with
    | zero => intro d x hm; exact absurd hm (Nat.not_lt_zero _)
    | succ fuel ih_LOOP =>
      intro d x hm hd hx hw
      refine v_iload_n hX d_Tre_whereComes_7 3 rfl ?_
      refine v_iconst hX (5) d_Tre_whereComes_8 ?_
      refine v_icmp_ge (tgt := 56) hX d_Tre_whereComes_9 (by decide) (by unfold ir; omega) (by unfold ir; omega) (fun c9_1 => ?_) (fun c9_1 => ?_)
      · refine v_aload_n hX d_Tre_whereComes_56 2 rfl ?_
        have e5 : d = 5 := by omega
        subst e5
        have hw2 : x = kWh t so a T ch 5 0 := hw
        exact hret _ _ (some (ad (76 + 141 * t + 3 * x))) _ d_Tre_whereComes_57 ⟨_, rfl, rfl, by rw [hw2], by rw [← hw2]; exact hx⟩
      · have hnn := r3 x hx
        obtain ⟨c, num, side, hc4, hn4, hs4, e1, e2, e3⟩ := hto x hx
        have hcu : pCut ad σ (76 + 141 * t + 3 * x + 1) (76 + 141 * t + 3 * x + 2) c num side := by rw [← e1, ← e2, ← e3]; exact hnn.2.1
        rcases hch : ch x with _ | q
        · have hnx := hnn.1
          rw [hch] at hnx
          refine v_aload_n hX d_Tre_whereComes_12 0 rfl ?_
          refine g_get (i := 8 + t) hX hj fl_Tre_17 d_Tre_whereComes_13 (by omega) r1 rfl ?_
          refine v_aload_n hX d_Tre_whereComes_16 1 rfl ?_
          refine v_aload_n hX d_Tre_whereComes_17 2 rfl ?_
          refine g_get (i := 76 + 141 * t + 3 * x) hX hj fl_Tre_108 d_Tre_whereComes_18 (by omega) hnx rfl ?_
          refine g_callVI (As := [.ref (ad i), .ref (ad (76 + 141 * t + 3 * x + 1))]) (st := []) hX hj (i := 1) (by omega) hT.1 (m_Tab_goesLeft hj hT hB i (76 + 141 * t + 3 * x + 1) (76 + 141 * t + 3 * x + 2) hi (by omega) a ha c num side hcu hc4 hn4 hs4 (tks_iff.mp hv c hc4)) cl_Tre_128 d_Tre_whereComes_21 rfl ⟨by decide, by decide⟩ ⟨by decide, by decide⟩ (Nat.le_of_ble_eq_true rfl) (fun z1 σ2 hz3 hp4 => ?_)
          obtain ⟨he5, hv6⟩ := hp4
          rw [he5]
          by_cases qg : kGo (so c) (a c) num side = true
          · have z1e : z1 = 1 := hv6.trans (if_pos qg)
            subst z1e
            refine v_if_eq (tgt := 34) hX d_Tre_whereComes_24 (by decide) (by unfold ir; omega) (fun c9 => absurd c9 (by omega)) (fun c9 => ?_)
            refine v_aload_n hX d_Tre_whereComes_27 2 rfl ?_
            refine g_get (i := 76 + 141 * t + 3 * x) hX hj fl_Tre_75 d_Tre_whereComes_28 (by omega) hnx rfl ?_
            refine v_goto (tgt := 38) hX d_Tre_whereComes_31 (by decide) ?_
            refine v_astoreN (lv' := [(4, .null), (0, .ref (ad (8 + t))), (1, .ref (ad i)), (2, .ref (ad (76 + 141 * t + 3 * x))), (3, .int (iv (((d : Nat) : Int))))]) hX d_Tre_whereComes_38 (by decide) rfl ?_
            refine v_aloadN hX d_Tre_whereComes_40 0 rfl ?_
            refine v_ifnonnullN hX d_Tre_whereComes_42 ?_
            refine v_aload_n hX d_Tre_whereComes_45 3 rfl ?_
            have hw2 : x = kWh t so a T ch 5 0 := by rw [← hw, kWh_n hch]
            exact hret _ _ (some (ad (76 + 141 * t + 3 * x))) _ d_Tre_whereComes_46 ⟨_, rfl, rfl, by rw [hw2], by rw [← hw2]; exact hx⟩
          · have z1e : z1 = 0 := hv6.trans (if_neg qg)
            subst z1e
            refine v_if_eq (tgt := 34) hX d_Tre_whereComes_24 (by decide) (by unfold ir; omega) (fun c9 => ?_) (fun c9 => absurd c9 (by omega))
            refine v_aload_n hX d_Tre_whereComes_34 2 rfl ?_
            refine g_get (i := 76 + 141 * t + 3 * x) hX hj fl_Tre_78 d_Tre_whereComes_35 (by omega) hnx rfl ?_
            refine v_astoreN (lv' := [(4, .null), (0, .ref (ad (8 + t))), (1, .ref (ad i)), (2, .ref (ad (76 + 141 * t + 3 * x))), (3, .int (iv (((d : Nat) : Int))))]) hX d_Tre_whereComes_38 (by decide) rfl ?_
            refine v_aloadN hX d_Tre_whereComes_40 0 rfl ?_
            refine v_ifnonnullN hX d_Tre_whereComes_42 ?_
            refine v_aload_n hX d_Tre_whereComes_45 3 rfl ?_
            have hw2 : x = kWh t so a T ch 5 0 := by rw [← hw, kWh_n hch]
            exact hret _ _ (some (ad (76 + 141 * t + 3 * x))) _ d_Tre_whereComes_46 ⟨_, rfl, rfl, by rw [hw2], by rw [← hw2]; exact hx⟩
        · obtain ⟨m, hq, hxm, hm⟩ := hco x q hx hch
          subst hq
          have hnx := hnn.1
          rw [hch] at hnx
          refine v_aload_n hX d_Tre_whereComes_12 0 rfl ?_
          refine g_get (i := 8 + t) hX hj fl_Tre_17 d_Tre_whereComes_13 (by omega) r1 rfl ?_
          refine v_aload_n hX d_Tre_whereComes_16 1 rfl ?_
          refine v_aload_n hX d_Tre_whereComes_17 2 rfl ?_
          refine g_get (i := 76 + 141 * t + 3 * x) hX hj fl_Tre_108 d_Tre_whereComes_18 (by omega) hnx rfl ?_
          refine g_callVI (As := [.ref (ad i), .ref (ad (76 + 141 * t + 3 * x + 1))]) (st := []) hX hj (i := 1) (by omega) hT.1 (m_Tab_goesLeft hj hT hB i (76 + 141 * t + 3 * x + 1) (76 + 141 * t + 3 * x + 2) hi (by omega) a ha c num side hcu hc4 hn4 hs4 (tks_iff.mp hv c hc4)) cl_Tre_128 d_Tre_whereComes_21 rfl ⟨by decide, by decide⟩ ⟨by decide, by decide⟩ (Nat.le_of_ble_eq_true rfl) (fun z7 σ8 hz9 hp10 => ?_)
          obtain ⟨he11, hv12⟩ := hp10
          rw [he11]
          by_cases qg : kGo (so c) (a c) num side = true
          · have z7e : z7 = 1 := hv12.trans (if_pos qg)
            subst z7e
            refine v_if_eq (tgt := 34) hX d_Tre_whereComes_24 (by decide) (by unfold ir; omega) (fun c9 => absurd c9 (by omega)) (fun c9 => ?_)
            refine v_aload_n hX d_Tre_whereComes_27 2 rfl ?_
            refine g_get (i := 76 + 141 * t + 3 * x) hX hj fl_Tre_75 d_Tre_whereComes_28 (by omega) hnx rfl ?_
            refine v_goto (tgt := 38) hX d_Tre_whereComes_31 (by decide) ?_
            refine v_astore (lv' := [(4, .ref (ad (76 + 141 * t + 3 * m))), (0, .ref (ad (8 + t))), (1, .ref (ad i)), (2, .ref (ad (76 + 141 * t + 3 * x))), (3, .int (iv (((d : Nat) : Int))))]) hX d_Tre_whereComes_38 (by decide) rfl ?_
            refine v_aload hX d_Tre_whereComes_40 0 rfl ?_
            refine v_ifnonnull (tgt := 47) hX d_Tre_whereComes_42 (by decide) ?_
            refine v_aload hX d_Tre_whereComes_47 0 rfl ?_
            refine v_astore_n (lv' := [(2, .ref (ad (76 + 141 * t + 3 * m))), (4, .ref (ad (76 + 141 * t + 3 * m))), (0, .ref (ad (8 + t))), (1, .ref (ad i)), (3, .int (iv (((d : Nat) : Int))))]) hX d_Tre_whereComes_49 rfl (by decide) rfl ?_
            refine v_iincN (a := d) (n := 1) (lv' := [(3, .int (iv ((((d + 1) : Nat) : Int)))), (2, .ref (ad (76 + 141 * t + 3 * m))), (4, .ref (ad (76 + 141 * t + 3 * m))), (0, .ref (ad (8 + t))), (1, .ref (ad i))]) hX d_Tre_whereComes_50 rfl 4 rfl (by decide) rfl ?_
            refine v_goto (tgt := 7) hX d_Tre_whereComes_53 (by decide) ?_
            refine v_lv [3, 4, 1, 0] rfl ?_
            exact ih_LOOP (d + 1) (m) (by omega) (by omega) (by omega) (by have e := kWh_s (t := t) (so := so) (a := a) hch e1 e2 e3 (5 - (d + 1)); rw [if_pos qg, show 5 - (d + 1) + 1 = 5 - d by omega] at e; exact e.symm.trans hw)
          · have z7e : z7 = 0 := hv12.trans (if_neg qg)
            subst z7e
            refine v_if_eq (tgt := 34) hX d_Tre_whereComes_24 (by decide) (by unfold ir; omega) (fun c9 => ?_) (fun c9 => absurd c9 (by omega))
            refine v_aload_n hX d_Tre_whereComes_34 2 rfl ?_
            refine g_get (i := 76 + 141 * t + 3 * x) hX hj fl_Tre_78 d_Tre_whereComes_35 (by omega) hnx rfl ?_
            refine v_astore (lv' := [(4, .ref (ad (76 + 141 * t + 3 * m + 3))), (0, .ref (ad (8 + t))), (1, .ref (ad i)), (2, .ref (ad (76 + 141 * t + 3 * x))), (3, .int (iv (((d : Nat) : Int))))]) hX d_Tre_whereComes_38 (by decide) rfl ?_
            refine v_aload hX d_Tre_whereComes_40 0 rfl ?_
            refine v_ifnonnull (tgt := 47) hX d_Tre_whereComes_42 (by decide) ?_
            refine v_aload hX d_Tre_whereComes_47 0 rfl ?_
            refine v_astore_n (lv' := [(2, .ref (ad (76 + 141 * t + 3 * m + 3))), (4, .ref (ad (76 + 141 * t + 3 * m + 3))), (0, .ref (ad (8 + t))), (1, .ref (ad i)), (3, .int (iv (((d : Nat) : Int))))]) hX d_Tre_whereComes_49 rfl (by decide) rfl ?_
            refine v_iincN (a := d) (n := 1) (lv' := [(3, .int (iv ((((d + 1) : Nat) : Int)))), (2, .ref (ad (76 + 141 * t + 3 * m + 3))), (4, .ref (ad (76 + 141 * t + 3 * m + 3))), (0, .ref (ad (8 + t))), (1, .ref (ad i))]) hX d_Tre_whereComes_50 rfl 4 rfl (by decide) rfl ?_
            refine v_goto (tgt := 7) hX d_Tre_whereComes_53 (by decide) ?_
            refine v_lv [3, 4, 1, 0] rfl ?_
            exact ih_LOOP (d + 1) ((m + 1)) (by omega) (by omega) (by omega) (by have e := kWh_s (t := t) (so := so) (a := a) hch e1 e2 e3 (5 - (d + 1)); rw [if_neg qg, show 5 - (d + 1) + 1 = 5 - d by omega] at e; exact e.symm.trans hw)
  refine v_lv [2, 3, 1, 0] rfl ?_
  exact LOOP _ (0) (0) (Nat.lt_succ_self _) (by decide) (by decide) rfl
