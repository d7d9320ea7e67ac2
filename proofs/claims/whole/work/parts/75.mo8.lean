/-! THE REFERENCE: where rows come; by program -/
set_option maxHeartbeats 1000000 in
set_option maxRecDepth 100000 in
theorem m_Mo_comesTo {G : xG} {f0 : xF} {ad : Nat → Nat} (hj : adOk ad 400) {σ : xF} {n : Nat} {val : Nat → Nat → Int} {cl so : Nat → Nat} {de le wo : Nat} {S : Nat → Int} (hM : pMo G ad σ n val cl so de le wo S) (hD : dTab n val cl so) {Q : Nat → Nat → Int} (hQ : pMa G σ Q) {s : gS} (hG : moG Q s) (hgi : gInv 0 s) (ha : ∀ q, q < 4 → tk (so q) (Q 371 q) = true) : ∀ l, gI l G f0 ad 400 y_Mo_comesTo (.code y_Mo_comesTo c_Mo_comesTo 2 (some (.int))) rm_Mo_comesTo [.ref (ad 358)] σ (fun z σ' => σ' = σ ∧ z = ((kWh 0 so (Q 371) s.2.1 s.2.2 5 0 : Nat) : Int) ∧ kWh 0 so (Q 371) s.2.1 s.2.2 5 0 < s.1) := by
  intro l
  refine mI_of (rt := .int) (by decide) (Nat.le_of_ble_eq_true rfl) (fun X hX hret => ?_)
  show vV G X 0 0 0 [(0, .ref (ad 358))] [] (ov f0 ad 400 σ)
  obtain ⟨m0, ⟨sf, m1, m1e⟩, ⟨vf, m2, m2e⟩, ⟨cf, m3, m3e⟩⟩ := id hM
  obtain ⟨d1, d2, d3, d4⟩ := id hD
  have hs47 := hgi.1.2.1
  have hs1 := hgi.1.1
  refine v_iconst hX (0) d_Mo_comesTo_0 ?_
  refine v_istore_n (lv' := [(1, .int (iv (0))), (0, .ref (ad 358))]) hX d_Mo_comesTo_1 rfl (by decide) rfl ?_
  have LOOP : ∀ (fuel : Nat) (d : Nat) (x : Nat), 5 - d < fuel → (d ≤ 5) → (x < s.1) → ((d : Int) ≤ s.2.1 x 3) → (kWh 0 so (Q 371) s.2.1 s.2.2 (5 - d) x = kWh 0 so (Q 371) s.2.1 s.2.2 5 0) → vV G X 0 0 2 [(0, .ref (ad 358)), (1, .int (iv (((x : Nat) : Int))))] [] (ov f0 ad 400 σ) := by
    intro fuel
    induction fuel with
    | zero => intro d x hm; exact absurd hm (Nat.not_lt_zero _)
    | succ fuel ih_LOOP =>
      intro d x hm hd hx hdx hw
      refine v_aload_n hX d_Mo_comesTo_2 0 rfl ?_
      obtain ⟨g1, g2, g3⟩ := hG x hx
      rcases g3 with ⟨hn0, kn⟩ | ⟨m, hch, k7, k8, k4, k5, k6, -⟩
      · refine g_get (i := 358) hX hj fl_Mo_41 d_Mo_comesTo_3 (by omega) m0 rfl ?_
        refine v_iload_n hX d_Mo_comesTo_6 1 rfl ?_
        refine g_iald (i := 367) hX hj d_Mo_comesTo_7 (by omega) (hQ.1 367 (by decide) (by decide)) (by decide) (x) rfl (by omega) ?_
        refine v_top (x' := iv ((-1))) (congrArg iv kn) ?_
        refine v_if_lt (tgt := 66) hX d_Mo_comesTo_8 (by decide) (by first | assumption | (unfold ir; omega)) (fun c9 => ?_) (fun c9 => absurd c9 (by omega))
        refine v_iload_n hX d_Mo_comesTo_66 1 rfl ?_
        have hw2 : x = kWh 0 so (Q 371) s.2.1 s.2.2 5 0 := by rw [← hw, kWh_n hn0]
        exact hret _ _ _ _ d_Mo_comesTo_67 (ir_n (by omega)) ⟨_, rfl, rfl, congrArg (fun q : Nat => (q : Int)) hw2, by rw [← hw2]; exact hx⟩ rfl
      · obtain ⟨m9, z1, hm1, hm2, hd3, hd4⟩ := hgi.2.2.2 x _ hx hch
        have em : m9 = m := by omega
        rw [em] at hm1 hm2 hd3 hd4
        obtain ⟨c, num, side, u1, u2, u3, e1, e2, e3⟩ := hgi.2.1 x (by omega)
        have dm := (hgi.1.2.2 m (by omega)).2.1.2
        have hd5 : d < 5 := by omega
        rw [e1] at k4
        rw [e2] at k5
        rw [e3] at k6
        have hta := ha c u1
        have hws := kWh_s (t := 0) (so := so) (a := Q 371) hch e1 e2 e3 (5 - (d + 1))
        rw [show 5 - (d + 1) + 1 = 5 - d by omega, hw] at hws
        refine g_get (i := 358) hX hj fl_Mo_41 d_Mo_comesTo_3 (by omega) m0 rfl ?_
        refine v_iload_n hX d_Mo_comesTo_6 1 rfl ?_
        refine g_iald (i := 367) hX hj d_Mo_comesTo_7 (by omega) (hQ.1 367 (by decide) (by decide)) (by decide) (x) rfl (by omega) ?_
        refine v_top (x' := iv (((m : Nat) : Int))) (congrArg iv k7) ?_
        refine v_if_lt (tgt := 66) hX d_Mo_comesTo_8 (by decide) (by first | assumption | (unfold ir; omega)) (fun c8_2 => absurd c8_2 (by omega)) (fun c8_2 => ?_)
        refine v_aload_n hX d_Mo_comesTo_11 0 rfl ?_
        refine v_aload_n hX d_Mo_comesTo_12 0 rfl ?_
        refine g_get (i := 358) hX hj fl_Mo_54 d_Mo_comesTo_13 (by omega) m0 rfl ?_
        refine v_aload_n hX d_Mo_comesTo_16 0 rfl ?_
        refine g_get (i := 358) hX hj fl_Mo_32 d_Mo_comesTo_17 (by omega) m0 rfl ?_
        refine v_iload_n hX d_Mo_comesTo_20 1 rfl ?_
        refine g_iald (i := 364) hX hj d_Mo_comesTo_21 (by omega) (hQ.1 364 (by decide) (by decide)) (by decide) (x) rfl (by omega) ?_
        refine v_top (x' := iv (((c : Nat) : Int))) (congrArg iv k4) ?_
        refine g_iald (i := 371) hX hj d_Mo_comesTo_22 (by omega) hQ.2.2.1 (by decide) (c) rfl (by omega) ?_
        refine v_aload_n hX d_Mo_comesTo_23 0 rfl ?_
        refine g_get (i := 358) hX hj fl_Mo_32 d_Mo_comesTo_24 (by omega) m0 rfl ?_
        refine v_iload_n hX d_Mo_comesTo_27 1 rfl ?_
        refine g_iald (i := 364) hX hj d_Mo_comesTo_28 (by omega) (hQ.1 364 (by decide) (by decide)) (by decide) (x) rfl (by omega) ?_
        refine v_top (x' := iv (((c : Nat) : Int))) (congrArg iv k4) ?_
        refine v_aload_n hX d_Mo_comesTo_29 0 rfl ?_
        refine g_get (i := 358) hX hj fl_Mo_35 d_Mo_comesTo_30 (by omega) m0 rfl ?_
        refine v_iload_n hX d_Mo_comesTo_33 1 rfl ?_
        refine g_iald (i := 365) hX hj d_Mo_comesTo_34 (by omega) (hQ.1 365 (by decide) (by decide)) (by decide) (x) rfl (by omega) ?_
        refine v_top (x' := iv (((num : Nat) : Int))) (congrArg iv k5) ?_
        refine v_aload_n hX d_Mo_comesTo_35 0 rfl ?_
        refine g_get (i := 358) hX hj fl_Mo_38 d_Mo_comesTo_36 (by omega) m0 rfl ?_
        refine v_iload_n hX d_Mo_comesTo_39 1 rfl ?_
        refine g_iald (i := 366) hX hj d_Mo_comesTo_40 (by omega) (hQ.1 366 (by decide) (by decide)) (by decide) (x) rfl (by omega) ?_
        refine v_top (x' := iv (((side : Nat) : Int))) (congrArg iv k6) ?_
        refine g_callVI (As := [.int (iv ((Q 371 c))), .int (iv (((c : Nat) : Int))), .int (iv (((num : Nat) : Int))), .int (iv (((side : Nat) : Int)))]) (st := []) hX hj (i := 358) (by omega) m0 (m_Mo_isLeft hj hM hD (Q 371 c) c num side u1 hta (by omega) u3) cl_Mo_94 d_Mo_comesTo_41 rfl ⟨by decide, by decide⟩ ⟨by decide, by decide⟩ (Nat.le_of_ble_eq_true rfl) (fun z1 σ2 hz3 hp4 => ?_)
        obtain ⟨he5, hv6⟩ := hp4
        rw [he5]
        by_cases qg : kGo (so c) (Q 371 c) num side = true
        · have z1e : z1 = 1 := hv6.trans (if_pos qg)
          subst z1e
          refine v_if_eq (tgt := 56) hX d_Mo_comesTo_44 (by decide) (by first | assumption | (unfold ir; omega)) (fun c9 => absurd c9 (by omega)) (fun c9 => ?_)
          refine v_aload_n hX d_Mo_comesTo_47 0 rfl ?_
          refine g_get (i := 358) hX hj fl_Mo_41 d_Mo_comesTo_48 (by omega) m0 rfl ?_
          refine v_iload_n hX d_Mo_comesTo_51 1 rfl ?_
          refine g_iald (i := 367) hX hj d_Mo_comesTo_52 (by omega) (hQ.1 367 (by decide) (by decide)) (by decide) (x) rfl (by omega) ?_
          refine v_top (x' := iv (((m : Nat) : Int))) (congrArg iv k7) ?_
          refine v_goto (tgt := 62) hX d_Mo_comesTo_53 (by decide) ?_
          refine v_istore_n (lv' := [(1, .int (iv (((m : Nat) : Int)))), (0, .ref (ad 358))]) hX d_Mo_comesTo_62 rfl (by decide) rfl ?_
          refine v_goto (tgt := 2) hX d_Mo_comesTo_63 (by decide) ?_
          refine v_lv [1, 0] rfl ?_
          exact ih_LOOP (d + 1) (m) (by omega) (by omega) (by omega) (by omega) (by rw [if_pos qg] at hws; exact hws.symm)
        · have z1e : z1 = 0 := hv6.trans (if_neg qg)
          subst z1e
          refine v_if_eq (tgt := 56) hX d_Mo_comesTo_44 (by decide) (by first | assumption | (unfold ir; omega)) (fun c9 => ?_) (fun c9 => absurd c9 (by omega))
          refine v_aload_n hX d_Mo_comesTo_56 0 rfl ?_
          refine g_get (i := 358) hX hj fl_Mo_44 d_Mo_comesTo_57 (by omega) m0 rfl ?_
          refine v_iload_n hX d_Mo_comesTo_60 1 rfl ?_
          refine g_iald (i := 368) hX hj d_Mo_comesTo_61 (by omega) (hQ.1 368 (by decide) (by decide)) (by decide) (x) rfl (by omega) ?_
          refine v_top (x' := iv ((((m + 1) : Nat) : Int))) (congrArg iv k8) ?_
          refine v_istore_n (lv' := [(1, .int (iv ((((m + 1) : Nat) : Int)))), (0, .ref (ad 358))]) hX d_Mo_comesTo_62 rfl (by decide) rfl ?_
          refine v_goto (tgt := 2) hX d_Mo_comesTo_63 (by decide) ?_
          refine v_lv [1, 0] rfl ?_
          exact ih_LOOP (d + 1) (m + 1) (by omega) (by omega) (by omega) (by omega) (by rw [if_neg qg] at hws; exact hws.symm)
  refine v_lv [1, 0] rfl ?_
  exact LOOP _ (0) (0) (Nat.lt_succ_self _) (by decide) (by omega) (hgi.1.2.2 0 (by omega)).2.1.1 rfl

set_option maxHeartbeats 1000000 in
set_option maxRecDepth 100000 in
theorem m_Mo_leafFor {G : xG} {f0 : xF} {ad : Nat → Nat} (hj : adOk ad 400) {σ : xF} {n : Nat} {val : Nat → Nat → Int} {cl so : Nat → Nat} {de le wo : Nat} {S : Nat → Int} (hM : pMo G ad σ n val cl so de le wo S) (hD : dTab n val cl so) {Q : Nat → Nat → Int} (hQ : pMa G σ Q) {s : gS} (hG : moG Q s) (hgi : gInv 0 s) (r : Nat) (hr : r < n) : ∀ l, gI l G f0 ad 400 y_Mo_leafFor (.code y_Mo_leafFor c_Mo_leafFor 3 (some (.int))) rm_Mo_leafFor [.ref (ad 358), .int (iv (((r : Nat) : Int)))] σ (fun z σ' => pMo G ad σ' n val cl so de le wo S ∧ pMa G σ' (ak4 Q (val r 0) (val r 1) (val r 2) (val r 3)) ∧ (∀ i, i ≠ 371 → σ' i = σ i) ∧ z = ((kWh 0 so (val r) s.2.1 s.2.2 5 0 : Nat) : Int) ∧ kWh 0 so (val r) s.2.1 s.2.2 5 0 < s.1) := by
  intro l
  refine mI_of (rt := .int) (by decide) (Nat.le_of_ble_eq_true rfl) (fun X hX hret => ?_)
  show vV G X 0 0 0 [(0, .ref (ad 358)), (1, .int (iv (((r : Nat) : Int))))] [] (ov f0 ad 400 σ)
  obtain ⟨m0, ⟨sf, m1, m1e⟩, ⟨vf, m2, m2e⟩, ⟨cf, m3, m3e⟩⟩ := id hM
  obtain ⟨d1, d2, d3, d4⟩ := id hD
  have hs47 := hgi.1.2.1
  have hs1 := hgi.1.1
  refine v_iconst hX (0) d_Mo_leafFor_0 ?_
  refine v_istore_n (lv' := [(2, .int (iv (0))), (0, .ref (ad 358)), (1, .int (iv (((r : Nat) : Int))))]) hX d_Mo_leafFor_1 rfl (by decide) rfl ?_
  refine v_iload_n hX d_Mo_leafFor_2 0 rfl ?_
  refine v_iconst hX (4) d_Mo_leafFor_3 ?_
  refine v_icmp_ge (tgt := 29) hX d_Mo_leafFor_4 (by decide) (by first | assumption | (unfold ir; omega)) (by first | assumption | (unfold ir; omega)) (fun c9 => absurd c9 (by omega)) (fun c9 => ?_)
  refine v_aload_n hX d_Mo_leafFor_7 1 rfl ?_
  refine g_get (i := 358) hX hj fl_Mo_54 d_Mo_leafFor_8 (by omega) m0 rfl ?_
  refine v_iload_n hX d_Mo_leafFor_11 0 rfl ?_
  refine v_aload_n hX d_Mo_leafFor_12 1 rfl ?_
  refine g_get (i := 358) hX hj fl_Mo_13 d_Mo_leafFor_13 (by omega) m0 rfl ?_
  refine v_iconst hX (4) d_Mo_leafFor_16 ?_
  refine v_iload_n hX d_Mo_leafFor_17 2 rfl ?_
  refine v_imulN (a := 4) (b := r) hX d_Mo_leafFor_18 ?_
  refine v_iload_n hX d_Mo_leafFor_19 0 rfl ?_
  refine v_iaddN (a := (4 * r)) (b := 0) hX d_Mo_leafFor_20 ?_
  refine g_iald (i := 360) hX hj d_Mo_leafFor_21 (by omega) m2 (by decide) (((4 * r) + 0)) rfl (by omega) ?_
  refine v_top (x' := iv ((val r 0))) (congrArg iv (m2e r 0 (by omega) (by omega))) ?_
  refine g_iast (i := 371) hX hj d_Mo_leafFor_22 (by omega) hQ.2.2.1 (by decide) (0) rfl (by omega) ?_
  obtain ⟨σ1, hs2⟩ : ∃ s9, s9 = va_up σ (371) (eJ G 4 (va_up (Q 371) (0) ((val r 0)))) := ⟨_, rfl⟩
  rw [← hs2]
  have hf3 := (show σ1 (358) = σ (358) by rw [hs2, va_up_ne _ _ (by omega)]).trans m0
  have hf4 := (show σ1 (359) = σ (359) by rw [hs2, va_up_ne _ _ (by omega)]).trans m1
  have hf5 := (show σ1 (360) = σ (360) by rw [hs2, va_up_ne _ _ (by omega)]).trans m2
  have hf6 := (show σ1 (361) = σ (361) by rw [hs2, va_up_ne _ _ (by omega)]).trans m3
  have hf7 : σ1 (371) = (eJ G 4 (va_up (Q 371) (0) ((val r 0)))) := by rw [hs2, va_up_self]
  obtain ⟨Q9, eQ10⟩ : ∃ Qq, Qq = va_up Q 371 (va_up (Q 371) (0) ((val r 0))) := ⟨_, rfl⟩
  have hQ8 : pMa G σ1 Q9 := by rw [eQ10]; exact hQ.set 371 (fun i hi => by rw [hs2, va_up_ne _ _ hi]) (fun a b => absurd b (by decide)) (fun a b => absurd b (by decide)) (fun _ => (by rw [hs2, va_up_self])) (fun a => absurd a (by decide)) (fun a b => absurd a (by decide)) (fun a => absurd a (by decide))
  refine v_iincN (a := 0) (n := 1) (lv' := [(2, .int (iv (1))), (0, .ref (ad 358)), (1, .int (iv (((r : Nat) : Int))))]) hX d_Mo_leafFor_23 rfl 0 rfl (by decide) rfl ?_
  refine v_goto (tgt := 2) hX d_Mo_leafFor_26 (by decide) ?_
  refine v_iload_n hX d_Mo_leafFor_2 0 rfl ?_
  refine v_iconst hX (4) d_Mo_leafFor_3 ?_
  refine v_icmp_ge (tgt := 29) hX d_Mo_leafFor_4 (by decide) (by first | assumption | (unfold ir; omega)) (by first | assumption | (unfold ir; omega)) (fun c9 => absurd c9 (by omega)) (fun c9 => ?_)
  refine v_aload_n hX d_Mo_leafFor_7 1 rfl ?_
  refine g_get (i := 358) hX hj fl_Mo_54 d_Mo_leafFor_8 (by omega) hf3 rfl ?_
  refine v_iload_n hX d_Mo_leafFor_11 0 rfl ?_
  refine v_aload_n hX d_Mo_leafFor_12 1 rfl ?_
  refine g_get (i := 358) hX hj fl_Mo_13 d_Mo_leafFor_13 (by omega) hf3 rfl ?_
  refine v_iconst hX (4) d_Mo_leafFor_16 ?_
  refine v_iload_n hX d_Mo_leafFor_17 2 rfl ?_
  refine v_imulN (a := 4) (b := r) hX d_Mo_leafFor_18 ?_
  refine v_iload_n hX d_Mo_leafFor_19 0 rfl ?_
  refine v_iaddN (a := (4 * r)) (b := 1) hX d_Mo_leafFor_20 ?_
  refine g_iald (i := 360) hX hj d_Mo_leafFor_21 (by omega) hf5 (by decide) (((4 * r) + 1)) rfl (by omega) ?_
  refine v_top (x' := iv ((val r 1))) (congrArg iv (m2e r 1 (by omega) (by omega))) ?_
  refine g_iast (i := 371) hX hj d_Mo_leafFor_22 (by omega) hQ8.2.2.1 (by decide) (1) rfl (by omega) ?_
  obtain ⟨σ11, hs12⟩ : ∃ s9, s9 = va_up σ1 (371) (eJ G 4 (va_up (Q9 371) (1) ((val r 1)))) := ⟨_, rfl⟩
  rw [← hs12]
  have hf13 := (show σ11 (358) = σ1 (358) by rw [hs12, va_up_ne _ _ (by omega)]).trans hf3
  have hf14 := (show σ11 (359) = σ1 (359) by rw [hs12, va_up_ne _ _ (by omega)]).trans hf4
  have hf15 := (show σ11 (360) = σ1 (360) by rw [hs12, va_up_ne _ _ (by omega)]).trans hf5
  have hf16 := (show σ11 (361) = σ1 (361) by rw [hs12, va_up_ne _ _ (by omega)]).trans hf6
  have hf17 : σ11 (371) = (eJ G 4 (va_up (Q9 371) (1) ((val r 1)))) := by rw [hs12, va_up_self]
  obtain ⟨Q19, eQ20⟩ : ∃ Qq, Qq = va_up Q9 371 (va_up (Q9 371) (1) ((val r 1))) := ⟨_, rfl⟩
  have hQ18 : pMa G σ11 Q19 := by rw [eQ20]; exact hQ8.set 371 (fun i hi => by rw [hs12, va_up_ne _ _ hi]) (fun a b => absurd b (by decide)) (fun a b => absurd b (by decide)) (fun _ => (by rw [hs12, va_up_self])) (fun a => absurd a (by decide)) (fun a b => absurd a (by decide)) (fun a => absurd a (by decide))
  refine v_iincN (a := 1) (n := 1) (lv' := [(2, .int (iv (2))), (0, .ref (ad 358)), (1, .int (iv (((r : Nat) : Int))))]) hX d_Mo_leafFor_23 rfl 0 rfl (by decide) rfl ?_
  refine v_goto (tgt := 2) hX d_Mo_leafFor_26 (by decide) ?_
  refine v_iload_n hX d_Mo_leafFor_2 0 rfl ?_
  refine v_iconst hX (4) d_Mo_leafFor_3 ?_
  refine v_icmp_ge (tgt := 29) hX d_Mo_leafFor_4 (by decide) (by first | assumption | (unfold ir; omega)) (by first | assumption | (unfold ir; omega)) (fun c9 => absurd c9 (by omega)) (fun c9 => ?_)
  refine v_aload_n hX d_Mo_leafFor_7 1 rfl ?_
  refine g_get (i := 358) hX hj fl_Mo_54 d_Mo_leafFor_8 (by omega) hf13 rfl ?_
  refine v_iload_n hX d_Mo_leafFor_11 0 rfl ?_
  refine v_aload_n hX d_Mo_leafFor_12 1 rfl ?_
  refine g_get (i := 358) hX hj fl_Mo_13 d_Mo_leafFor_13 (by omega) hf13 rfl ?_
  refine v_iconst hX (4) d_Mo_leafFor_16 ?_
  refine v_iload_n hX d_Mo_leafFor_17 2 rfl ?_
  refine v_imulN (a := 4) (b := r) hX d_Mo_leafFor_18 ?_
  refine v_iload_n hX d_Mo_leafFor_19 0 rfl ?_
  refine v_iaddN (a := (4 * r)) (b := 2) hX d_Mo_leafFor_20 ?_
  refine g_iald (i := 360) hX hj d_Mo_leafFor_21 (by omega) hf15 (by decide) (((4 * r) + 2)) rfl (by omega) ?_
  refine v_top (x' := iv ((val r 2))) (congrArg iv (m2e r 2 (by omega) (by omega))) ?_
  refine g_iast (i := 371) hX hj d_Mo_leafFor_22 (by omega) hQ18.2.2.1 (by decide) (2) rfl (by omega) ?_
  obtain ⟨σ21, hs22⟩ : ∃ s9, s9 = va_up σ11 (371) (eJ G 4 (va_up (Q19 371) (2) ((val r 2)))) := ⟨_, rfl⟩
  rw [← hs22]
  have hf23 := (show σ21 (358) = σ11 (358) by rw [hs22, va_up_ne _ _ (by omega)]).trans hf13
  have hf24 := (show σ21 (359) = σ11 (359) by rw [hs22, va_up_ne _ _ (by omega)]).trans hf14
  have hf25 := (show σ21 (360) = σ11 (360) by rw [hs22, va_up_ne _ _ (by omega)]).trans hf15
  have hf26 := (show σ21 (361) = σ11 (361) by rw [hs22, va_up_ne _ _ (by omega)]).trans hf16
  have hf27 : σ21 (371) = (eJ G 4 (va_up (Q19 371) (2) ((val r 2)))) := by rw [hs22, va_up_self]
  obtain ⟨Q29, eQ30⟩ : ∃ Qq, Qq = va_up Q19 371 (va_up (Q19 371) (2) ((val r 2))) := ⟨_, rfl⟩
  have hQ28 : pMa G σ21 Q29 := by rw [eQ30]; exact hQ18.set 371 (fun i hi => by rw [hs22, va_up_ne _ _ hi]) (fun a b => absurd b (by decide)) (fun a b => absurd b (by decide)) (fun _ => (by rw [hs22, va_up_self])) (fun a => absurd a (by decide)) (fun a b => absurd a (by decide)) (fun a => absurd a (by decide))
  refine v_iincN (a := 2) (n := 1) (lv' := [(2, .int (iv (3))), (0, .ref (ad 358)), (1, .int (iv (((r : Nat) : Int))))]) hX d_Mo_leafFor_23 rfl 0 rfl (by decide) rfl ?_
  refine v_goto (tgt := 2) hX d_Mo_leafFor_26 (by decide) ?_
  refine v_iload_n hX d_Mo_leafFor_2 0 rfl ?_
  refine v_iconst hX (4) d_Mo_leafFor_3 ?_
  refine v_icmp_ge (tgt := 29) hX d_Mo_leafFor_4 (by decide) (by first | assumption | (unfold ir; omega)) (by first | assumption | (unfold ir; omega)) (fun c9 => absurd c9 (by omega)) (fun c9 => ?_)
  refine v_aload_n hX d_Mo_leafFor_7 1 rfl ?_
  refine g_get (i := 358) hX hj fl_Mo_54 d_Mo_leafFor_8 (by omega) hf23 rfl ?_
  refine v_iload_n hX d_Mo_leafFor_11 0 rfl ?_
  refine v_aload_n hX d_Mo_leafFor_12 1 rfl ?_
  refine g_get (i := 358) hX hj fl_Mo_13 d_Mo_leafFor_13 (by omega) hf23 rfl ?_
  refine v_iconst hX (4) d_Mo_leafFor_16 ?_
  refine v_iload_n hX d_Mo_leafFor_17 2 rfl ?_
  refine v_imulN (a := 4) (b := r) hX d_Mo_leafFor_18 ?_
  refine v_iload_n hX d_Mo_leafFor_19 0 rfl ?_
  refine v_iaddN (a := (4 * r)) (b := 3) hX d_Mo_leafFor_20 ?_
  refine g_iald (i := 360) hX hj d_Mo_leafFor_21 (by omega) hf25 (by decide) (((4 * r) + 3)) rfl (by omega) ?_
  refine v_top (x' := iv ((val r 3))) (congrArg iv (m2e r 3 (by omega) (by omega))) ?_
  refine g_iast (i := 371) hX hj d_Mo_leafFor_22 (by omega) hQ28.2.2.1 (by decide) (3) rfl (by omega) ?_
  obtain ⟨σ31, hs32⟩ : ∃ s9, s9 = va_up σ21 (371) (eJ G 4 (va_up (Q29 371) (3) ((val r 3)))) := ⟨_, rfl⟩
  rw [← hs32]
  have hf33 := (show σ31 (358) = σ21 (358) by rw [hs32, va_up_ne _ _ (by omega)]).trans hf23
  have hf34 := (show σ31 (359) = σ21 (359) by rw [hs32, va_up_ne _ _ (by omega)]).trans hf24
  have hf35 := (show σ31 (360) = σ21 (360) by rw [hs32, va_up_ne _ _ (by omega)]).trans hf25
  have hf36 := (show σ31 (361) = σ21 (361) by rw [hs32, va_up_ne _ _ (by omega)]).trans hf26
  have hf37 : σ31 (371) = (eJ G 4 (va_up (Q29 371) (3) ((val r 3)))) := by rw [hs32, va_up_self]
  obtain ⟨Q39, eQ40⟩ : ∃ Qq, Qq = va_up Q29 371 (va_up (Q29 371) (3) ((val r 3))) := ⟨_, rfl⟩
  have hQ38 : pMa G σ31 Q39 := by rw [eQ40]; exact hQ28.set 371 (fun i hi => by rw [hs32, va_up_ne _ _ hi]) (fun a b => absurd b (by decide)) (fun a b => absurd b (by decide)) (fun _ => (by rw [hs32, va_up_self])) (fun a => absurd a (by decide)) (fun a b => absurd a (by decide)) (fun a => absurd a (by decide))
  refine v_iincN (a := 3) (n := 1) (lv' := [(2, .int (iv (4))), (0, .ref (ad 358)), (1, .int (iv (((r : Nat) : Int))))]) hX d_Mo_leafFor_23 rfl 0 rfl (by decide) rfl ?_
  refine v_goto (tgt := 2) hX d_Mo_leafFor_26 (by decide) ?_
  refine v_iload_n hX d_Mo_leafFor_2 0 rfl ?_
  refine v_iconst hX (4) d_Mo_leafFor_3 ?_
  refine v_icmp_ge (tgt := 29) hX d_Mo_leafFor_4 (by decide) (by first | assumption | (unfold ir; omega)) (by first | assumption | (unfold ir; omega)) (fun c9 => ?_) (fun c9 => absurd c9 (by omega))
  refine v_aload_n hX d_Mo_leafFor_29 1 rfl ?_
  have eQ9 : Q39 = va_up Q 371 (as4 (Q 371) (val r 0) (val r 1) (val r 2) (val r 3)) := by rw [eQ40, eQ30, eQ20, eQ10]; unfold as4; simp only [va_up_self, bx_uu]
  have hG9 : moG Q39 s := moG_c hG (fun q a1 a2 => by rw [eQ9, va_up_ne _ _ (by omega)])
  have ha9 : ∀ q, q < 4 → Q39 371 q = (val r) q := fun q hq => by rw [eQ9, va_up_self]; match q, hq with | 0, _ => rfl | 1, _ => rfl | 2, _ => rfl | 3, _ => rfl
  have ht9 : ∀ q, q < 4 → tk (so q) (Q39 371 q) = true := fun q hq => by rw [ha9 q hq]; exact tks_iff.mp (d2 r hr) q hq
  refine g_callVI (As := []) (st := []) hX hj (i := 358) (by omega) hf33 (m_Mo_comesTo hj (hM.up (by rw [hs32, va_up_ne _ _ (by decide), hs22, va_up_ne _ _ (by decide), hs12, va_up_ne _ _ (by decide), hs2, va_up_ne _ _ (by decide)]; exact m0) (by rw [hs32, va_up_ne _ _ (by decide), hs22, va_up_ne _ _ (by decide), hs12, va_up_ne _ _ (by decide), hs2, va_up_ne _ _ (by decide)]) (by rw [hs32, va_up_ne _ _ (by decide), hs22, va_up_ne _ _ (by decide), hs12, va_up_ne _ _ (by decide), hs2, va_up_ne _ _ (by decide)]) (by rw [hs32, va_up_ne _ _ (by decide), hs22, va_up_ne _ _ (by decide), hs12, va_up_ne _ _ (by decide), hs2, va_up_ne _ _ (by decide)])) hD hQ38 hG9 hgi ht9) cl_Mo_187 d_Mo_leafFor_30 rfl ⟨by decide, by decide⟩ ⟨by decide, by decide⟩ (Nat.le_of_ble_eq_true rfl) (fun z41 σ42 hz43 hp44 => ?_)
  obtain ⟨he9, hv9, hb9⟩ := hp44
  rw [he9]
  have hkw : kWh 0 so (val r) s.2.1 s.2.2 5 0 = kWh 0 so (Q39 371) s.2.1 s.2.2 5 0 := (kWh_b ha9 hgi 5).symm
  rw [← hkw] at hv9 hb9
  rw [eQ9] at hQ38
  exact hret _ _ _ _ d_Mo_leafFor_33 hz43 ⟨_, rfl, (hM.up (by rw [hs32, va_up_ne _ _ (by decide), hs22, va_up_ne _ _ (by decide), hs12, va_up_ne _ _ (by decide), hs2, va_up_ne _ _ (by decide)]; exact m0) (by rw [hs32, va_up_ne _ _ (by decide), hs22, va_up_ne _ _ (by decide), hs12, va_up_ne _ _ (by decide), hs2, va_up_ne _ _ (by decide)]) (by rw [hs32, va_up_ne _ _ (by decide), hs22, va_up_ne _ _ (by decide), hs12, va_up_ne _ _ (by decide), hs2, va_up_ne _ _ (by decide)]) (by rw [hs32, va_up_ne _ _ (by decide), hs22, va_up_ne _ _ (by decide), hs12, va_up_ne _ _ (by decide), hs2, va_up_ne _ _ (by decide)])), hQ38, (fun i i1 => by rw [hs32, va_up_ne _ _ i1, hs22, va_up_ne _ _ i1, hs12, va_up_ne _ _ i1, hs2, va_up_ne _ _ i1]), hv9, hb9⟩ rfl

set_option maxHeartbeats 1000000 in
set_option maxRecDepth 100000 in
theorem m_Mo_leafOf {G : xG} {f0 : xF} {ad : Nat → Nat} (hj : adOk ad 400) {σ : xF} {n : Nat} {val : Nat → Nat → Int} {cl so : Nat → Nat} {de le wo : Nat} {S : Nat → Int} (hM : pMo G ad σ n val cl so de le wo S) (hD : dTab n val cl so) {Q : Nat → Nat → Int} (hQ : pMa G σ Q) (hle : le ≤ 10) (hle1 : 1 ≤ le) (hde : de ≤ 5) (hwo : wo ≤ 1000) (hbt : S 7 = 0 ∨ (S 7 = 1 ∧ moB so (mC n cl) (mK n val) (mLf n val so) le de wo n S Q)) (r : Int) (hr : ir r) : ∀ l, gI l G f0 ad 400 y_Mo_leafOf (.code y_Mo_leafOf c_Mo_leafOf 2 (some (.int))) rm_Mo_leafOf [.ref (ad 358), .int (iv (r))] σ (fun z σ' => (¬ (0 ≤ r ∧ r < (n : Int)) ∧ z = -1 ∧ σ' = σ) ∨ ((0 ≤ r ∧ r < (n : Int)) ∧ ∃ Sv Qv, pMo G ad σ' n val cl so de le wo Sv ∧ pMa G σ' Qv ∧ Sv 7 = 1 ∧ moB so (mC n cl) (mK n val) (mLf n val so) le de wo n Sv Qv ∧ (∀ i, i < 358 → σ' i = σ i) ∧ z = ((kWh 0 so (val r.toNat) (cTr so (mC n cl) (mK n val) (mLf n val so) le de wo (2 ^ n - 1)).2.1 (cTr so (mC n cl) (mK n val) (mLf n val so) le de wo (2 ^ n - 1)).2.2 5 0 : Nat) : Int))) := by
  intro l
  refine mI_of (rt := .int) (by decide) (Nat.le_of_ble_eq_true rfl) (fun X hX hret => ?_)
  show vV G X 0 0 0 [(0, .ref (ad 358)), (1, .int (iv (r)))] [] (ov f0 ad 400 σ)
  obtain ⟨m0, ⟨sf, m1, m1e⟩, ⟨vf, m2, m2e⟩, ⟨cf, m3, m3e⟩⟩ := id hM
  obtain ⟨d1, d2, d3, d4⟩ := id hD
  have hs : 2 ^ n - 1 < 2 ^ n := by have h2 : 0 < 2 ^ n := Nat.two_pow_pos n; omega
  refine v_iload_n hX d_Mo_leafOf_0 1 rfl ?_
  refine v_if_lt (tgt := 12) hX d_Mo_leafOf_1 (by decide) (by first | assumption | (unfold ir; omega)) (fun c1_1 => ?_) (fun c1_1 => ?_)
  · refine v_iconst hX (-1) d_Mo_leafOf_12 ?_
    exact hret _ _ _ _ d_Mo_leafOf_13 (by unfold ir; omega) ⟨_, rfl, Or.inl ⟨by omega, rfl, rfl⟩⟩ rfl
  · refine v_iload_n hX d_Mo_leafOf_4 1 rfl ?_
    refine v_aload_n hX d_Mo_leafOf_5 0 rfl ?_
    refine g_get (i := 358) hX hj fl_Mo_69 d_Mo_leafOf_6 (by omega) m0 rfl ?_
    refine v_icmp_lt (tgt := 14) hX d_Mo_leafOf_9 (by decide) (by first | assumption | (unfold ir; omega)) (by first | assumption | (unfold ir; omega)) (fun c9_2 => ?_) (fun c9_2 => ?_)
    · refine v_aload_n hX d_Mo_leafOf_14 0 rfl ?_
      refine g_callVV (As := []) (st := []) hX hj (i := 358) (by omega) m0 (m_Mo_build hj hM hD hQ hle hle1 hde hwo hbt) cl_Mo_173 d_Mo_leafOf_15 rfl ⟨by decide, by decide⟩ ⟨by decide, by decide⟩ (Nat.le_of_ble_eq_true rfl) (fun σ2 hp4 => ?_)
      obtain ⟨Sv, Qv, vP, vQ, v7, vB, vF⟩ := hp4
      obtain ⟨s, hss, h15, hG, k, h26, hE, hrs, hal⟩ := id vB
      have hgi : gInv 0 s := by rw [hss]; exact cTr_g hde d1 hs
      have hs47 := hgi.1.2.1
      have hs1 := hgi.1.1
      refine v_aload_n hX d_Mo_leafOf_18 0 rfl ?_
      refine v_iload_n hX d_Mo_leafOf_19 1 rfl ?_
      refine v_eq (st' := [.int (iv (((r.toNat : Nat) : Int))), .ref (ad 358)]) (by rw [show ((r.toNat : Nat) : Int) = r by omega]) ?_
      refine g_callVI (As := [.int (iv (((r.toNat : Nat) : Int)))]) (st := []) hX hj (i := 358) (by omega) vP.1 (m_Mo_leafFor hj vP hD vQ hG hgi r.toNat (by omega)) cl_Mo_191 d_Mo_leafOf_20 rfl ⟨by decide, by decide⟩ ⟨by decide, by decide⟩ (Nat.le_of_ble_eq_true rfl) (fun z5 σ6 hz7 hp8 => ?_)
      obtain ⟨p1, p2, p3, p4, p5⟩ := hp8
      exact hret _ _ _ _ d_Mo_leafOf_23 hz7 ⟨_, rfl, Or.inr ⟨by omega, Sv, ak4 Qv (val r.toNat 0) (val r.toNat 1) (val r.toNat 2) (val r.toNat 3), p1, p2, v7, ⟨s, hss, h15, moG_c hG (fun q a1 a2 => va_up_ne _ _ (by omega)), k, h26, hE, hrs, hal⟩, (fun i hi => (p3 i (by omega)).trans (vF i hi)), by rw [← hss]; exact p4⟩⟩ rfl
    · refine v_iconst hX (-1) d_Mo_leafOf_12 ?_
      exact hret _ _ _ _ d_Mo_leafOf_13 (by unfold ir; omega) ⟨_, rfl, Or.inl ⟨by omega, rfl, rfl⟩⟩ rfl

set_option maxHeartbeats 1000000 in
set_option maxRecDepth 100000 in
theorem m_Mo_leaf {G : xG} {f0 : xF} {ad : Nat → Nat} (hj : adOk ad 400) {σ : xF} {n : Nat} {val : Nat → Nat → Int} {cl so : Nat → Nat} {de le wo : Nat} {S : Nat → Int} (hM : pMo G ad σ n val cl so de le wo S) (hD : dTab n val cl so) {Q : Nat → Nat → Int} (hQ : pMa G σ Q) (hle : le ≤ 10) (hle1 : 1 ≤ le) (hde : de ≤ 5) (hwo : wo ≤ 1000) (hbt : S 7 = 0 ∨ (S 7 = 1 ∧ moB so (mC n cl) (mK n val) (mLf n val so) le de wo n S Q)) (a b c d : Int) (ha : ir a) (hb : ir b) (hc : ir c) (hd : ir d) : ∀ l, gI l G f0 ad 400 y_Mo_leaf (.code y_Mo_leaf c_Mo_leaf 5 (some (.int))) rm_Mo_leaf [.ref (ad 358), .int (iv (a)), .int (iv (b)), .int (iv (c)), .int (iv (d))] σ (fun z σ' => (¬ tks so (a4 a b c d) = true ∧ z = -2 ∧ σ' = σ) ∨ (tks so (a4 a b c d) = true ∧ ∃ Sv Qv, pMo G ad σ' n val cl so de le wo Sv ∧ pMa G σ' Qv ∧ Sv 7 = 1 ∧ moB so (mC n cl) (mK n val) (mLf n val so) le de wo n Sv Qv ∧ (∀ i, i < 358 → σ' i = σ i) ∧ z = ((kWh 0 so (a4 a b c d) (cTr so (mC n cl) (mK n val) (mLf n val so) le de wo (2 ^ n - 1)).2.1 (cTr so (mC n cl) (mK n val) (mLf n val so) le de wo (2 ^ n - 1)).2.2 5 0 : Nat) : Int))) := by
  intro l
  refine mI_of (rt := .int) (by decide) (Nat.le_of_ble_eq_true rfl) (fun X hX hret => ?_)
  show vV G X 0 0 0 [(0, .ref (ad 358)), (1, .int (iv (a))), (2, .int (iv (b))), (3, .int (iv (c))), (4, .int (iv (d)))] [] (ov f0 ad 400 σ)
  obtain ⟨m0, ⟨sf, m1, m1e⟩, ⟨vf, m2, m2e⟩, ⟨cf, m3, m3e⟩⟩ := id hM
  obtain ⟨d1, d2, d3, d4⟩ := id hD
  have hs : 2 ^ n - 1 < 2 ^ n := by have h2 : 0 < 2 ^ n := Nat.two_pow_pos n; omega
  refine v_aload_n hX d_Mo_leaf_0 0 rfl ?_
  refine v_iconst hX (0) d_Mo_leaf_1 ?_
  refine v_iload_n hX d_Mo_leaf_2 1 rfl ?_
  refine g_callVI (As := [.int (iv (0)), .int (iv (a))]) (st := []) hX hj (i := 358) (by omega) m0 (m_Mo_isValue hj hM hD 0 (by decide) a (by assumption)) cl_Mo_72 d_Mo_leaf_3 rfl ⟨by decide, by decide⟩ ⟨by decide, by decide⟩ (Nat.le_of_ble_eq_true rfl) (fun z1 σ2 hz3 hp4 => ?_)
  obtain ⟨he5, hv6⟩ := hp4
  rw [he5]
  by_cases qz1 : tk (so 0) a = true
  · have z1e : z1 = 1 := hv6.trans (if_pos qz1)
    subst z1e
    refine v_if_eq (tgt := 37) hX d_Mo_leaf_6 (by decide) (by first | assumption | (unfold ir; omega)) (fun c9 => absurd c9 (by omega)) (fun c9 => ?_)
    refine v_aload_n hX d_Mo_leaf_9 0 rfl ?_
    refine v_iconst hX (1) d_Mo_leaf_10 ?_
    refine v_iload_n hX d_Mo_leaf_11 2 rfl ?_
    refine g_callVI (As := [.int (iv (1)), .int (iv (b))]) (st := []) hX hj (i := 358) (by omega) m0 (m_Mo_isValue hj hM hD 1 (by decide) b (by assumption)) cl_Mo_72 d_Mo_leaf_12 rfl ⟨by decide, by decide⟩ ⟨by decide, by decide⟩ (Nat.le_of_ble_eq_true rfl) (fun z7 σ8 hz9 hp10 => ?_)
    obtain ⟨he11, hv12⟩ := hp10
    rw [he11]
    by_cases qz7 : tk (so 1) b = true
    · have z7e : z7 = 1 := hv12.trans (if_pos qz7)
      subst z7e
      refine v_if_eq (tgt := 37) hX d_Mo_leaf_15 (by decide) (by first | assumption | (unfold ir; omega)) (fun c9 => absurd c9 (by omega)) (fun c9 => ?_)
      refine v_aload_n hX d_Mo_leaf_18 0 rfl ?_
      refine v_iconst hX (2) d_Mo_leaf_19 ?_
      refine v_iload_n hX d_Mo_leaf_20 3 rfl ?_
      refine g_callVI (As := [.int (iv (2)), .int (iv (c))]) (st := []) hX hj (i := 358) (by omega) m0 (m_Mo_isValue hj hM hD 2 (by decide) c (by assumption)) cl_Mo_72 d_Mo_leaf_21 rfl ⟨by decide, by decide⟩ ⟨by decide, by decide⟩ (Nat.le_of_ble_eq_true rfl) (fun z13 σ14 hz15 hp16 => ?_)
      obtain ⟨he17, hv18⟩ := hp16
      rw [he17]
      by_cases qz13 : tk (so 2) c = true
      · have z13e : z13 = 1 := hv18.trans (if_pos qz13)
        subst z13e
        refine v_if_eq (tgt := 37) hX d_Mo_leaf_24 (by decide) (by first | assumption | (unfold ir; omega)) (fun c9 => absurd c9 (by omega)) (fun c9 => ?_)
        refine v_aload_n hX d_Mo_leaf_27 0 rfl ?_
        refine v_iconst hX (3) d_Mo_leaf_28 ?_
        refine v_iload hX d_Mo_leaf_29 4 rfl ?_
        refine g_callVI (As := [.int (iv (3)), .int (iv (d))]) (st := []) hX hj (i := 358) (by omega) m0 (m_Mo_isValue hj hM hD 3 (by decide) d (by assumption)) cl_Mo_72 d_Mo_leaf_31 rfl ⟨by decide, by decide⟩ ⟨by decide, by decide⟩ (Nat.le_of_ble_eq_true rfl) (fun z19 σ20 hz21 hp22 => ?_)
        obtain ⟨he23, hv24⟩ := hp22
        rw [he23]
        by_cases qz19 : tk (so 3) d = true
        · have z19e : z19 = 1 := hv24.trans (if_pos qz19)
          subst z19e
          refine v_if_ne (tgt := 40) hX d_Mo_leaf_34 (by decide) (by first | assumption | (unfold ir; omega)) (fun c9 => ?_) (fun c9 => absurd c9 (by omega))
          refine v_aload_n hX d_Mo_leaf_40 0 rfl ?_
          refine g_callVV (As := []) (st := []) hX hj (i := 358) (by omega) m0 (m_Mo_build hj hM hD hQ hle hle1 hde hwo hbt) cl_Mo_173 d_Mo_leaf_41 rfl ⟨by decide, by decide⟩ ⟨by decide, by decide⟩ (Nat.le_of_ble_eq_true rfl) (fun σ26 hp28 => ?_)
          obtain ⟨Sv, Qv, vP, vQ, v7, vB, vF⟩ := hp28
          obtain ⟨s, hss, h15, hG, k, h26, hE, hrs, hal⟩ := id vB
          have hgi : gInv 0 s := by rw [hss]; exact cTr_g hde d1 hs
          have hs47 := hgi.1.2.1
          have hs1 := hgi.1.1
          refine v_aload_n hX d_Mo_leaf_44 0 rfl ?_
          refine g_get (i := 358) hX hj fl_Mo_54 d_Mo_leaf_45 (by omega) vP.1 rfl ?_
          refine v_iconst hX (0) d_Mo_leaf_48 ?_
          refine v_iload_n hX d_Mo_leaf_49 1 rfl ?_
          refine g_iast (i := 371) hX hj d_Mo_leaf_50 (by omega) vQ.2.2.1 (by decide) (0) rfl (by omega) ?_
          obtain ⟨σ29, hs30⟩ : ∃ s9, s9 = va_up σ26 (371) (eJ G 4 (va_up (Qv 371) (0) (a))) := ⟨_, rfl⟩
          rw [← hs30]
          have hf31 := (show σ29 (358) = σ26 (358) by rw [hs30, va_up_ne _ _ (by omega)]).trans vP.1
          have hf32 : σ29 (371) = (eJ G 4 (va_up (Qv 371) (0) (a))) := by rw [hs30, va_up_self]
          obtain ⟨Q34, eQ35⟩ : ∃ Qq, Qq = va_up Qv 371 (va_up (Qv 371) (0) (a)) := ⟨_, rfl⟩
          have hQ33 : pMa G σ29 Q34 := by rw [eQ35]; exact vQ.set 371 (fun i hi => by rw [hs30, va_up_ne _ _ hi]) (fun a b => absurd b (by decide)) (fun a b => absurd b (by decide)) (fun _ => (by rw [hs30, va_up_self])) (fun a => absurd a (by decide)) (fun a b => absurd a (by decide)) (fun a => absurd a (by decide))
          refine v_aload_n hX d_Mo_leaf_51 0 rfl ?_
          refine g_get (i := 358) hX hj fl_Mo_54 d_Mo_leaf_52 (by omega) hf31 rfl ?_
          refine v_iconst hX (1) d_Mo_leaf_55 ?_
          refine v_iload_n hX d_Mo_leaf_56 2 rfl ?_
          refine g_iast (i := 371) hX hj d_Mo_leaf_57 (by omega) hQ33.2.2.1 (by decide) (1) rfl (by omega) ?_
          obtain ⟨σ36, hs37⟩ : ∃ s9, s9 = va_up σ29 (371) (eJ G 4 (va_up (Q34 371) (1) (b))) := ⟨_, rfl⟩
          rw [← hs37]
          have hf38 := (show σ36 (358) = σ29 (358) by rw [hs37, va_up_ne _ _ (by omega)]).trans hf31
          have hf39 : σ36 (371) = (eJ G 4 (va_up (Q34 371) (1) (b))) := by rw [hs37, va_up_self]
          obtain ⟨Q41, eQ42⟩ : ∃ Qq, Qq = va_up Q34 371 (va_up (Q34 371) (1) (b)) := ⟨_, rfl⟩
          have hQ40 : pMa G σ36 Q41 := by rw [eQ42]; exact hQ33.set 371 (fun i hi => by rw [hs37, va_up_ne _ _ hi]) (fun a b => absurd b (by decide)) (fun a b => absurd b (by decide)) (fun _ => (by rw [hs37, va_up_self])) (fun a => absurd a (by decide)) (fun a b => absurd a (by decide)) (fun a => absurd a (by decide))
          refine v_aload_n hX d_Mo_leaf_58 0 rfl ?_
          refine g_get (i := 358) hX hj fl_Mo_54 d_Mo_leaf_59 (by omega) hf38 rfl ?_
          refine v_iconst hX (2) d_Mo_leaf_62 ?_
          refine v_iload_n hX d_Mo_leaf_63 3 rfl ?_
          refine g_iast (i := 371) hX hj d_Mo_leaf_64 (by omega) hQ40.2.2.1 (by decide) (2) rfl (by omega) ?_
          obtain ⟨σ43, hs44⟩ : ∃ s9, s9 = va_up σ36 (371) (eJ G 4 (va_up (Q41 371) (2) (c))) := ⟨_, rfl⟩
          rw [← hs44]
          have hf45 := (show σ43 (358) = σ36 (358) by rw [hs44, va_up_ne _ _ (by omega)]).trans hf38
          have hf46 : σ43 (371) = (eJ G 4 (va_up (Q41 371) (2) (c))) := by rw [hs44, va_up_self]
          obtain ⟨Q48, eQ49⟩ : ∃ Qq, Qq = va_up Q41 371 (va_up (Q41 371) (2) (c)) := ⟨_, rfl⟩
          have hQ47 : pMa G σ43 Q48 := by rw [eQ49]; exact hQ40.set 371 (fun i hi => by rw [hs44, va_up_ne _ _ hi]) (fun a b => absurd b (by decide)) (fun a b => absurd b (by decide)) (fun _ => (by rw [hs44, va_up_self])) (fun a => absurd a (by decide)) (fun a b => absurd a (by decide)) (fun a => absurd a (by decide))
          refine v_aload_n hX d_Mo_leaf_65 0 rfl ?_
          refine g_get (i := 358) hX hj fl_Mo_54 d_Mo_leaf_66 (by omega) hf45 rfl ?_
          refine v_iconst hX (3) d_Mo_leaf_69 ?_
          refine v_iload hX d_Mo_leaf_70 4 rfl ?_
          refine g_iast (i := 371) hX hj d_Mo_leaf_72 (by omega) hQ47.2.2.1 (by decide) (3) rfl (by omega) ?_
          obtain ⟨σ50, hs51⟩ : ∃ s9, s9 = va_up σ43 (371) (eJ G 4 (va_up (Q48 371) (3) (d))) := ⟨_, rfl⟩
          rw [← hs51]
          have hf52 := (show σ50 (358) = σ43 (358) by rw [hs51, va_up_ne _ _ (by omega)]).trans hf45
          have hf53 : σ50 (371) = (eJ G 4 (va_up (Q48 371) (3) (d))) := by rw [hs51, va_up_self]
          obtain ⟨Q55, eQ56⟩ : ∃ Qq, Qq = va_up Q48 371 (va_up (Q48 371) (3) (d)) := ⟨_, rfl⟩
          have hQ54 : pMa G σ50 Q55 := by rw [eQ56]; exact hQ47.set 371 (fun i hi => by rw [hs51, va_up_ne _ _ hi]) (fun a b => absurd b (by decide)) (fun a b => absurd b (by decide)) (fun _ => (by rw [hs51, va_up_self])) (fun a => absurd a (by decide)) (fun a b => absurd a (by decide)) (fun a => absurd a (by decide))
          refine v_aload_n hX d_Mo_leaf_73 0 rfl ?_
          have eQ9 : Q55 = va_up Qv 371 (as4 (Qv 371) a b c d) := by rw [eQ56, eQ49, eQ42, eQ35]; unfold as4; simp only [va_up_self, bx_uu]
          have hG9 : moG Q55 s := moG_c hG (fun q a1 a2 => by rw [eQ9, va_up_ne _ _ (by omega)])
          have ha9 : ∀ q, q < 4 → Q55 371 q = a4 a b c d q := fun q hq => by rw [eQ9, va_up_self]; exact as4_e _ a b c d q hq
          have htk : tks so (a4 a b c d) = true := tks_4 (by assumption) (by assumption) (by assumption) (by assumption)
          have ht9 : ∀ q, q < 4 → tk (so q) (Q55 371 q) = true := fun q hq => by rw [ha9 q hq]; exact tks_iff.mp htk q hq
          refine g_callVI (As := []) (st := []) hX hj (i := 358) (by omega) hf52 (m_Mo_comesTo hj (vP.up (by rw [hs51, va_up_ne _ _ (by decide), hs44, va_up_ne _ _ (by decide), hs37, va_up_ne _ _ (by decide), hs30, va_up_ne _ _ (by decide)]; exact vP.1) (by rw [hs51, va_up_ne _ _ (by decide), hs44, va_up_ne _ _ (by decide), hs37, va_up_ne _ _ (by decide), hs30, va_up_ne _ _ (by decide)]) (by rw [hs51, va_up_ne _ _ (by decide), hs44, va_up_ne _ _ (by decide), hs37, va_up_ne _ _ (by decide), hs30, va_up_ne _ _ (by decide)]) (by rw [hs51, va_up_ne _ _ (by decide), hs44, va_up_ne _ _ (by decide), hs37, va_up_ne _ _ (by decide), hs30, va_up_ne _ _ (by decide)])) hD hQ54 hG9 hgi ht9) cl_Mo_187 d_Mo_leaf_74 rfl ⟨by decide, by decide⟩ ⟨by decide, by decide⟩ (Nat.le_of_ble_eq_true rfl) (fun z57 σ58 hz59 hp60 => ?_)
          obtain ⟨he9, hv9, hb9⟩ := hp60
          rw [he9]
          have hkw : kWh 0 so (a4 a b c d) s.2.1 s.2.2 5 0 = kWh 0 so (Q55 371) s.2.1 s.2.2 5 0 := (kWh_b ha9 hgi 5).symm
          rw [← hkw] at hv9 hb9
          rw [eQ9] at hQ54
          exact hret _ _ _ _ d_Mo_leaf_77 hz59 ⟨_, rfl, Or.inr ⟨htk, Sv, va_up Qv 371 (as4 (Qv 371) a b c d), (vP.up (by rw [hs51, va_up_ne _ _ (by decide), hs44, va_up_ne _ _ (by decide), hs37, va_up_ne _ _ (by decide), hs30, va_up_ne _ _ (by decide)]; exact vP.1) (by rw [hs51, va_up_ne _ _ (by decide), hs44, va_up_ne _ _ (by decide), hs37, va_up_ne _ _ (by decide), hs30, va_up_ne _ _ (by decide)]) (by rw [hs51, va_up_ne _ _ (by decide), hs44, va_up_ne _ _ (by decide), hs37, va_up_ne _ _ (by decide), hs30, va_up_ne _ _ (by decide)]) (by rw [hs51, va_up_ne _ _ (by decide), hs44, va_up_ne _ _ (by decide), hs37, va_up_ne _ _ (by decide), hs30, va_up_ne _ _ (by decide)])), hQ54, v7, ⟨s, hss, h15, moG_c hG (fun q a1 a2 => va_up_ne _ _ (by omega)), k, h26, hE, hrs, hal⟩, (fun i hi => by rw [hs51, va_up_ne _ _ (by omega), hs44, va_up_ne _ _ (by omega), hs37, va_up_ne _ _ (by omega), hs30, va_up_ne _ _ (by omega)]; exact vF i hi), by rw [← hss]; exact hv9⟩⟩ rfl
        · have z19e : z19 = 0 := hv24.trans (if_neg qz19)
          subst z19e
          refine v_if_ne (tgt := 40) hX d_Mo_leaf_34 (by decide) (by first | assumption | (unfold ir; omega)) (fun c9 => absurd c9 (by omega)) (fun c9 => ?_)
          refine v_bipush hX (-2) d_Mo_leaf_37 rfl ?_
          exact hret _ _ _ _ d_Mo_leaf_39 (by unfold ir; omega) ⟨_, rfl, Or.inl ⟨(fun q => by have t0 := tks_iff.mp q 0 (by decide); have t1 := tks_iff.mp q 1 (by decide); have t2 := tks_iff.mp q 2 (by decide); have t3 := tks_iff.mp q 3 (by decide); first | exact absurd t0 (by assumption) | exact absurd t1 (by assumption) | exact absurd t2 (by assumption) | exact absurd t3 (by assumption)), rfl, rfl⟩⟩ rfl
      · have z13e : z13 = 0 := hv18.trans (if_neg qz13)
        subst z13e
        refine v_if_eq (tgt := 37) hX d_Mo_leaf_24 (by decide) (by first | assumption | (unfold ir; omega)) (fun c9 => ?_) (fun c9 => absurd c9 (by omega))
        refine v_bipush hX (-2) d_Mo_leaf_37 rfl ?_
        exact hret _ _ _ _ d_Mo_leaf_39 (by unfold ir; omega) ⟨_, rfl, Or.inl ⟨(fun q => by have t0 := tks_iff.mp q 0 (by decide); have t1 := tks_iff.mp q 1 (by decide); have t2 := tks_iff.mp q 2 (by decide); have t3 := tks_iff.mp q 3 (by decide); first | exact absurd t0 (by assumption) | exact absurd t1 (by assumption) | exact absurd t2 (by assumption) | exact absurd t3 (by assumption)), rfl, rfl⟩⟩ rfl
    · have z7e : z7 = 0 := hv12.trans (if_neg qz7)
      subst z7e
      refine v_if_eq (tgt := 37) hX d_Mo_leaf_15 (by decide) (by first | assumption | (unfold ir; omega)) (fun c9 => ?_) (fun c9 => absurd c9 (by omega))
      refine v_bipush hX (-2) d_Mo_leaf_37 rfl ?_
      exact hret _ _ _ _ d_Mo_leaf_39 (by unfold ir; omega) ⟨_, rfl, Or.inl ⟨(fun q => by have t0 := tks_iff.mp q 0 (by decide); have t1 := tks_iff.mp q 1 (by decide); have t2 := tks_iff.mp q 2 (by decide); have t3 := tks_iff.mp q 3 (by decide); first | exact absurd t0 (by assumption) | exact absurd t1 (by assumption) | exact absurd t2 (by assumption) | exact absurd t3 (by assumption)), rfl, rfl⟩⟩ rfl
  · have z1e : z1 = 0 := hv6.trans (if_neg qz1)
    subst z1e
    refine v_if_eq (tgt := 37) hX d_Mo_leaf_6 (by decide) (by first | assumption | (unfold ir; omega)) (fun c9 => ?_) (fun c9 => absurd c9 (by omega))
    refine v_bipush hX (-2) d_Mo_leaf_37 rfl ?_
    exact hret _ _ _ _ d_Mo_leaf_39 (by unfold ir; omega) ⟨_, rfl, Or.inl ⟨(fun q => by have t0 := tks_iff.mp q 0 (by decide); have t1 := tks_iff.mp q 1 (by decide); have t2 := tks_iff.mp q 2 (by decide); have t3 := tks_iff.mp q 3 (by decide); first | exact absurd t0 (by assumption) | exact absurd t1 (by assumption) | exact absurd t2 (by assumption) | exact absurd t3 (by assumption)), rfl, rfl⟩⟩ rfl

set_option maxHeartbeats 1000000 in
set_option maxRecDepth 100000 in
theorem m_Mo_leftOut {G : xG} {f0 : xF} {ad : Nat → Nat} (hj : adOk ad 400) {σ : xF} {n : Nat} {val : Nat → Nat → Int} {cl so : Nat → Nat} {de le wo : Nat} {S : Nat → Int} (hM : pMo G ad σ n val cl so de le wo S) (hD : dTab n val cl so) {Q : Nat → Nat → Int} (hQ : pMa G σ Q) (hle : le ≤ 10) (hle1 : 1 ≤ le) (hde : de ≤ 5) (hwo : wo ≤ 1000) : ∀ l, gI l G f0 ad 400 y_Mo_leftOut (.code y_Mo_leftOut c_Mo_leftOut 3 (some (.int))) rm_Mo_leftOut [.ref (ad 358)] σ (fun z σ' => ∃ Sv Qv, pMo G ad σ' n val cl so de le wo Sv ∧ pMa G σ' Qv ∧ Sv 7 = 0 ∧ (∀ i, i < 358 → σ' i = σ i) ∧ z = (kOut val cl so (mC n cl) (mK n val) (mLf n val so) le de wo n n)) := by
  intro l
  refine mI_of (rt := .int) (by decide) (Nat.le_of_ble_eq_true rfl) (fun X hX hret => ?_)
  show vV G X 0 0 0 [(0, .ref (ad 358))] [] (ov f0 ad 400 σ)
  obtain ⟨m0, ⟨sf, m1, m1e⟩, ⟨vf, m2, m2e⟩, ⟨cf, m3, m3e⟩⟩ := id hM
  obtain ⟨d1, d2, d3, d4⟩ := id hD
  have hs : 2 ^ n - 1 < 2 ^ n := by have h2 : 0 < 2 ^ n := Nat.two_pow_pos n; omega
  refine v_iconst hX (0) d_Mo_leftOut_0 ?_
  refine v_istore_n (lv' := [(1, .int (iv (0))), (0, .ref (ad 358))]) hX d_Mo_leftOut_1 rfl (by decide) rfl ?_
  refine v_iconst hX (0) d_Mo_leftOut_2 ?_
  refine v_istore_n (lv' := [(2, .int (iv (0))), (1, .int (iv (0))), (0, .ref (ad 358))]) hX d_Mo_leftOut_3 rfl (by decide) rfl ?_
  have LOOP : ∀ (fuel : Nat) (r : Nat) (σv : xF) (Sv : Nat → Int) (Qv : Nat → Nat → Int), n - r < fuel → (r ≤ n) → (pMo G ad σv n val cl so de le wo Sv) → (pMa G σv Qv) → (∀ i, i < 358 → σv i = σ i) → vV G X 0 0 4 [(0, .ref (ad 358)), (1, .int (iv ((kOut val cl so (mC n cl) (mK n val) (mLf n val so) le de wo n r)))), (2, .int (iv (((r : Nat) : Int))))] [] (ov f0 ad 400 σv) := by
    intro fuel
    induction fuel with
    | zero => intro r σv Sv Qv hm; exact absurd hm (Nat.not_lt_zero _)
    | succ fuel ih_LOOP =>
      intro r σv Sv Qv hm hr hP hQv hFr
      have ko := kOut_le val cl so (mC n cl) (mK n val) (mLf n val so) le de wo n r
      refine v_iload_n hX d_Mo_leftOut_4 2 rfl ?_
      refine v_aload_n hX d_Mo_leftOut_5 0 rfl ?_
      refine g_get (i := 358) hX hj fl_Mo_69 d_Mo_leftOut_6 (by omega) hP.1 rfl ?_
      refine v_icmp_ge (tgt := 67) hX d_Mo_leftOut_9 (by decide) (by first | assumption | (unfold ir; omega) | (have := d3 r; unfold ir; omega)) (by first | assumption | (unfold ir; omega) | (have := d3 r; unfold ir; omega)) (fun c9_1 => ?_) (fun c9_1 => ?_)
      · refine v_aload_n hX d_Mo_leftOut_67 0 rfl ?_
        refine v_iconst hX (0) d_Mo_leftOut_68 ?_
        refine g_put (i := 358) (fs' := [.ref (ad 359), .int (iv (((n : Nat) : Int))), .ref (ad 360), .ref (ad 361), .int (iv (((de : Nat) : Int))), .int (iv (((le : Nat) : Int))), .int (iv (((wo : Nat) : Int))), .int (iv (0)), .long (jv ((Sv 8))), .long (jv ((Sv 9))), .int (iv ((Sv 10))), .int (iv ((Sv 11))), .int (iv ((Sv 12))), .long (jv ((Sv 13))), .long (jv ((Sv 14))), .int (iv ((Sv 15))), .ref (ad 362), .ref (ad 363), .ref (ad 364), .ref (ad 365), .ref (ad 366), .ref (ad 367), .ref (ad 368), .ref (ad 369), .ref (ad 370), .ref (ad 371), .int (iv ((Sv 26))), .ref (ad 372), .ref (ad 373), .ref (ad 374), .ref (ad 375), .int (iv ((Sv 31))), .int (iv ((Sv 32)))]) hX hj pf_Mo_76 d_Mo_leftOut_69 (by omega) hP.1 rfl rfl (Nat.le_of_ble_eq_true rfl) rfl ?_
        obtain ⟨σ1, hs2⟩ : ∃ s9, s9 = va_up σv (358) (eO 9 [.ref (ad 359), .int (iv (((n : Nat) : Int))), .ref (ad 360), .ref (ad 361), .int (iv (((de : Nat) : Int))), .int (iv (((le : Nat) : Int))), .int (iv (((wo : Nat) : Int))), .int (iv (0)), .long (jv ((Sv 8))), .long (jv ((Sv 9))), .int (iv ((Sv 10))), .int (iv ((Sv 11))), .int (iv ((Sv 12))), .long (jv ((Sv 13))), .long (jv ((Sv 14))), .int (iv ((Sv 15))), .ref (ad 362), .ref (ad 363), .ref (ad 364), .ref (ad 365), .ref (ad 366), .ref (ad 367), .ref (ad 368), .ref (ad 369), .ref (ad 370), .ref (ad 371), .int (iv ((Sv 26))), .ref (ad 372), .ref (ad 373), .ref (ad 374), .ref (ad 375), .int (iv ((Sv 31))), .int (iv ((Sv 32)))]) := ⟨_, rfl⟩
        rw [← hs2]
        have hf4 : σ1 (358) = (eO 9 [.ref (ad 359), .int (iv (((n : Nat) : Int))), .ref (ad 360), .ref (ad 361), .int (iv (((de : Nat) : Int))), .int (iv (((le : Nat) : Int))), .int (iv (((wo : Nat) : Int))), .int (iv (0)), .long (jv ((Sv 8))), .long (jv ((Sv 9))), .int (iv ((Sv 10))), .int (iv ((Sv 11))), .int (iv ((Sv 12))), .long (jv ((Sv 13))), .long (jv ((Sv 14))), .int (iv ((Sv 15))), .ref (ad 362), .ref (ad 363), .ref (ad 364), .ref (ad 365), .ref (ad 366), .ref (ad 367), .ref (ad 368), .ref (ad 369), .ref (ad 370), .ref (ad 371), .int (iv ((Sv 26))), .ref (ad 372), .ref (ad 373), .ref (ad 374), .ref (ad 375), .int (iv ((Sv 31))), .int (iv ((Sv 32)))]) := by rw [hs2, va_up_self]
        have hQ5 : pMa G σ1 Qv := hQv.oth (fun i h1 h2 => by rw [hs2, va_up_ne _ _ (by omega)])
        refine v_iload_n hX d_Mo_leftOut_72 1 rfl ?_
        have er : r = n := by omega
        rw [er] at ko ⊢
        have hPm : pMo G ad σ1 n val cl so de le wo (va_up Sv 7 0) := hP.up (by rw [hs2, va_up_self]; rfl) (by rw [hs2, va_up_ne _ _ (by decide)]) (by rw [hs2, va_up_ne _ _ (by decide)]) (by rw [hs2, va_up_ne _ _ (by decide)])
        exact hret _ _ _ _ d_Mo_leftOut_73 (by unfold ir; omega) ⟨_, rfl, va_up Sv 7 0, Qv, hPm, hQ5, rfl, (fun i hi => by rw [hs2, va_up_ne _ _ (by omega)]; exact hFr i hi), rfl⟩ rfl
      · have hsr : (nd (2 ^ n - 1) (2 ^ r)) < 2 ^ n := Nat.lt_of_le_of_lt (nd_le _ _) hs
        refine v_aload_n hX d_Mo_leftOut_12 0 rfl ?_
        refine v_iconst hX (1) d_Mo_leftOut_13 ?_
        refine v_aload_n hX d_Mo_leftOut_14 0 rfl ?_
        refine g_get (i := 358) hX hj fl_Mo_69 d_Mo_leftOut_15 (by omega) hP.1 rfl ?_
        refine v_ishl (z := (((2 ^ n) : Nat) : Int)) hX d_Mo_leftOut_18 (iv_shl1 (n) (by omega)) ?_
        refine v_iconst hX (1) d_Mo_leftOut_19 ?_
        refine v_isub hX d_Mo_leftOut_20 ?_
        refine v_top (x' := iv (((2 ^ n - 1) : Nat) : Int)) (congrArg iv (by have h2 : 0 < 2 ^ n := Nat.two_pow_pos n; omega)) ?_
        refine v_iconst hX (1) d_Mo_leftOut_21 ?_
        refine v_iload_n hX d_Mo_leftOut_22 2 rfl ?_
        refine v_ishl (z := (((2 ^ r) : Nat) : Int)) hX d_Mo_leftOut_23 (iv_shl1 (r) (by omega)) ?_
        refine v_iconst hX (-1) d_Mo_leftOut_24 ?_
        refine v_ixor (z := (-1 - (((2 ^ r) : Nat) : Int))) hX d_Mo_leftOut_25 (iv_not ((2 ^ r))) ?_
        refine v_iand (z := (((nd (2 ^ n - 1) (2 ^ r)) : Nat) : Int)) hX d_Mo_leftOut_26 (iv_andnot ((2 ^ n - 1)) ((2 ^ r))) ?_
        refine g_callVV (As := [.int (iv ((((nd (2 ^ n - 1) (2 ^ r)) : Nat) : Int)))]) (st := []) hX hj (i := 358) (by omega) hP.1 (m_Mo_grow hj hP hD hQv hle hle1 hde hwo (nd (2 ^ n - 1) (2 ^ r)) hsr tZ cZ tZ_ok cZ_ok) cl_Mo_166 d_Mo_leftOut_27 rfl ⟨by decide, by decide⟩ ⟨by decide, by decide⟩ (Nat.le_of_ble_eq_true rfl) (fun σ7 hp9 => ?_)
        obtain ⟨Sg, Qg, gP, gQ, g15, gG, gF, gSk⟩ := hp9
        obtain ⟨s, hss⟩ : ∃ s : gS, s = cTr so (mC n cl) (mK n val) (mLf n val so) le de wo (nd (2 ^ n - 1) (2 ^ r)) := ⟨_, rfl⟩
        rw [cTr_eq, ← hss] at g15 gG
        have hgi : gInv 0 s := by rw [hss]; exact cTr_g hde d1 hsr
        have hni : nIv n so (mC n cl) (mK n val) (mLf n val so) le wo 0 s 47 := by rw [hss]; exact cTr_n d1 d3 hle1 hsr
        have hs47 := hgi.1.2.1
        refine v_iload_n hX d_Mo_leftOut_30 1 rfl ?_
        refine v_aload_n hX d_Mo_leftOut_31 0 rfl ?_
        refine v_aload_n hX d_Mo_leftOut_32 0 rfl ?_
        refine g_get (i := 358) hX hj fl_Mo_26 d_Mo_leftOut_33 (by omega) gP.1 rfl ?_
        refine v_aload_n hX d_Mo_leftOut_36 0 rfl ?_
        refine v_iload_n hX d_Mo_leftOut_37 2 rfl ?_
        refine g_callVI (As := [.int (iv (((r : Nat) : Int)))]) (st := [.ref (ad 362), .ref (ad 358), .int (iv ((kOut val cl so (mC n cl) (mK n val) (mLf n val so) le de wo n r)))]) hX hj (i := 358) (by omega) gP.1 (m_Mo_leafFor hj gP hD gQ gG hgi r (by omega)) cl_Mo_191 d_Mo_leftOut_38 rfl ⟨by decide, by decide⟩ ⟨by decide, by decide⟩ (Nat.le_of_ble_eq_true rfl) (fun z10 σ11 hz12 hp13 => ?_)
        obtain ⟨p1, p2, p3, p4, p5⟩ := hp13
        obtain ⟨x, hxe⟩ : ∃ x, x = kWh 0 so (val r) s.2.1 s.2.2 5 0 := ⟨_, rfl⟩
        rw [← hxe] at p4 p5
        subst p4
        obtain ⟨g1, g2, g3⟩ := gG x p5
        obtain ⟨⟨o1, o2⟩, -⟩ := hgi.1.2.2 x p5
        obtain ⟨y1, y2, y4, y5⟩ := hni.1 x p5
        obtain ⟨ro, ero⟩ : ∃ ro : Nat, s.2.1 x 2 = (ro : Int) := ⟨(s.2.1 x 2).toNat, by omega⟩
        rw [ero, Int.toNat_natCast] at y2 y4 y5
        have hro24 : ro < 16777216 := by omega
        have hl3 := kLab_lt (mC n cl) ro
        obtain ⟨Ql, eQl⟩ : ∃ Ql, Ql = ak4 Qg (val r 0) (val r 1) (val r 2) (val r 3) := ⟨_, rfl⟩
        rw [← eQl] at p2
        have hz362 : σ11 362 = eJ G 64 (Qg 362) := (p3 362 (by decide)).trans (gQ.1 362 (by decide) (by decide))
        obtain ⟨-, -, -, ⟨cf2, m32, m32e⟩⟩ := id p1
        refine g_iald (i := 362) hX hj d_Mo_leftOut_41 (by omega) hz362 (by decide) (x) rfl (by omega) ?_
        refine v_top (x' := iv (((ro : Nat) : Int))) (congrArg iv (g1.trans ero)) ?_
        refine g_callVI (As := [.int (iv (((ro : Nat) : Int)))]) (st := [.int (iv ((kOut val cl so (mC n cl) (mK n val) (mLf n val so) le de wo n r)))]) hX hj (i := 358) (by omega) p1.1 (m_Mo_labelOf hj p1 hD ro hro24) cl_Mo_91 d_Mo_leftOut_42 rfl ⟨by decide, by decide⟩ ⟨by decide, by decide⟩ (Nat.le_of_ble_eq_true rfl) (fun z14 σ15 hz16 hp17 => ?_)
        obtain ⟨he18, hv19⟩ := hp17
        rw [he18]
        subst hv19
        refine v_aload_n hX d_Mo_leftOut_45 0 rfl ?_
        refine g_get (i := 358) hX hj fl_Mo_16 d_Mo_leftOut_46 (by omega) p1.1 rfl ?_
        refine v_iload_n hX d_Mo_leftOut_49 2 rfl ?_
        refine g_iald (i := 361) hX hj d_Mo_leftOut_50 (by omega) m32 (by decide) (r) rfl (by omega) ?_
        refine v_top (x' := iv ((((cl r) : Nat) : Int))) (congrArg iv (m32e r (by omega))) ?_
        refine v_icmp_eq (tgt := 58) hX d_Mo_leftOut_51 (by decide) (by first | assumption | (unfold ir; omega) | (have := d3 r; unfold ir; omega)) (by first | assumption | (unfold ir; omega) | (have := d3 r; unfold ir; omega)) (fun c51_2 => ?_) (fun c51_2 => ?_)
        · refine v_iconst hX (0) d_Mo_leftOut_58 ?_
          refine v_iadd hX d_Mo_leftOut_59 ?_
          have hmis : kMis val cl so (mC n cl) (mK n val) (mLf n val so) le de wo n r = 0 := by rw [kMis_c hss, ← hxe, y4]; exact (pI_f (by omega)).symm
          refine v_top (x' := iv (kOut val cl so (mC n cl) (mK n val) (mLf n val so) le de wo n (r + 1))) (congrArg iv (by show _ = (kOut val cl so (mC n cl) (mK n val) (mLf n val so) le de wo n r) + kMis val cl so (mC n cl) (mK n val) (mLf n val so) le de wo n r; rw [hmis])) ?_
          refine v_istore_n (lv' := [(1, .int (iv ((kOut val cl so (mC n cl) (mK n val) (mLf n val so) le de wo n (r + 1))))), (0, .ref (ad 358)), (2, .int (iv (((r : Nat) : Int))))]) hX d_Mo_leftOut_60 rfl (by decide) rfl ?_
          refine v_iincN (a := r) (n := 1) (lv' := [(2, .int (iv ((((r + 1) : Nat) : Int)))), (1, .int (iv ((kOut val cl so (mC n cl) (mK n val) (mLf n val so) le de wo n (r + 1))))), (0, .ref (ad 358))]) hX d_Mo_leftOut_61 rfl 2 rfl (by decide) rfl ?_
          refine v_goto (tgt := 4) hX d_Mo_leftOut_64 (by decide) ?_
          refine v_lv [2, 1, 0] rfl ?_
          exact ih_LOOP (r + 1) (σ11) (Sg) (Ql) (by omega) (by omega) p1 p2 (fun i hi => by rw [p3 i (by omega), gF i (by omega) (by omega)]; exact hFr i hi)
        · refine v_iconst hX (1) d_Mo_leftOut_54 ?_
          refine v_goto (tgt := 59) hX d_Mo_leftOut_55 (by decide) ?_
          refine v_iadd hX d_Mo_leftOut_59 ?_
          have hmis : kMis val cl so (mC n cl) (mK n val) (mLf n val so) le de wo n r = 1 := by rw [kMis_c hss, ← hxe, y4]; exact (pI_t (by omega)).symm
          refine v_top (x' := iv (kOut val cl so (mC n cl) (mK n val) (mLf n val so) le de wo n (r + 1))) (congrArg iv (by show _ = (kOut val cl so (mC n cl) (mK n val) (mLf n val so) le de wo n r) + kMis val cl so (mC n cl) (mK n val) (mLf n val so) le de wo n r; rw [hmis])) ?_
          refine v_istore_n (lv' := [(1, .int (iv ((kOut val cl so (mC n cl) (mK n val) (mLf n val so) le de wo n (r + 1))))), (0, .ref (ad 358)), (2, .int (iv (((r : Nat) : Int))))]) hX d_Mo_leftOut_60 rfl (by decide) rfl ?_
          refine v_iincN (a := r) (n := 1) (lv' := [(2, .int (iv ((((r + 1) : Nat) : Int)))), (1, .int (iv ((kOut val cl so (mC n cl) (mK n val) (mLf n val so) le de wo n (r + 1))))), (0, .ref (ad 358))]) hX d_Mo_leftOut_61 rfl 2 rfl (by decide) rfl ?_
          refine v_goto (tgt := 4) hX d_Mo_leftOut_64 (by decide) ?_
          refine v_lv [2, 1, 0] rfl ?_
          exact ih_LOOP (r + 1) (σ11) (Sg) (Ql) (by omega) (by omega) p1 p2 (fun i hi => by rw [p3 i (by omega), gF i (by omega) (by omega)]; exact hFr i hi)
  refine v_lv [2, 1, 0] rfl ?_
  exact LOOP _ (0) (σ) (S) (Q) (Nat.lt_succ_self _) (Nat.zero_le _) hM hQ (fun _ _ => rfl)
