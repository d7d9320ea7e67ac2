/-! CUTTING BACK; by program -/
set_option maxHeartbeats 1000000 in
set_option maxRecDepth 100000 in
theorem m_Pru_cutBack {G : xG} {f0 : xF} {ad : Nat → Nat} (hj : adOk ad 400) {σ : xF} {ps : Nat} {lc ws al be : Nat → Int} (hP : pPru G ad σ ps lc ws al be) (hps : ps ≤ 24) (sz : Nat) (hz : sz ≤ 47) (hz1 : 1 ≤ sz) (T : Nat → Nat → Int) (ch : Nat → Option Nat) (hTr : pTre G ad σ 0 sz T ch) (hco : chOk 0 ch) (s e : Nat) (hs : s + 1 < 24) (he1 : 52 ≤ e) (he2 : e ≤ 75) (hio : iOk T) (hi5 : ∀ x, x < sz → ir (T x 5 - T x 11) ∧ ir (T x 10 - 1)) (a b : Int) (hae : pFra σ e a b) (ra : ir a) (rb : ir b) : ∀ l, gVo l G f0 ad 400 y_Pru_cutBack (.code y_Pru_cutBack c_Pru_cutBack 5 none) rm_Pru_cutBack [.ref (ad 10), .int (iv (((s : Nat) : Int))), .ref (ad e)] σ (fun σ' => pTre G ad σ' 0 sz (kCb ch s a b sz T) ch ∧ iOk (kCb ch s a b sz T) ∧ (∀ i, i ≠ 23 → i < 76 ∨ 217 ≤ i → σ' i = σ i) ∧ ∃ x y : Int, pFra σ' 23 x y) := by
  intro l
  refine mV_of (by decide) (Nat.le_of_ble_eq_true rfl) (fun X hX hret => ?_)
  show vV G X 0 0 0 [(0, .ref (ad 10)), (1, .int (iv (((s : Nat) : Int)))), (2, .ref (ad e))] [] (ov f0 ad 400 σ)
  obtain ⟨p1, p2, p3, p4, p5, p6⟩ := id hP
  obtain ⟨r1, r2, r3⟩ := id hTr
  refine v_iconst hX (0) d_Pru_cutBack_0 ?_
  refine v_istore_n (lv' := [(3, .int (iv (0))), (0, .ref (ad 10)), (1, .int (iv (((s : Nat) : Int)))), (2, .ref (ad e))]) hX d_Pru_cutBack_1 rfl (by decide) rfl ?_
  have LOOP : ∀ (fuel : Nat) (k : Nat) (σv : xF), sz - k < fuel → (k ≤ sz) → (pTre G ad σv 0 sz (kCb ch s a b k T) ch) → (iOk (kCb ch s a b k T)) → (∀ i, i ≠ 23 → i < 76 ∨ 217 ≤ i → σv i = σ i) → (∃ x y : Int, pFra σv 23 x y) → vV G X 0 0 2 [(0, .ref (ad 10)), (1, .int (iv (((s : Nat) : Int)))), (2, .ref (ad e)), (3, .int (iv (((k : Nat) : Int))))] [] (ov f0 ad 400 σv) := by
    intro fuel
    induction fuel with
    | zero => intro k σv hm; exact absurd hm (Nat.not_lt_zero _)
    | succ fuel ih_LOOP =>
      intro k σv hm hk hTv hiv hFr h23
      obtain ⟨x23, y23, i2⟩ := id h23
      obtain ⟨v1, v2, v3⟩ := id hTv
      have q10 := (hFr 10 (by decide) (by decide)).trans p1
      have qe : pFra σv e a b := (hFr e (by omega) (by omega)).trans hae
      refine v_iload_n hX d_Pru_cutBack_2 3 rfl ?_
      refine v_aload_n hX d_Pru_cutBack_3 0 rfl ?_
      refine g_get (i := 10) hX hj fl_Pru_29 d_Pru_cutBack_4 (by omega) q10 rfl ?_
      refine g_get (i := 8) hX hj fl_Pru_37 d_Pru_cutBack_7 (by omega) v1 rfl ?_
      refine v_icmp_ge (tgt := 90) hX d_Pru_cutBack_10 (by decide) (by first | assumption | exact ir_n (by omega) | (unfold ir; omega)) (by first | assumption | exact ir_n (by omega) | (unfold ir; omega)) (fun c10_1 => ?_) (fun c10_1 => ?_)
      · have ek : k = sz := by omega
        rw [ek] at hTv hiv
        exact hret _ _ _ d_Pru_cutBack_90 ⟨_, rfl, hTv, hiv, hFr, h23⟩
      · refine v_aload_n hX d_Pru_cutBack_13 0 rfl ?_
        refine g_get (i := 10) hX hj fl_Pru_29 d_Pru_cutBack_14 (by omega) q10 rfl ?_
        refine v_iload_n hX d_Pru_cutBack_17 3 rfl ?_
        refine g_callVR (As := [.int (iv (((k : Nat) : Int)))]) (st := []) hX hj (i := 8) (by omega) v1 (m_Tre_find hj 0 (by decide) sz hz _ _ hTv ((k : Nat) : Int) (ir_n (by omega))) cl_Pru_40 d_Pru_cutBack_18 rfl ⟨by decide, by decide⟩ ⟨by decide, by decide⟩ (Nat.le_of_ble_eq_true rfl) (fun z1 σ2 hp4 => ?_)
        obtain ⟨he5, hv6⟩ := hp4
        rw [he5]
        have hv6e : z1 = some (ad (76 + 141 * 0 + 3 * k)) := by rw [hv6, if_pos (by omega), Int.toNat_natCast]
        subst hv6e
        refine v_eq (st' := [.ref (ad (76 + 3 * k))]) (by show va_rf (some (ad (76 + 141 * 0 + 3 * k))) :: _ = _; rw [show 76 + 141 * 0 + 3 * k = 76 + 3 * k by omega]; rfl) ?_
        refine v_astore (lv' := [(4, .ref (ad (76 + 3 * k))), (0, .ref (ad 10)), (1, .int (iv (((s : Nat) : Int)))), (2, .ref (ad e)), (3, .int (iv (((k : Nat) : Int))))]) hX d_Pru_cutBack_21 (by decide) rfl ?_
        refine v_aload hX d_Pru_cutBack_23 0 rfl ?_
        refine v_ifnonnull (tgt := 31) hX d_Pru_cutBack_25 (by decide) ?_
        have hk2 : k < sz := by omega
        have hpn : pNod ad σv (76 + 3 * k) k ((kCb ch s a b k T) k) (ch k) := by have h := v3 k (by omega); rw [show 76 + 141 * 0 + 3 * k = 76 + 3 * k by omega] at h; exact h
        refine v_aload hX d_Pru_cutBack_31 0 rfl ?_
        refine v_iload_n hX d_Pru_cutBack_33 2 rfl ?_
        refine g_callVI (As := [.int (iv (((s : Nat) : Int)))]) (st := []) hX hj (i := 76 + 3 * k) (by omega) hpn.1 (m_Nod_stateAt hj (76 + 3 * k) k (by omega) ((kCb ch s a b k T) k) (ch k) hpn (s : Int) (ir_n (by omega)) (iOk_ir hiv (by omega)).1 (iOk_ir hiv (by omega)).2) cl_Pru_74 d_Pru_cutBack_34 rfl ⟨by decide, by decide⟩ ⟨by decide, by decide⟩ (Nat.le_of_ble_eq_true rfl) (fun z7 σ8 hz9 hp10 => ?_)
        obtain ⟨he11, hv12⟩ := hp10
        rw [he11]
        refine v_if_ne (tgt := 65) hX d_Pru_cutBack_37 (by decide) (by first | assumption | exact ir_n (by omega) | (unfold ir; omega)) (fun c37_2 => ?_) (fun c37_2 => ?_)
        · have e1 : (kCb1 s a b k (kCb ch s a b k T)) = (kCb ch s a b k T) := by unfold kCb1; rw [if_neg (fun g => st_n hv12 (by assumption) g.1)]
          have hT1 : pTre G ad σv 0 sz (kCb1 s a b k (kCb ch s a b k T)) ch := by rw [e1]; exact hTv
          have hi1 : iOk (kCb1 s a b k (kCb ch s a b k T)) := by rw [e1]; exact hiv
          have hF1 : ∀ i, i ≠ 23 → i < 76 ∨ 217 ≤ i → σv i = σ i := hFr
          have h231 : ∃ x y : Int, pFra σv 23 x y := h23
          obtain ⟨D, hD⟩ : ∃ D, D = (kCb1 s a b k (kCb ch s a b k T)) := ⟨_, rfl⟩
          rw [← hD] at hT1 hi1
          have hpd : pNod ad σv (76 + 3 * k) k (D k) (ch k) := by have h := hT1.2.2 k (by omega); rw [show 76 + 141 * 0 + 3 * k = 76 + 3 * k by omega] at h; exact h
          refine v_aload hX d_Pru_cutBack_65 0 rfl ?_
          refine v_iload_n hX d_Pru_cutBack_67 2 rfl ?_
          refine v_iconst hX (1) d_Pru_cutBack_68 ?_
          refine v_iaddN (a := s) (b := 1) hX d_Pru_cutBack_69 ?_
          refine v_top (x' := iv ((s : Int) + 1)) (congrArg iv (by omega)) ?_
          refine g_callVI (As := [.int (iv (((s : Int) + 1)))]) (st := []) hX hj (i := 76 + 3 * k) (by omega) hpd.1 (m_Nod_stateAt hj (76 + 3 * k) k (by omega) (D k) (ch k) hpd ((s : Int) + 1) (by unfold ir; omega) (iOk_ir hi1 (by omega)).1 (iOk_ir hi1 (by omega)).2) cl_Pru_74 d_Pru_cutBack_70 rfl ⟨by decide, by decide⟩ ⟨by decide, by decide⟩ (Nat.le_of_ble_eq_true rfl) (fun z13 σ14 hz15 hp16 => ?_)
          obtain ⟨he17, hv18⟩ := hp16
          rw [he17]
          refine v_if_eq (tgt := 84) hX d_Pru_cutBack_73 (by decide) (by first | assumption | exact ir_n (by omega) | (unfold ir; omega)) (fun c73_3 => ?_) (fun c73_3 => ?_)
          · have e2 : (kCb ch s a b (k + 1) T) = D := by show kCb2 ch s k (kCb1 s a b k (kCb ch s a b k T)) = _; rw [← hD]; unfold kCb2; rw [if_pos (st_0 hv18 (by assumption))]
            have hTn : pTre G ad σv 0 sz (kCb ch s a b (k + 1) T) ch := by rw [e2]; exact hT1
            have hin : iOk (kCb ch s a b (k + 1) T) := by rw [e2]; exact hi1
            have hFn := hF1
            have h23n := h231
            refine v_iincN (a := k) (n := 1) (lv' := [(3, .int (iv ((((k + 1) : Nat) : Int)))), (4, .ref (ad (76 + 3 * k))), (0, .ref (ad 10)), (1, .int (iv (((s : Nat) : Int)))), (2, .ref (ad e))]) hX d_Pru_cutBack_84 rfl 4 rfl (by decide) rfl ?_
            refine v_goto (tgt := 2) hX d_Pru_cutBack_87 (by decide) ?_
            refine v_lv [2, 3, 4, 0] rfl ?_
            exact ih_LOOP (k + 1) (σv) (by omega) (by omega) hTn hin hFn h23n
          · refine v_aload hX d_Pru_cutBack_76 0 rfl ?_
            refine v_iload_n hX d_Pru_cutBack_78 2 rfl ?_
            refine v_iconst hX (1) d_Pru_cutBack_79 ?_
            refine v_iaddN (a := s) (b := 1) hX d_Pru_cutBack_80 ?_
            obtain ⟨mm, hKK, hmm, hr1, hr2⟩ : ∃ mm : Nat, (∀ q, ch k = some q → 76 + 3 * k + 2 < q ∧ q + 5 < 400 ∧ pNod ad σv q mm (D mm) (ch mm) ∧ pNod ad σv (q + 3) (mm + 1) (D (mm + 1)) (ch (mm + 1))) ∧ (∀ q, ch k = some q → q = 76 + 3 * mm) ∧ ir (D mm 9) ∧ ir (D (mm + 1) 9) := by
              rcases hch : ch k with _ | q
              · exact ⟨0, fun q h => (by cases h), fun q h => (by cases h), (iOk_ir hi1 (by decide)).2, (iOk_ir hi1 (by decide)).2⟩
              · obtain ⟨mm, e1, e2, e3⟩ := hco k q (by omega) hch
                have h1 := hT1.2.2 mm (by omega)
                have h2 := hT1.2.2 (mm + 1) (by omega)
                rw [← e1] at h1
                rw [show 76 + 141 * 0 + 3 * (mm + 1) = q + 3 by omega] at h2
                exact ⟨mm, fun q2 h => (by cases h; exact ⟨by omega, by omega, h1, h2⟩), fun q2 h => (by cases h; omega), (iOk_ir hi1 (by omega)).2, (iOk_ir hi1 (by omega)).2⟩
            refine v_top (x' := iv ((s : Int) + 1)) (congrArg iv (by omega)) ?_
            refine g_callVV (As := [.int (iv (((s : Int) + 1)))]) (st := []) hX hj (i := 76 + 3 * k) (by omega) hpd.1 (m_Nod_loseThoseBelow hj (76 + 3 * k) k (by omega) (D k) (ch k) hpd mm (D mm) (D (mm + 1)) (ch mm) (ch (mm + 1)) hKK ((s : Int) + 1) (by unfold ir; omega) hr1 hr2) cl_Pru_93 d_Pru_cutBack_81 rfl ⟨by decide, by decide⟩ ⟨by decide, by decide⟩ (Nat.le_of_ble_eq_true rfl) (fun σ20 hp22 => ?_)
            obtain ⟨hTl, hFl⟩ := lose_ok hT1 hco (by omega) hmm hp22
            have e2 : (kCb ch s a b (k + 1) T) = kLo ch ((s : Int) + 1) k D := by show kCb2 ch s k (kCb1 s a b k (kCb ch s a b k T)) = _; rw [← hD]; unfold kCb2; rw [if_neg (st_n hv18 (by assumption))]
            have hTn : pTre G ad σ20 0 sz (kCb ch s a b (k + 1) T) ch := by rw [e2]; exact hTl
            have hin : iOk (kCb ch s a b (k + 1) T) := by rw [e2]; exact iOk_Lo hi1 (by omega) (by omega)
            have hFn : ∀ i, i ≠ 23 → i < 76 ∨ 217 ≤ i → σ20 i = σ i := fun i j1 j2 => (hFl i j2).trans (hF1 i j1 j2)
            have h23n : ∃ x y : Int, pFra σ20 23 x y := by obtain ⟨x9, y9, g9⟩ := h231; exact ⟨x9, y9, (hFl 23 (by decide)).trans g9⟩
            refine v_iincN (a := k) (n := 1) (lv' := [(3, .int (iv ((((k + 1) : Nat) : Int)))), (4, .ref (ad (76 + 3 * k))), (0, .ref (ad 10)), (1, .int (iv (((s : Nat) : Int)))), (2, .ref (ad e))]) hX d_Pru_cutBack_84 rfl 4 rfl (by decide) rfl ?_
            refine v_goto (tgt := 2) hX d_Pru_cutBack_87 (by decide) ?_
            refine v_lv [2, 3, 4, 0] rfl ?_
            exact ih_LOOP (k + 1) (σ20) (by omega) (by omega) hTn hin hFn h23n
        · have hPv := hP.up3 hFr ⟨x23, y23, i2⟩
          refine v_aload_n hX d_Pru_cutBack_40 1 rfl ?_
          refine v_aload hX d_Pru_cutBack_41 0 rfl ?_
          refine g_callVV (As := [.ref (ad (76 + 3 * k))]) (st := []) hX hj (i := 10) (by omega) q10 (m_Pru_weigh hj hPv hps x23 y23 i2 (76 + 3 * k) k (by omega) ((kCb ch s a b k T) k) (ch k) hpn.1) cl_Pru_78 d_Pru_cutBack_43 rfl ⟨by decide, by decide⟩ ⟨by decide, by decide⟩ (Nat.le_of_ble_eq_true rfl) (fun σ24 hp26 => ?_)
          have w23 : pFra σ24 23 ((kCb ch s a b k T) k 5 - (kCb ch s a b k T) k 11) ((kCb ch s a b k T) k 10 - 1) := by unfold pFra; rw [hp26, va_up_self]
          have we : pFra σ24 e a b := by unfold pFra; rw [hp26, va_up_ne _ _ (by omega)]; exact qe
          have hpa : ¬ (kCb ch s a b k T) k 9 ≤ (s : Int) ∧ ¬ (kCb ch s a b k T) k 8 ≤ (s : Int) := st_0 hv12 (by assumption)
          have hw5 : ir ((kCb ch s a b k T) k 5 - (kCb ch s a b k T) k 11) ∧ ir ((kCb ch s a b k T) k 10 - 1) := by rw [kCb_hi _ _ _ _ _ _ _ (by decide) (by decide), kCb_hi _ _ _ _ _ _ _ (by decide) (by decide), kCb_hi _ _ _ _ _ _ _ (by decide) (by decide)]; exact hi5 k hk2
          have hf27 := (show σ24 (10) = σv (10) by rw [hp26, va_up_ne _ _ (by omega)]).trans q10
          have hf28 := (show σ24 (8) = σv (8) by rw [hp26, va_up_ne _ _ (by omega)]).trans v1
          have hf29 := (show σ24 (e) = σv (e) by rw [hp26, va_up_ne _ _ (by omega)]).trans qe
          have hf30 := (show σ24 (76 + 3 * k) = σv (76 + 3 * k) by rw [hp26, va_up_ne _ _ (by omega)]).trans hpn.1
          refine v_aload_n hX d_Pru_cutBack_46 1 rfl ?_
          refine g_get (i := 10) hX hj fl_Pru_25 d_Pru_cutBack_47 (by omega) hf27 rfl ?_
          refine v_aload_n hX d_Pru_cutBack_50 3 rfl ?_
          refine g_callVI (As := [.ref (ad e)]) (st := []) hX hj (i := 23) (by omega) w23 (m_Fra_compareWith hj 23 (by decide) ((kCb ch s a b k T) k 5 - (kCb ch s a b k T) k 11) ((kCb ch s a b k T) k 10 - 1) w23 e (by omega) a b we hw5.1 hw5.2 ra rb) cl_Pru_82 d_Pru_cutBack_51 rfl ⟨by decide, by decide⟩ ⟨by decide, by decide⟩ (Nat.le_of_ble_eq_true rfl) (fun z31 σ32 hz33 hp34 => ?_)
          obtain ⟨he35, hv36⟩ := hp34
          rw [he35]
          have heq : z31 = 0 ↔ ((kCb ch s a b k T) k 5 - (kCb ch s a b k T) k 11) * b = a * ((kCb ch s a b k T) k 10 - 1) := by rw [hv36]; split <;> first | omega | (split <;> omega)
          refine v_if_ne (tgt := 65) hX d_Pru_cutBack_54 (by decide) (by first | assumption | exact ir_n (by omega) | (unfold ir; omega)) (fun c54_4 => ?_) (fun c54_4 => ?_)
          · have hTw : pTre G ad σ24 0 sz (kCb ch s a b k T) ch := ⟨by rw [hp26, va_up_ne _ _ (by decide)]; exact v1, by rw [hp26, va_up_ne _ _ (by decide)]; exact v2, fun n9 h9 => (v3 n9 h9).up (by rw [hp26, va_up_ne _ _ (by omega)]) (by rw [hp26, va_up_ne _ _ (by omega)]) (by rw [hp26, va_up_ne _ _ (by omega)])⟩
            have e1 : (kCb1 s a b k (kCb ch s a b k T)) = (kCb ch s a b k T) := by unfold kCb1; rw [if_neg (fun g => absurd (heq.mpr g.2) (by assumption))]
            have hT1 : pTre G ad σ24 0 sz (kCb1 s a b k (kCb ch s a b k T)) ch := by rw [e1]; exact hTw
            have hi1 : iOk (kCb1 s a b k (kCb ch s a b k T)) := by rw [e1]; exact hiv
            have hF1 : ∀ i, i ≠ 23 → i < 76 ∨ 217 ≤ i → σ24 i = σ i := fun i j1 j2 => by rw [hp26, va_up_ne _ _ j1]; exact hFr i j1 j2
            have h231 : ∃ x y : Int, pFra σ24 23 x y := ⟨_, _, w23⟩
            obtain ⟨D, hD⟩ : ∃ D, D = (kCb1 s a b k (kCb ch s a b k T)) := ⟨_, rfl⟩
            rw [← hD] at hT1 hi1
            have hpd : pNod ad σ24 (76 + 3 * k) k (D k) (ch k) := by have h := hT1.2.2 k (by omega); rw [show 76 + 141 * 0 + 3 * k = 76 + 3 * k by omega] at h; exact h
            refine v_aload hX d_Pru_cutBack_65 0 rfl ?_
            refine v_iload_n hX d_Pru_cutBack_67 2 rfl ?_
            refine v_iconst hX (1) d_Pru_cutBack_68 ?_
            refine v_iaddN (a := s) (b := 1) hX d_Pru_cutBack_69 ?_
            refine v_top (x' := iv ((s : Int) + 1)) (congrArg iv (by omega)) ?_
            refine g_callVI (As := [.int (iv (((s : Int) + 1)))]) (st := []) hX hj (i := 76 + 3 * k) (by omega) hpd.1 (m_Nod_stateAt hj (76 + 3 * k) k (by omega) (D k) (ch k) hpd ((s : Int) + 1) (by unfold ir; omega) (iOk_ir hi1 (by omega)).1 (iOk_ir hi1 (by omega)).2) cl_Pru_74 d_Pru_cutBack_70 rfl ⟨by decide, by decide⟩ ⟨by decide, by decide⟩ (Nat.le_of_ble_eq_true rfl) (fun z37 σ38 hz39 hp40 => ?_)
            obtain ⟨he41, hv42⟩ := hp40
            rw [he41]
            refine v_if_eq (tgt := 84) hX d_Pru_cutBack_73 (by decide) (by first | assumption | exact ir_n (by omega) | (unfold ir; omega)) (fun c73_5 => ?_) (fun c73_5 => ?_)
            · have e2 : (kCb ch s a b (k + 1) T) = D := by show kCb2 ch s k (kCb1 s a b k (kCb ch s a b k T)) = _; rw [← hD]; unfold kCb2; rw [if_pos (st_0 hv42 (by assumption))]
              have hTn : pTre G ad σ24 0 sz (kCb ch s a b (k + 1) T) ch := by rw [e2]; exact hT1
              have hin : iOk (kCb ch s a b (k + 1) T) := by rw [e2]; exact hi1
              have hFn := hF1
              have h23n := h231
              refine v_iincN (a := k) (n := 1) (lv' := [(3, .int (iv ((((k + 1) : Nat) : Int)))), (4, .ref (ad (76 + 3 * k))), (0, .ref (ad 10)), (1, .int (iv (((s : Nat) : Int)))), (2, .ref (ad e))]) hX d_Pru_cutBack_84 rfl 4 rfl (by decide) rfl ?_
              refine v_goto (tgt := 2) hX d_Pru_cutBack_87 (by decide) ?_
              refine v_lv [2, 3, 4, 0] rfl ?_
              exact ih_LOOP (k + 1) (σ24) (by omega) (by omega) hTn hin hFn h23n
            · refine v_aload hX d_Pru_cutBack_76 0 rfl ?_
              refine v_iload_n hX d_Pru_cutBack_78 2 rfl ?_
              refine v_iconst hX (1) d_Pru_cutBack_79 ?_
              refine v_iaddN (a := s) (b := 1) hX d_Pru_cutBack_80 ?_
              obtain ⟨mm, hKK, hmm, hr1, hr2⟩ : ∃ mm : Nat, (∀ q, ch k = some q → 76 + 3 * k + 2 < q ∧ q + 5 < 400 ∧ pNod ad σ24 q mm (D mm) (ch mm) ∧ pNod ad σ24 (q + 3) (mm + 1) (D (mm + 1)) (ch (mm + 1))) ∧ (∀ q, ch k = some q → q = 76 + 3 * mm) ∧ ir (D mm 9) ∧ ir (D (mm + 1) 9) := by
                rcases hch : ch k with _ | q
                · exact ⟨0, fun q h => (by cases h), fun q h => (by cases h), (iOk_ir hi1 (by decide)).2, (iOk_ir hi1 (by decide)).2⟩
                · obtain ⟨mm, e1, e2, e3⟩ := hco k q (by omega) hch
                  have h1 := hT1.2.2 mm (by omega)
                  have h2 := hT1.2.2 (mm + 1) (by omega)
                  rw [← e1] at h1
                  rw [show 76 + 141 * 0 + 3 * (mm + 1) = q + 3 by omega] at h2
                  exact ⟨mm, fun q2 h => (by cases h; exact ⟨by omega, by omega, h1, h2⟩), fun q2 h => (by cases h; omega), (iOk_ir hi1 (by omega)).2, (iOk_ir hi1 (by omega)).2⟩
              refine v_top (x' := iv ((s : Int) + 1)) (congrArg iv (by omega)) ?_
              refine g_callVV (As := [.int (iv (((s : Int) + 1)))]) (st := []) hX hj (i := 76 + 3 * k) (by omega) hpd.1 (m_Nod_loseThoseBelow hj (76 + 3 * k) k (by omega) (D k) (ch k) hpd mm (D mm) (D (mm + 1)) (ch mm) (ch (mm + 1)) hKK ((s : Int) + 1) (by unfold ir; omega) hr1 hr2) cl_Pru_93 d_Pru_cutBack_81 rfl ⟨by decide, by decide⟩ ⟨by decide, by decide⟩ (Nat.le_of_ble_eq_true rfl) (fun σ44 hp46 => ?_)
              obtain ⟨hTl, hFl⟩ := lose_ok hT1 hco (by omega) hmm hp46
              have e2 : (kCb ch s a b (k + 1) T) = kLo ch ((s : Int) + 1) k D := by show kCb2 ch s k (kCb1 s a b k (kCb ch s a b k T)) = _; rw [← hD]; unfold kCb2; rw [if_neg (st_n hv42 (by assumption))]
              have hTn : pTre G ad σ44 0 sz (kCb ch s a b (k + 1) T) ch := by rw [e2]; exact hTl
              have hin : iOk (kCb ch s a b (k + 1) T) := by rw [e2]; exact iOk_Lo hi1 (by omega) (by omega)
              have hFn : ∀ i, i ≠ 23 → i < 76 ∨ 217 ≤ i → σ44 i = σ i := fun i j1 j2 => (hFl i j2).trans (hF1 i j1 j2)
              have h23n : ∃ x y : Int, pFra σ44 23 x y := by obtain ⟨x9, y9, g9⟩ := h231; exact ⟨x9, y9, (hFl 23 (by decide)).trans g9⟩
              refine v_iincN (a := k) (n := 1) (lv' := [(3, .int (iv ((((k + 1) : Nat) : Int)))), (4, .ref (ad (76 + 3 * k))), (0, .ref (ad 10)), (1, .int (iv (((s : Nat) : Int)))), (2, .ref (ad e))]) hX d_Pru_cutBack_84 rfl 4 rfl (by decide) rfl ?_
              refine v_goto (tgt := 2) hX d_Pru_cutBack_87 (by decide) ?_
              refine v_lv [2, 3, 4, 0] rfl ?_
              exact ih_LOOP (k + 1) (σ44) (by omega) (by omega) hTn hin hFn h23n
          · refine v_aload hX d_Pru_cutBack_57 0 rfl ?_
            refine v_iload_n hX d_Pru_cutBack_59 2 rfl ?_
            refine v_iconst hX (1) d_Pru_cutBack_60 ?_
            refine v_iaddN (a := s) (b := 1) hX d_Pru_cutBack_61 ?_
            refine v_top (x' := iv ((s : Int) + 1)) (congrArg iv (by omega)) ?_
            refine g_put (i := 76 + 3 * k) (fs' := [.int (iv (((k : Nat) : Int))), .ref (ad (76 + 3 * k + 1)), .int (iv ((((kCb ch s a b k T) k) 2))), .int (iv ((((kCb ch s a b k T) k) 3))), .int (iv ((((kCb ch s a b k T) k) 4))), .int (iv ((((kCb ch s a b k T) k) 5))), lC ad (ch k), lC ad ((ch k).map (fun q => q + 3)), .int (iv (((s : Int) + 1))), .int (iv ((((kCb ch s a b k T) k) 9))), .int (iv ((((kCb ch s a b k T) k) 10))), .int (iv ((((kCb ch s a b k T) k) 11)))]) hX hj pf_Pru_90 d_Pru_cutBack_62 (by omega) hf30 rfl rfl (Nat.le_of_ble_eq_true rfl) rfl ?_
            obtain ⟨σ47, hs48⟩ : ∃ s9, s9 = va_up σ24 (76 + 3 * k) (eO 3 [.int (iv (((k : Nat) : Int))), .ref (ad (76 + 3 * k + 1)), .int (iv ((((kCb ch s a b k T) k) 2))), .int (iv ((((kCb ch s a b k T) k) 3))), .int (iv ((((kCb ch s a b k T) k) 4))), .int (iv ((((kCb ch s a b k T) k) 5))), lC ad (ch k), lC ad ((ch k).map (fun q => q + 3)), .int (iv (((s : Int) + 1))), .int (iv ((((kCb ch s a b k T) k) 9))), .int (iv ((((kCb ch s a b k T) k) 10))), .int (iv ((((kCb ch s a b k T) k) 11)))]) := ⟨_, rfl⟩
            rw [← hs48]
            have hf49 := (show σ47 (10) = σ24 (10) by rw [hs48, va_up_ne _ _ (by omega)]).trans hf27
            have hf50 := (show σ47 (8) = σ24 (8) by rw [hs48, va_up_ne _ _ (by omega)]).trans hf28
            have hf51 := (show σ47 (e) = σ24 (e) by rw [hs48, va_up_ne _ _ (by omega)]).trans hf29
            have hf53 := (show σ47 (23) = σ24 (23) by rw [hs48, va_up_ne _ _ (by omega)]).trans w23
            have hf54 : σ47 (76 + 3 * k) = (eO 3 [.int (iv (((k : Nat) : Int))), .ref (ad (76 + 3 * k + 1)), .int (iv ((((kCb ch s a b k T) k) 2))), .int (iv ((((kCb ch s a b k T) k) 3))), .int (iv ((((kCb ch s a b k T) k) 4))), .int (iv ((((kCb ch s a b k T) k) 5))), lC ad (ch k), lC ad ((ch k).map (fun q => q + 3)), .int (iv (((s : Int) + 1))), .int (iv ((((kCb ch s a b k T) k) 9))), .int (iv ((((kCb ch s a b k T) k) 10))), .int (iv ((((kCb ch s a b k T) k) 11)))]) := by rw [hs48, va_up_self]
            have hTw : pTre G ad σ24 0 sz (kCb ch s a b k T) ch := ⟨by rw [hp26, va_up_ne _ _ (by decide)]; exact v1, by rw [hp26, va_up_ne _ _ (by decide)]; exact v2, fun n9 h9 => (v3 n9 h9).up (by rw [hp26, va_up_ne _ _ (by omega)]) (by rw [hp26, va_up_ne _ _ (by omega)]) (by rw [hp26, va_up_ne _ _ (by omega)])⟩
            have e1 : (kCb1 s a b k (kCb ch s a b k T)) = va_up (kCb ch s a b k T) k (va_up ((kCb ch s a b k T) k) 8 ((s : Int) + 1)) := by unfold kCb1; rw [if_pos ⟨hpa, heq.mp (by assumption)⟩]
            have hT1 : pTre G ad σ47 0 sz (kCb1 s a b k (kCb ch s a b k T)) ch := by rw [e1]; exact hTw.nod (by decide) (by omega) (fun j hj => va_up_ne _ _ (by omega)) (by rw [hs48, show 76 + 141 * 0 + 3 * k = 76 + 3 * k by omega]; rfl)
            have hi1 : iOk (kCb1 s a b k (kCb ch s a b k T)) := by rw [e1]; exact iOk_1 hiv (by omega) (by omega)
            have hF1 : ∀ i, i ≠ 23 → i < 76 ∨ 217 ≤ i → σ47 i = σ i := fun i j1 j2 => by rw [hs48, va_up_ne _ _ (by omega), hp26, va_up_ne _ _ j1]; exact hFr i j1 j2
            have h231 : ∃ x y : Int, pFra σ47 23 x y := ⟨_, _, by unfold pFra; rw [hs48, va_up_ne _ _ (by omega)]; exact w23⟩
            obtain ⟨D, hD⟩ : ∃ D, D = (kCb1 s a b k (kCb ch s a b k T)) := ⟨_, rfl⟩
            rw [← hD] at hT1 hi1
            have hpd : pNod ad σ47 (76 + 3 * k) k (D k) (ch k) := by have h := hT1.2.2 k (by omega); rw [show 76 + 141 * 0 + 3 * k = 76 + 3 * k by omega] at h; exact h
            refine v_aload hX d_Pru_cutBack_65 0 rfl ?_
            refine v_iload_n hX d_Pru_cutBack_67 2 rfl ?_
            refine v_iconst hX (1) d_Pru_cutBack_68 ?_
            refine v_iaddN (a := s) (b := 1) hX d_Pru_cutBack_69 ?_
            refine v_top (x' := iv ((s : Int) + 1)) (congrArg iv (by omega)) ?_
            refine g_callVI (As := [.int (iv (((s : Int) + 1)))]) (st := []) hX hj (i := 76 + 3 * k) (by omega) hpd.1 (m_Nod_stateAt hj (76 + 3 * k) k (by omega) (D k) (ch k) hpd ((s : Int) + 1) (by unfold ir; omega) (iOk_ir hi1 (by omega)).1 (iOk_ir hi1 (by omega)).2) cl_Pru_74 d_Pru_cutBack_70 rfl ⟨by decide, by decide⟩ ⟨by decide, by decide⟩ (Nat.le_of_ble_eq_true rfl) (fun z55 σ56 hz57 hp58 => ?_)
            obtain ⟨he59, hv60⟩ := hp58
            rw [he59]
            refine v_if_eq (tgt := 84) hX d_Pru_cutBack_73 (by decide) (by first | assumption | exact ir_n (by omega) | (unfold ir; omega)) (fun c73_6 => ?_) (fun c73_6 => ?_)
            · have e2 : (kCb ch s a b (k + 1) T) = D := by show kCb2 ch s k (kCb1 s a b k (kCb ch s a b k T)) = _; rw [← hD]; unfold kCb2; rw [if_pos (st_0 hv60 (by assumption))]
              have hTn : pTre G ad σ47 0 sz (kCb ch s a b (k + 1) T) ch := by rw [e2]; exact hT1
              have hin : iOk (kCb ch s a b (k + 1) T) := by rw [e2]; exact hi1
              have hFn := hF1
              have h23n := h231
              refine v_iincN (a := k) (n := 1) (lv' := [(3, .int (iv ((((k + 1) : Nat) : Int)))), (4, .ref (ad (76 + 3 * k))), (0, .ref (ad 10)), (1, .int (iv (((s : Nat) : Int)))), (2, .ref (ad e))]) hX d_Pru_cutBack_84 rfl 4 rfl (by decide) rfl ?_
              refine v_goto (tgt := 2) hX d_Pru_cutBack_87 (by decide) ?_
              refine v_lv [2, 3, 4, 0] rfl ?_
              exact ih_LOOP (k + 1) (σ47) (by omega) (by omega) hTn hin hFn h23n
            · refine v_aload hX d_Pru_cutBack_76 0 rfl ?_
              refine v_iload_n hX d_Pru_cutBack_78 2 rfl ?_
              refine v_iconst hX (1) d_Pru_cutBack_79 ?_
              refine v_iaddN (a := s) (b := 1) hX d_Pru_cutBack_80 ?_
              obtain ⟨mm, hKK, hmm, hr1, hr2⟩ : ∃ mm : Nat, (∀ q, ch k = some q → 76 + 3 * k + 2 < q ∧ q + 5 < 400 ∧ pNod ad σ47 q mm (D mm) (ch mm) ∧ pNod ad σ47 (q + 3) (mm + 1) (D (mm + 1)) (ch (mm + 1))) ∧ (∀ q, ch k = some q → q = 76 + 3 * mm) ∧ ir (D mm 9) ∧ ir (D (mm + 1) 9) := by
                rcases hch : ch k with _ | q
                · exact ⟨0, fun q h => (by cases h), fun q h => (by cases h), (iOk_ir hi1 (by decide)).2, (iOk_ir hi1 (by decide)).2⟩
                · obtain ⟨mm, e1, e2, e3⟩ := hco k q (by omega) hch
                  have h1 := hT1.2.2 mm (by omega)
                  have h2 := hT1.2.2 (mm + 1) (by omega)
                  rw [← e1] at h1
                  rw [show 76 + 141 * 0 + 3 * (mm + 1) = q + 3 by omega] at h2
                  exact ⟨mm, fun q2 h => (by cases h; exact ⟨by omega, by omega, h1, h2⟩), fun q2 h => (by cases h; omega), (iOk_ir hi1 (by omega)).2, (iOk_ir hi1 (by omega)).2⟩
              refine v_top (x' := iv ((s : Int) + 1)) (congrArg iv (by omega)) ?_
              refine g_callVV (As := [.int (iv (((s : Int) + 1)))]) (st := []) hX hj (i := 76 + 3 * k) (by omega) hpd.1 (m_Nod_loseThoseBelow hj (76 + 3 * k) k (by omega) (D k) (ch k) hpd mm (D mm) (D (mm + 1)) (ch mm) (ch (mm + 1)) hKK ((s : Int) + 1) (by unfold ir; omega) hr1 hr2) cl_Pru_93 d_Pru_cutBack_81 rfl ⟨by decide, by decide⟩ ⟨by decide, by decide⟩ (Nat.le_of_ble_eq_true rfl) (fun σ62 hp64 => ?_)
              obtain ⟨hTl, hFl⟩ := lose_ok hT1 hco (by omega) hmm hp64
              have e2 : (kCb ch s a b (k + 1) T) = kLo ch ((s : Int) + 1) k D := by show kCb2 ch s k (kCb1 s a b k (kCb ch s a b k T)) = _; rw [← hD]; unfold kCb2; rw [if_neg (st_n hv60 (by assumption))]
              have hTn : pTre G ad σ62 0 sz (kCb ch s a b (k + 1) T) ch := by rw [e2]; exact hTl
              have hin : iOk (kCb ch s a b (k + 1) T) := by rw [e2]; exact iOk_Lo hi1 (by omega) (by omega)
              have hFn : ∀ i, i ≠ 23 → i < 76 ∨ 217 ≤ i → σ62 i = σ i := fun i j1 j2 => (hFl i j2).trans (hF1 i j1 j2)
              have h23n : ∃ x y : Int, pFra σ62 23 x y := by obtain ⟨x9, y9, g9⟩ := h231; exact ⟨x9, y9, (hFl 23 (by decide)).trans g9⟩
              refine v_iincN (a := k) (n := 1) (lv' := [(3, .int (iv ((((k + 1) : Nat) : Int)))), (4, .ref (ad (76 + 3 * k))), (0, .ref (ad 10)), (1, .int (iv (((s : Nat) : Int)))), (2, .ref (ad e))]) hX d_Pru_cutBack_84 rfl 4 rfl (by decide) rfl ?_
              refine v_goto (tgt := 2) hX d_Pru_cutBack_87 (by decide) ?_
              refine v_lv [2, 3, 4, 0] rfl ?_
              exact ih_LOOP (k + 1) (σ62) (by omega) (by omega) hTn hin hFn h23n
  refine v_lv [1, 2, 3, 0] rfl ?_
  exact LOOP _ (0) (σ) (Nat.lt_succ_self _) (Nat.zero_le _) hTr hio (fun _ _ _ => rfl) p5
