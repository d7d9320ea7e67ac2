/-! ALPHA; by program -/
set_option maxHeartbeats 1000000 in
set_option maxRecDepth 100000 in
theorem m_Pru_findAlpha {G : xG} {f0 : xF} {ad : Nat → Nat} (hj : adOk ad 400) {σ : xF} {ps : Nat} {lc ws al be : Nat → Int} (hP : pPru G ad σ ps lc ws al be) (hps : ps ≤ 24) (sz : Nat) (hz : sz ≤ 47) (hz1 : 1 ≤ sz) (T : Nat → Nat → Int) (ch : Nat → Option Nat) (hTr : pTre G ad σ 0 sz T ch) (hco : chOk 0 ch) (s e : Nat) (hs : s < 24) (he1 : 52 ≤ e) (he2 : e ≤ 75) (hi8 : ∀ x, x < sz → ir (T x 8) ∧ ir (T x 9)) (hi5 : ∀ x, x < sz → ir (T x 5 - T x 11) ∧ ir (T x 10 - 1)) (a0 b0 : Int) (hA0 : alI σ σ e (1, a0, b0)) : ∀ l, gVo l G f0 ad 400 y_Pru_findAlpha (.code y_Pru_findAlpha c_Pru_findAlpha 6 none) rm_Pru_findAlpha [.ref (ad 10), .int (iv (((s : Nat) : Int))), .ref (ad e)] σ (fun σ' => ∃ A, A = kAl T s sz (1, a0, b0) ∧ alI σ σ' e A) := by
  intro l
  refine mV_of (by decide) (Nat.le_of_ble_eq_true rfl) (fun X hX hret => ?_)
  show vV G X 0 0 0 [(0, .ref (ad 10)), (1, .int (iv (((s : Nat) : Int)))), (2, .ref (ad e))] [] (ov f0 ad 400 σ)
  obtain ⟨p1, p2, p3, p4, p5, p6⟩ := id hP
  obtain ⟨r1, r2, r3⟩ := id hTr
  refine v_iconst hX (1) d_Pru_findAlpha_0 ?_
  refine v_istore_n (lv' := [(3, .int (iv (1))), (0, .ref (ad 10)), (1, .int (iv (((s : Nat) : Int)))), (2, .ref (ad e))]) hX d_Pru_findAlpha_1 rfl (by decide) rfl ?_
  refine v_iconst hX (0) d_Pru_findAlpha_2 ?_
  refine v_istore (lv' := [(4, .int (iv (0))), (3, .int (iv (1))), (0, .ref (ad 10)), (1, .int (iv (((s : Nat) : Int)))), (2, .ref (ad e))]) hX d_Pru_findAlpha_3 (by decide) rfl ?_
  have LOOP : ∀ (fuel : Nat) (k : Nat) (σv : xF) (A : Int × Int × Int), sz - k < fuel → (k ≤ sz) → (A = kAl T s k (1, a0, b0)) → (alI σ σv e A) → vV G X 0 0 5 [(0, .ref (ad 10)), (1, .int (iv (((s : Nat) : Int)))), (2, .ref (ad e)), (3, .int (iv (A.1))), (4, .int (iv (((k : Nat) : Int))))] [] (ov f0 ad 400 σv) := by
    intro fuel
    induction fuel with
    | zero => intro k σv A hm; exact absurd hm (Nat.not_lt_zero _)
    | succ fuel ih_LOOP =>
      intro k σv A hm hk hAe hA
      obtain ⟨i1, ⟨x23, y23, i2⟩, i3, i4, i5, i6⟩ := id hA
      have q10 := (i1 10 (by decide) (by omega)).trans p1
      have q8 := (i1 8 (by decide) (by omega)).trans r1
      have hTv : pTre G ad σv 0 sz T ch := ⟨(i1 _ (by decide) (by omega)).trans r1, (i1 _ (by decide) (by omega)).trans r2, fun n9 h9 => (r3 n9 h9).up (i1 _ (by omega) (by omega)) (i1 _ (by omega) (by omega)) (i1 _ (by omega) (by omega))⟩
      refine v_iload hX d_Pru_findAlpha_5 4 rfl ?_
      refine v_aload_n hX d_Pru_findAlpha_7 0 rfl ?_
      refine g_get (i := 10) hX hj fl_Pru_29 d_Pru_findAlpha_8 (by omega) q10 rfl ?_
      refine g_get (i := 8) hX hj fl_Pru_37 d_Pru_findAlpha_11 (by omega) q8 rfl ?_
      refine v_icmp_ge (tgt := 79) hX d_Pru_findAlpha_14 (by decide) (by first | assumption | exact ir_n (by omega) | (unfold ir; omega)) (by first | assumption | exact ir_n (by omega) | (unfold ir; omega)) (fun c14_1 => ?_) (fun c14_1 => ?_)
      · have ek : k = sz := by omega
        rw [ek] at hAe
        exact hret _ _ _ d_Pru_findAlpha_79 ⟨_, rfl, A, hAe, hA⟩
      · refine v_aload_n hX d_Pru_findAlpha_17 0 rfl ?_
        refine g_get (i := 10) hX hj fl_Pru_29 d_Pru_findAlpha_18 (by omega) q10 rfl ?_
        refine v_iload hX d_Pru_findAlpha_21 4 rfl ?_
        refine g_callVR (As := [.int (iv (((k : Nat) : Int)))]) (st := []) hX hj (i := 8) (by omega) q8 (m_Tre_find hj 0 (by decide) sz hz _ _ hTv ((k : Nat) : Int) (ir_n (by omega))) cl_Pru_40 d_Pru_findAlpha_23 rfl ⟨by decide, by decide⟩ ⟨by decide, by decide⟩ (Nat.le_of_ble_eq_true rfl) (fun z1 σ2 hp4 => ?_)
        obtain ⟨he5, hv6⟩ := hp4
        rw [he5]
        have hv6e : z1 = some (ad (76 + 141 * 0 + 3 * k)) := by rw [hv6, if_pos (by omega), Int.toNat_natCast]
        subst hv6e
        refine v_eq (st' := [.ref (ad (76 + 3 * k))]) (by show va_rf (some (ad (76 + 141 * 0 + 3 * k))) :: _ = _; rw [show 76 + 141 * 0 + 3 * k = 76 + 3 * k by omega]; rfl) ?_
        refine v_astore (lv' := [(5, .ref (ad (76 + 3 * k))), (0, .ref (ad 10)), (1, .int (iv (((s : Nat) : Int)))), (2, .ref (ad e)), (3, .int (iv (A.1))), (4, .int (iv (((k : Nat) : Int))))]) hX d_Pru_findAlpha_26 (by decide) rfl ?_
        refine v_aload hX d_Pru_findAlpha_28 0 rfl ?_
        refine v_ifnull hX d_Pru_findAlpha_30 ?_
        have hk2 : k < sz := by omega
        have hpn : pNod ad σv (76 + 3 * k) k (T k) (ch k) := by have h := hTv.2.2 k (by omega); rw [show 76 + 141 * 0 + 3 * k = 76 + 3 * k by omega] at h; exact h
        refine v_aload hX d_Pru_findAlpha_33 0 rfl ?_
        refine v_iload_n hX d_Pru_findAlpha_35 2 rfl ?_
        refine g_callVI (As := [.int (iv (((s : Nat) : Int)))]) (st := []) hX hj (i := 76 + 3 * k) (by omega) hpn.1 (m_Nod_stateAt hj (76 + 3 * k) k (by omega) (T k) (ch k) hpn (s : Int) (ir_n (by omega)) (hi8 k hk2).1 (hi8 k hk2).2) cl_Pru_74 d_Pru_findAlpha_36 rfl ⟨by decide, by decide⟩ ⟨by decide, by decide⟩ (Nat.le_of_ble_eq_true rfl) (fun z7 σ8 hz9 hp10 => ?_)
        obtain ⟨he11, hv12⟩ := hp10
        rw [he11]
        refine v_if_ne (tgt := 73) hX d_Pru_findAlpha_39 (by decide) (by first | assumption | exact ir_n (by omega) | (unfold ir; omega)) (fun c39_2 => ?_) (fun c39_2 => ?_)
        · have hnp : ¬ (¬ T k 9 ≤ (s : Int) ∧ ¬ T k 8 ≤ (s : Int)) := st_n hv12 (by assumption)
          refine v_iincN (a := k) (n := 1) (lv' := [(4, .int (iv ((((k + 1) : Nat) : Int)))), (5, .ref (ad (76 + 3 * k))), (0, .ref (ad 10)), (1, .int (iv (((s : Nat) : Int)))), (2, .ref (ad e)), (3, .int (iv (A.1)))]) hX d_Pru_findAlpha_73 rfl 5 rfl (by decide) rfl ?_
          refine v_goto (tgt := 5) hX d_Pru_findAlpha_76 (by decide) ?_
          refine v_lv [2, 3, 4, 5, 0] rfl ?_
          exact ih_LOOP (k + 1) (σv) (A) (by omega) (by omega) (by show A = kAlS T s k (kAl T s k (1, a0, b0)); rw [← hAe]; unfold kAlS; rw [if_neg hnp]) hA
        · refine v_aload_n hX d_Pru_findAlpha_42 1 rfl ?_
          refine v_aload hX d_Pru_findAlpha_43 0 rfl ?_
          refine g_callVV (As := [.ref (ad (76 + 3 * k))]) (st := []) hX hj (i := 10) (by omega) q10 (m_Pru_weigh hj (hP.up2 i1 ⟨x23, y23, i2⟩ he1 he2 i3) hps x23 y23 i2 (76 + 3 * k) k (by omega) (T k) (ch k) hpn.1) cl_Pru_78 d_Pru_findAlpha_45 rfl ⟨by decide, by decide⟩ ⟨by decide, by decide⟩ (Nat.le_of_ble_eq_true rfl) (fun σ14 hp16 => ?_)
          have w23 : pFra σ14 23 (T k 5 - T k 11) (T k 10 - 1) := by unfold pFra; rw [hp16, va_up_self]
          have we : pFra σ14 e A.2.1 A.2.2 := by unfold pFra; rw [hp16, va_up_ne _ _ (by omega)]; exact i3
          have w10 : σ14 10 = σv 10 := by rw [hp16, va_up_ne _ _ (by decide)]
          have hpa : ¬ T k 9 ≤ (s : Int) ∧ ¬ T k 8 ≤ (s : Int) := st_0 hv12 (by assumption)
          refine v_iload_n hX d_Pru_findAlpha_48 4 rfl ?_
          refine v_if_ne (tgt := 63) hX d_Pru_findAlpha_49 (by decide) (by first | assumption | exact ir_n (by omega) | (unfold ir; omega)) (fun c49_3 => ?_) (fun c49_3 => ?_)
          · refine v_aload_n hX d_Pru_findAlpha_63 3 rfl ?_
            refine v_aload_n hX d_Pru_findAlpha_64 1 rfl ?_
            refine g_get (i := 10) hX hj fl_Pru_25 d_Pru_findAlpha_65 (by omega) (w10.trans q10) rfl ?_
            refine g_callVV (As := [.ref (ad 23)]) (st := []) hX hj (i := e) (by omega) we (m_Fra_becomeAs hj e (by omega) A.2.1 A.2.2 we 23 (by decide) (T k 5 - T k 11) (T k 10 - 1) w23 (by omega)) cl_Pru_86 d_Pru_findAlpha_68 rfl ⟨by decide, by decide⟩ ⟨by decide, by decide⟩ (Nat.le_of_ble_eq_true rfl) (fun σ18 hp20 => ?_)
            have hbt : A.1 = 1 ∨ (T k 5 - T k 11) * A.2.2 < A.2.1 * (T k 10 - 1) := by omega
            have hAn : alI σ σ18 e (0, T k 5 - T k 11, T k 10 - 1) := ⟨fun i j1 j2 => by rw [hp20, va_up_ne _ _ j2, hp16, va_up_ne _ _ j1]; exact i1 i j1 j2, ⟨_, _, by unfold pFra; rw [hp20, va_up_ne _ _ (by omega)]; exact w23⟩, by unfold pFra; rw [hp20, va_up_self], (hi5 k hk2).1, (hi5 k hk2).2, Or.inl rfl⟩
            refine v_iconst hX (0) d_Pru_findAlpha_71 ?_
            refine v_istore_n (lv' := [(3, .int (iv (0))), (5, .ref (ad (76 + 3 * k))), (0, .ref (ad 10)), (1, .int (iv (((s : Nat) : Int)))), (2, .ref (ad e)), (4, .int (iv (((k : Nat) : Int))))]) hX d_Pru_findAlpha_72 rfl (by decide) rfl ?_
            refine v_iincN (a := k) (n := 1) (lv' := [(4, .int (iv ((((k + 1) : Nat) : Int)))), (3, .int (iv (0))), (5, .ref (ad (76 + 3 * k))), (0, .ref (ad 10)), (1, .int (iv (((s : Nat) : Int)))), (2, .ref (ad e))]) hX d_Pru_findAlpha_73 rfl 5 rfl (by decide) rfl ?_
            refine v_goto (tgt := 5) hX d_Pru_findAlpha_76 (by decide) ?_
            refine v_lv [3, 4, 5, 1, 0] rfl ?_
            exact ih_LOOP (k + 1) (σ18) ((0, T k 5 - T k 11, T k 10 - 1)) (by omega) (by omega) (by show _ = kAlS T s k (kAl T s k (1, a0, b0)); rw [← hAe]; unfold kAlS; rw [if_pos hpa, if_pos hbt]) hAn
          · refine v_aload_n hX d_Pru_findAlpha_52 1 rfl ?_
            refine g_get (i := 10) hX hj fl_Pru_25 d_Pru_findAlpha_53 (by omega) (w10.trans q10) rfl ?_
            refine v_aload_n hX d_Pru_findAlpha_56 3 rfl ?_
            refine g_callVI (As := [.ref (ad e)]) (st := []) hX hj (i := 23) (by omega) w23 (m_Fra_compareWith hj 23 (by decide) (T k 5 - T k 11) (T k 10 - 1) w23 e (by omega) A.2.1 A.2.2 we (hi5 k hk2).1 (hi5 k hk2).2 i4 i5) cl_Pru_82 d_Pru_findAlpha_57 rfl ⟨by decide, by decide⟩ ⟨by decide, by decide⟩ (Nat.le_of_ble_eq_true rfl) (fun z21 σ22 hz23 hp24 => ?_)
            obtain ⟨he25, hv26⟩ := hp24
            rw [he25]
            have hlt : z21 < 0 ↔ (T k 5 - T k 11) * A.2.2 < A.2.1 * (T k 10 - 1) := by rw [hv26]; split <;> first | omega | (split <;> omega)
            refine v_if_ge (tgt := 71) hX d_Pru_findAlpha_60 (by decide) (by first | assumption | exact ir_n (by omega) | (unfold ir; omega)) (fun c60_4 => ?_) (fun c60_4 => ?_)
            · have hbt : ¬ (A.1 = 1 ∨ (T k 5 - T k 11) * A.2.2 < A.2.1 * (T k 10 - 1)) := by omega
              have hAn : alI σ σ14 e (0, A.2) := ⟨fun i j1 j2 => by rw [hp16, va_up_ne _ _ j1]; exact i1 i j1 j2, ⟨_, _, w23⟩, we, i4, i5, Or.inl rfl⟩
              refine v_iconst hX (0) d_Pru_findAlpha_71 ?_
              refine v_istore_n (lv' := [(3, .int (iv (0))), (5, .ref (ad (76 + 3 * k))), (0, .ref (ad 10)), (1, .int (iv (((s : Nat) : Int)))), (2, .ref (ad e)), (4, .int (iv (((k : Nat) : Int))))]) hX d_Pru_findAlpha_72 rfl (by decide) rfl ?_
              refine v_iincN (a := k) (n := 1) (lv' := [(4, .int (iv ((((k + 1) : Nat) : Int)))), (3, .int (iv (0))), (5, .ref (ad (76 + 3 * k))), (0, .ref (ad 10)), (1, .int (iv (((s : Nat) : Int)))), (2, .ref (ad e))]) hX d_Pru_findAlpha_73 rfl 5 rfl (by decide) rfl ?_
              refine v_goto (tgt := 5) hX d_Pru_findAlpha_76 (by decide) ?_
              refine v_lv [3, 4, 5, 1, 0] rfl ?_
              exact ih_LOOP (k + 1) (σ14) ((0, A.2)) (by omega) (by omega) (by show _ = kAlS T s k (kAl T s k (1, a0, b0)); rw [← hAe]; unfold kAlS; rw [if_pos hpa, if_neg hbt]) hAn
            · refine v_aload_n hX d_Pru_findAlpha_63 3 rfl ?_
              refine v_aload_n hX d_Pru_findAlpha_64 1 rfl ?_
              refine g_get (i := 10) hX hj fl_Pru_25 d_Pru_findAlpha_65 (by omega) (w10.trans q10) rfl ?_
              refine g_callVV (As := [.ref (ad 23)]) (st := []) hX hj (i := e) (by omega) we (m_Fra_becomeAs hj e (by omega) A.2.1 A.2.2 we 23 (by decide) (T k 5 - T k 11) (T k 10 - 1) w23 (by omega)) cl_Pru_86 d_Pru_findAlpha_68 rfl ⟨by decide, by decide⟩ ⟨by decide, by decide⟩ (Nat.le_of_ble_eq_true rfl) (fun σ28 hp30 => ?_)
              have hbt : A.1 = 1 ∨ (T k 5 - T k 11) * A.2.2 < A.2.1 * (T k 10 - 1) := by omega
              have hAn : alI σ σ28 e (0, T k 5 - T k 11, T k 10 - 1) := ⟨fun i j1 j2 => by rw [hp30, va_up_ne _ _ j2, hp16, va_up_ne _ _ j1]; exact i1 i j1 j2, ⟨_, _, by unfold pFra; rw [hp30, va_up_ne _ _ (by omega)]; exact w23⟩, by unfold pFra; rw [hp30, va_up_self], (hi5 k hk2).1, (hi5 k hk2).2, Or.inl rfl⟩
              refine v_iconst hX (0) d_Pru_findAlpha_71 ?_
              refine v_istore_n (lv' := [(3, .int (iv (0))), (5, .ref (ad (76 + 3 * k))), (0, .ref (ad 10)), (1, .int (iv (((s : Nat) : Int)))), (2, .ref (ad e)), (4, .int (iv (((k : Nat) : Int))))]) hX d_Pru_findAlpha_72 rfl (by decide) rfl ?_
              refine v_iincN (a := k) (n := 1) (lv' := [(4, .int (iv ((((k + 1) : Nat) : Int)))), (3, .int (iv (0))), (5, .ref (ad (76 + 3 * k))), (0, .ref (ad 10)), (1, .int (iv (((s : Nat) : Int)))), (2, .ref (ad e))]) hX d_Pru_findAlpha_73 rfl 5 rfl (by decide) rfl ?_
              refine v_goto (tgt := 5) hX d_Pru_findAlpha_76 (by decide) ?_
              refine v_lv [3, 4, 5, 1, 0] rfl ?_
              exact ih_LOOP (k + 1) (σ28) ((0, T k 5 - T k 11, T k 10 - 1)) (by omega) (by omega) (by show _ = kAlS T s k (kAl T s k (1, a0, b0)); rw [← hAe]; unfold kAlS; rw [if_pos hpa, if_pos hbt]) hAn
  refine v_lv [2, 3, 4, 1, 0] rfl ?_
  exact LOOP _ (0) (σ) ((1, a0, b0)) (Nat.lt_succ_self _) (Nat.zero_le _) rfl hA0
