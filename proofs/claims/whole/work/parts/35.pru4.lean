/-! ALL STAGES; by program -/
set_option maxHeartbeats 1000000 in
set_option maxRecDepth 100000 in
theorem m_Pru_cutBackToRoot {G : xG} {f0 : xF} {ad : Nat → Nat} (hj : adOk ad 400) {σ : xF} {ps : Nat} {lc ws al be : Nat → Int} (hP : pPru G ad σ ps lc ws al be) (hps : ps ≤ 24) (sz : Nat) (hz : sz ≤ 47) (hz1 : 1 ≤ sz) (T : Nat → Nat → Int) (ch : Nat → Option Nat) (hTr : pTre G ad σ 0 sz T ch) (hco : chOk 0 ch) (hio : iOk T) (hal : ∀ s, s < 24 → ir (al s) ∧ ir (be s)) (hi5 : ∀ (s : Nat) (T9 : Nat → Nat → Int), zEq T T9 → ∀ x, x < sz → ir (kSum ch s sz sz T9 x 5 - kSum ch s sz sz T9 x 11) ∧ ir (kSum ch s sz sz T9 x 10 - 1)) : ∀ l, gVo l G f0 ad 400 y_Pru_cutBackToRoot (.code y_Pru_cutBackToRoot c_Pru_cutBackToRoot 3 none) rm_Pru_cutBackToRoot [.ref (ad 10)] σ (fun σ' => ∃ Z, Z = (kStg ch sz ((1 : Int), 0, (kBg ch sz T), lc, ws, al, be) 24) ∧ pTre G ad σ' 0 sz Z.2.2.1 ch ∧ pPru G ad σ' Z.2.1 Z.2.2.2.1 Z.2.2.2.2.1 Z.2.2.2.2.2.1 Z.2.2.2.2.2.2 ∧ Z.2.1 ≤ 24 ∧ iOk Z.2.2.1 ∧ zFr σ σ' ∧ zEq T Z.2.2.1 ∧ ∀ s, s < 24 → ir (Z.2.2.2.2.2.1 s) ∧ ir (Z.2.2.2.2.2.2 s)) := by
  intro l
  refine mV_of (by decide) (Nat.le_of_ble_eq_true rfl) (fun X hX hret => ?_)
  show vV G X 0 0 0 [(0, .ref (ad 10))] [] (ov f0 ad 400 σ)
  obtain ⟨p1, p2, p3, p4, p5, p6⟩ := id hP
  obtain ⟨r1, r2, r3⟩ := id hTr
  refine v_iconst hX (0) d_Pru_cutBackToRoot_0 ?_
  refine v_istore_n (lv' := [(1, .int (iv (0))), (0, .ref (ad 10))]) hX d_Pru_cutBackToRoot_1 rfl (by decide) rfl ?_
  have LA : ∀ (fuel : Nat) (k : Nat) (σv : xF), sz - k < fuel → (k ≤ sz) → (pTre G ad σv 0 sz (kBg ch k T) ch) → (∀ i, i < 76 ∨ 217 ≤ i → σv i = σ i) → vV G X 0 0 2 [(0, .ref (ad 10)), (1, .int (iv (((k : Nat) : Int))))] [] (ov f0 ad 400 σv) := by
    intro fuel
    induction fuel with
    | zero => intro k σv hm; exact absurd hm (Nat.not_lt_zero _)
    | succ fuel ih_LA =>
      intro k σv hm hk hTv hFr
      obtain ⟨v1, v2, v3⟩ := id hTv
      have q10 := (hFr 10 (by decide)).trans p1
      refine v_iload_n hX d_Pru_cutBackToRoot_2 1 rfl ?_
      refine v_aload_n hX d_Pru_cutBackToRoot_3 0 rfl ?_
      refine g_get (i := 10) hX hj fl_Pru_29 d_Pru_cutBackToRoot_4 (by omega) q10 rfl ?_
      refine g_get (i := 8) hX hj fl_Pru_37 d_Pru_cutBackToRoot_7 (by omega) v1 rfl ?_
      refine v_icmp_ge (tgt := 36) hX d_Pru_cutBackToRoot_10 (by decide) (by first | assumption | exact ir_n (by omega) | (unfold ir; omega)) (by first | assumption | exact ir_n (by omega) | (unfold ir; omega)) (fun c10_1 => ?_) (fun c10_1 => ?_)
      · have ek : k = sz := by omega
        rw [ek] at hTv
        obtain ⟨v1, v2, v3⟩ := id hTv
        refine v_aload_n hX d_Pru_cutBackToRoot_36 0 rfl ?_
        refine v_iconst hX (0) d_Pru_cutBackToRoot_37 ?_
        refine g_put (i := 10) (fs' := [.int (iv (0)), .ref (ad 20), .ref (ad 21), .ref (ad 22), .ref (ad 8), .ref (ad 23)]) hX hj pf_Pru_33 d_Pru_cutBackToRoot_38 (by omega) q10 rfl rfl (Nat.le_of_ble_eq_true rfl) rfl ?_
        obtain ⟨σ1, hs2⟩ : ∃ s9, s9 = va_up σv (10) (eO 4 [.int (iv (0)), .ref (ad 20), .ref (ad 21), .ref (ad 22), .ref (ad 8), .ref (ad 23)]) := ⟨_, rfl⟩
        rw [← hs2]
        have hf4 := (show σ1 (8) = σv (8) by rw [hs2, va_up_ne _ _ (by omega)]).trans v1
        have hf5 : σ1 (10) = (eO 4 [.int (iv (0)), .ref (ad 20), .ref (ad 21), .ref (ad 22), .ref (ad 8), .ref (ad 23)]) := by rw [hs2, va_up_self]
        refine v_iconst hX (1) d_Pru_cutBackToRoot_41 ?_
        refine v_istore_n (lv' := [(1, .int (iv (1))), (0, .ref (ad 10))]) hX d_Pru_cutBackToRoot_42 rfl (by decide) rfl ?_
        refine v_iconst hX (0) d_Pru_cutBackToRoot_43 ?_
        refine v_istore_n (lv' := [(2, .int (iv (0))), (1, .int (iv (1))), (0, .ref (ad 10))]) hX d_Pru_cutBackToRoot_44 rfl (by decide) rfl ?_
        have LB : ∀ (fuel : Nat) (s : Nat) (σw : xF) (Z : zS), 24 - s < fuel → (s ≤ 24) → (Z = (kStg ch sz ((1 : Int), 0, (kBg ch sz T), lc, ws, al, be) s)) → (pTre G ad σw 0 sz Z.2.2.1 ch) → (pPru G ad σw Z.2.1 Z.2.2.2.1 Z.2.2.2.2.1 Z.2.2.2.2.2.1 Z.2.2.2.2.2.2) → (Z.2.1 ≤ 24) → (iOk Z.2.2.1) → (Z.1 = 0 ∨ Z.1 = 1) → (zFr σ σw) → (zEq T Z.2.2.1) → (∀ s, s < 24 → ir (Z.2.2.2.2.2.1 s) ∧ ir (Z.2.2.2.2.2.2 s)) → vV G X 0 0 45 [(0, .ref (ad 10)), (1, .int (iv (Z.1))), (2, .int (iv (((s : Nat) : Int))))] [] (ov f0 ad 400 σw) := by
          intro fuel
          induction fuel with
          | zero => intro s σw Z hm; exact absurd hm (Nat.not_lt_zero _)
          | succ fuel ih_LB =>
            intro s σw Z hm hs hZ hTw hPw hps2 hiw hp1 hFw hTe hAl
            obtain ⟨u1, u2, u3⟩ := id hTw
            obtain ⟨w1, w2, w3, w4, w5, w6⟩ := id hPw
            refine v_iload_n hX d_Pru_cutBackToRoot_45 2 rfl ?_
            refine v_bipush hX (24) d_Pru_cutBackToRoot_46 rfl ?_
            refine v_icmp_ge (tgt := 105) hX d_Pru_cutBackToRoot_48 (by decide) (by first | assumption | exact ir_n (by omega) | (unfold ir; omega)) (by first | assumption | exact ir_n (by omega) | (unfold ir; omega)) (fun c48_2 => ?_) (fun c48_2 => ?_)
            · have eF : (kStg ch sz ((1 : Int), 0, (kBg ch sz T), lc, ws, al, be) 24) = Z := by
                by_cases e9 : s = 24
                · rw [hZ, e9]
                · have e1 := kStg_stop (ch := ch) (sz := sz) (Z0 := ((1 : Int), 0, (kBg ch sz T), lc, ws, al, be)) (k := s) (by rw [← hZ]; omega) (24 - s)
                  rw [show s + (24 - s) = 24 by omega] at e1
                  rw [e1, hZ]
              exact hret _ _ _ d_Pru_cutBackToRoot_105 ⟨_, rfl, Z, eF.symm, hTw, hPw, hps2, hiw, hFw, hTe, hAl⟩
            · refine v_iload_n hX d_Pru_cutBackToRoot_51 1 rfl ?_
              refine v_if_eq (tgt := 105) hX d_Pru_cutBackToRoot_52 (by decide) (by first | assumption | exact ir_n (by omega) | (unfold ir; omega)) (fun c52_3 => ?_) (fun c52_3 => ?_)
              · have eF : (kStg ch sz ((1 : Int), 0, (kBg ch sz T), lc, ws, al, be) 24) = Z := by
                  by_cases e9 : s = 24
                  · rw [hZ, e9]
                  · have e1 := kStg_stop (ch := ch) (sz := sz) (Z0 := ((1 : Int), 0, (kBg ch sz T), lc, ws, al, be)) (k := s) (by rw [← hZ]; omega) (24 - s)
                    rw [show s + (24 - s) = 24 by omega] at e1
                    rw [e1, hZ]
                exact hret _ _ _ d_Pru_cutBackToRoot_105 ⟨_, rfl, Z, eF.symm, hTw, hPw, hps2, hiw, hFw, hTe, hAl⟩
              · refine v_aload_n hX d_Pru_cutBackToRoot_55 0 rfl ?_
                refine v_iload_n hX d_Pru_cutBackToRoot_56 2 rfl ?_
                refine g_callVI (As := [.int (iv (((s : Nat) : Int)))]) (st := []) hX hj (i := 10) (by omega) w1 (m_Pru_recordStage hj hPw hps2 sz hz hz1 Z.2.2.1 ch hTw hco s (by omega) (fun x hx => iOk_ir hiw (by omega))) cl_Pru_49 d_Pru_cutBackToRoot_57 rfl ⟨by decide, by decide⟩ ⟨by decide, by decide⟩ (Nat.le_of_ble_eq_true rfl) (fun z6 σ7 hz8 hp9 => ?_)
                obtain ⟨hTx, hPx, hFx, hzx⟩ := hp9
                have hzp : z6 = zPar s Z.2.2.1 := hzx
                have hz01 : z6 = 0 ∨ z6 = 1 := by rw [hzp]; unfold zPar pI; split <;> simp
                obtain ⟨t1, t2, t3⟩ := id hTx
                obtain ⟨y1, y2, y3, y4, y5, y6⟩ := id hPx
                refine v_istore_n (lv' := [(1, .int (iv (z6))), (0, .ref (ad 10)), (2, .int (iv (((s : Nat) : Int))))]) hX d_Pru_cutBackToRoot_60 rfl (by decide) rfl ?_
                refine v_iload_n hX d_Pru_cutBackToRoot_61 0 rfl ?_
                refine v_if_eq (tgt := 99) hX d_Pru_cutBackToRoot_62 (by decide) (by first | assumption | exact ir_n (by omega) | (unfold ir; omega)) (fun c62_4 => ?_) (fun c62_4 => ?_)
                · refine v_iincN (a := s) (n := 1) (lv' := [(2, .int (iv ((((s + 1) : Nat) : Int)))), (1, .int (iv (z6))), (0, .ref (ad 10))]) hX d_Pru_cutBackToRoot_99 rfl 2 rfl (by decide) rfl ?_
                  refine v_goto (tgt := 45) hX d_Pru_cutBackToRoot_102 (by decide) ?_
                  refine v_lv [2, 1, 0] rfl ?_
                  exact ih_LB (s + 1) (σ7) ((z6, s + 1, (kSum ch s sz sz Z.2.2.1), va_up Z.2.2.2.1 s ((kSum ch s sz sz Z.2.2.1) 0 10), va_up Z.2.2.2.2.1 s ((kSum ch s sz sz Z.2.2.1) 0 11), Z.2.2.2.2.2)) (by omega) (by omega) (by show _ = (if ((kStg ch sz ((1 : Int), 0, (kBg ch sz T), lc, ws, al, be) s)).1 = 0 then _ else _); rw [← hZ, if_neg (by assumption)]; unfold zStep; rw [← hzp, if_neg (fun g => by omega)]) hTx hPx (by show s + 1 ≤ 24; omega) (iOk_sum hiw ch s sz sz) hz01 (fun i i1 i2 i3 => by rw [hFx i i1 (by omega) (by omega) (by omega)]; exact hFw i i1 i2 i3) (zEq_sum hTe ch s sz sz) hAl
                · refine v_iload_n hX d_Pru_cutBackToRoot_65 2 rfl ?_
                  refine v_iconst hX (1) d_Pru_cutBackToRoot_66 ?_
                  refine v_iaddN (a := s) (b := 1) hX d_Pru_cutBackToRoot_67 ?_
                  refine v_bipush hX (24) d_Pru_cutBackToRoot_68 rfl ?_
                  refine v_icmp_ge (tgt := 99) hX d_Pru_cutBackToRoot_70 (by decide) (by first | assumption | exact ir_n (by omega) | (unfold ir; omega)) (by first | assumption | exact ir_n (by omega) | (unfold ir; omega)) (fun c70_5 => ?_) (fun c70_5 => ?_)
                  · refine v_iincN (a := s) (n := 1) (lv' := [(2, .int (iv ((((s + 1) : Nat) : Int)))), (1, .int (iv (z6))), (0, .ref (ad 10))]) hX d_Pru_cutBackToRoot_99 rfl 2 rfl (by decide) rfl ?_
                    refine v_goto (tgt := 45) hX d_Pru_cutBackToRoot_102 (by decide) ?_
                    refine v_lv [2, 1, 0] rfl ?_
                    exact ih_LB (s + 1) (σ7) ((z6, s + 1, (kSum ch s sz sz Z.2.2.1), va_up Z.2.2.2.1 s ((kSum ch s sz sz Z.2.2.1) 0 10), va_up Z.2.2.2.2.1 s ((kSum ch s sz sz Z.2.2.1) 0 11), Z.2.2.2.2.2)) (by omega) (by omega) (by show _ = (if ((kStg ch sz ((1 : Int), 0, (kBg ch sz T), lc, ws, al, be) s)).1 = 0 then _ else _); rw [← hZ, if_neg (by assumption)]; unfold zStep; rw [← hzp, if_neg (fun g => by omega)]) hTx hPx (by show s + 1 ≤ 24; omega) (iOk_sum hiw ch s sz sz) hz01 (fun i i1 i2 i3 => by rw [hFx i i1 (by omega) (by omega) (by omega)]; exact hFw i i1 i2 i3) (zEq_sum hTe ch s sz sz) hAl
                  · refine v_aload_n hX d_Pru_cutBackToRoot_73 1 rfl ?_
                    refine v_iload_n hX d_Pru_cutBackToRoot_74 2 rfl ?_
                    refine v_aload_n hX d_Pru_cutBackToRoot_75 1 rfl ?_
                    refine g_get (i := 10) hX hj fl_Pru_11 d_Pru_cutBackToRoot_76 (by omega) y1 rfl ?_
                    refine v_iload_n hX d_Pru_cutBackToRoot_79 2 rfl ?_
                    refine v_iconst hX (1) d_Pru_cutBackToRoot_80 ?_
                    refine v_iaddN (a := s) (b := 1) hX d_Pru_cutBackToRoot_81 ?_
                    refine g_aald (i := 20) hX hj d_Pru_cutBackToRoot_82 (by omega) y2 rfl (by decide) ((s + 1)) rfl (by omega) (if_pos (by omega)) ?_
                    refine g_callVV (As := [.int (iv (((s : Nat) : Int))), .ref (ad (52 + (s + 1)))]) (st := []) hX hj (i := 10) (by omega) y1 (m_Pru_findAlpha hj hPx (by omega) sz hz hz1 (kSum ch s sz sz Z.2.2.1) ch hTx hco s (52 + (s + 1)) (by omega) (by omega) (by omega) (fun x hx => iOk_ir (iOk_sum hiw ch s sz sz) (by omega)) (hi5 s Z.2.2.1 hTe) (Z.2.2.2.2.2.1 (s + 1)) (Z.2.2.2.2.2.2 (s + 1)) ⟨fun _ _ _ => rfl, y5, y6 (s + 1) (by omega), (hAl (s + 1) (by omega)).1, (hAl (s + 1) (by omega)).2, Or.inr rfl⟩) cl_Pru_53 d_Pru_cutBackToRoot_83 rfl ⟨by decide, by decide⟩ ⟨by decide, by decide⟩ (Nat.le_of_ble_eq_true rfl) (fun σ11 hp13 => ?_)
                    obtain ⟨A, hAe, hAI⟩ := hp13
                    obtain ⟨a1, a2, a3, a4, a5, a6⟩ := id hAI
                    have hTy : pTre G ad σ11 0 sz (kSum ch s sz sz Z.2.2.1) ch := ⟨(a1 _ (by decide) (by omega)).trans t1, (a1 _ (by decide) (by omega)).trans t2, fun n9 h9 => (t3 n9 h9).up (a1 _ (by omega) (by omega)) (a1 _ (by omega) (by omega)) (a1 _ (by omega) (by omega))⟩
                    have hPy := hPx.up2 a1 a2 (by omega) (by omega) a3
                    rw [show 52 + (s + 1) - 52 = s + 1 by omega] at hPy
                    refine v_aload_n hX d_Pru_cutBackToRoot_86 1 rfl ?_
                    refine v_iload_n hX d_Pru_cutBackToRoot_87 2 rfl ?_
                    refine v_aload_n hX d_Pru_cutBackToRoot_88 1 rfl ?_
                    refine g_get (i := 10) hX hj fl_Pru_11 d_Pru_cutBackToRoot_89 (by omega) hPy.1 rfl ?_
                    refine v_iload_n hX d_Pru_cutBackToRoot_92 2 rfl ?_
                    refine v_iconst hX (1) d_Pru_cutBackToRoot_93 ?_
                    refine v_iaddN (a := s) (b := 1) hX d_Pru_cutBackToRoot_94 ?_
                    refine g_aald (i := 20) hX hj d_Pru_cutBackToRoot_95 (by omega) hPy.2.1 rfl (by decide) ((s + 1)) rfl (by omega) (if_pos (by omega)) ?_
                    refine g_callVV (As := [.int (iv (((s : Nat) : Int))), .ref (ad (52 + (s + 1)))]) (st := []) hX hj (i := 10) (by omega) hPy.1 (m_Pru_cutBack hj hPy (by omega) sz hz hz1 (kSum ch s sz sz Z.2.2.1) ch hTy hco s (52 + (s + 1)) (by omega) (by omega) (by omega) (iOk_sum hiw ch s sz sz) (hi5 s Z.2.2.1 hTe) A.2.1 A.2.2 a3 a4 a5) cl_Pru_57 d_Pru_cutBackToRoot_96 rfl ⟨by decide, by decide⟩ ⟨by decide, by decide⟩ (Nat.le_of_ble_eq_true rfl) (fun σ15 hp17 => ?_)
                    obtain ⟨hTc, hic, hFc, h23c⟩ := hp17
                    have eZ : (kStg ch sz ((1 : Int), 0, (kBg ch sz T), lc, ws, al, be) (s + 1)) = (z6, s + 1, kCb ch s A.2.1 A.2.2 sz (kSum ch s sz sz Z.2.2.1), va_up Z.2.2.2.1 s ((kSum ch s sz sz Z.2.2.1) 0 10), va_up Z.2.2.2.2.1 s ((kSum ch s sz sz Z.2.2.1) 0 11), va_up Z.2.2.2.2.2.1 (s + 1) A.2.1, va_up Z.2.2.2.2.2.2 (s + 1) A.2.2) := by show (if ((kStg ch sz ((1 : Int), 0, (kBg ch sz T), lc, ws, al, be) s)).1 = 0 then _ else _) = _; rw [← hZ, if_neg (by assumption)]; unfold zStep; rw [← hzp, if_pos ⟨by omega, by omega⟩, ← hAe]
                    refine v_iincN (a := s) (n := 1) (lv' := [(2, .int (iv ((((s + 1) : Nat) : Int)))), (1, .int (iv (z6))), (0, .ref (ad 10))]) hX d_Pru_cutBackToRoot_99 rfl 2 rfl (by decide) rfl ?_
                    refine v_goto (tgt := 45) hX d_Pru_cutBackToRoot_102 (by decide) ?_
                    refine v_lv [2, 1, 0] rfl ?_
                    exact ih_LB (s + 1) (σ15) ((z6, s + 1, kCb ch s A.2.1 A.2.2 sz (kSum ch s sz sz Z.2.2.1), va_up Z.2.2.2.1 s ((kSum ch s sz sz Z.2.2.1) 0 10), va_up Z.2.2.2.2.1 s ((kSum ch s sz sz Z.2.2.1) 0 11), va_up Z.2.2.2.2.2.1 (s + 1) A.2.1, va_up Z.2.2.2.2.2.2 (s + 1) A.2.2)) (by omega) (by omega) eZ.symm hTc (hPy.up3 hFc h23c) (by show s + 1 ≤ 24; omega) hic hz01 (fun i i1 i2 i3 => by rw [hFc i (by omega) (by omega), a1 i (by omega) (by omega), hFx i i1 (by omega) (by omega) (by omega)]; exact hFw i i1 i2 i3) (zEq_cb (zEq_sum hTe ch s sz sz) ch s A.2.1 A.2.2 sz) (al_up hAl a4 a5)
        refine v_lv [2, 1, 0] rfl ?_
        exact LB _ (0) (σ1) (((1 : Int), 0, (kBg ch sz T), lc, ws, al, be)) (Nat.lt_succ_self _) (by decide) rfl (show pTre G ad σ1 0 sz (kBg ch sz T) ch from ⟨by rw [hs2, va_up_ne _ _ (by decide)]; exact v1, by rw [hs2, va_up_ne _ _ (by decide)]; exact v2, fun n9 h9 => (v3 n9 h9).up (by rw [hs2, va_up_ne _ _ (by omega)]) (by rw [hs2, va_up_ne _ _ (by omega)]) (by rw [hs2, va_up_ne _ _ (by omega)])⟩) (by obtain ⟨x9, y9, g9⟩ := p5; exact ⟨hf5, by rw [hs2, va_up_ne _ _ (by decide), hFr _ (by decide)]; exact p2, by rw [hs2, va_up_ne _ _ (by decide), hFr _ (by decide)]; exact p3, by rw [hs2, va_up_ne _ _ (by decide), hFr _ (by decide)]; exact p4, ⟨x9, y9, by unfold pFra; rw [hs2, va_up_ne _ _ (by decide), hFr _ (by decide)]; exact g9⟩, fun s9 hs9 => by unfold pFra; rw [hs2, va_up_ne _ _ (by omega), hFr _ (by omega)]; exact p6 s9 hs9⟩) (Nat.zero_le _) (iOk_bg hio ch sz) (Or.inr rfl) (fun i i1 i2 i3 => by rw [hs2, va_up_ne _ _ i1]; exact hFr i (by omega)) (zEq_bg T ch sz) hal
      · refine v_aload_n hX d_Pru_cutBackToRoot_13 0 rfl ?_
        refine g_get (i := 10) hX hj fl_Pru_29 d_Pru_cutBackToRoot_14 (by omega) q10 rfl ?_
        refine v_iload_n hX d_Pru_cutBackToRoot_17 1 rfl ?_
        refine g_callVR (As := [.int (iv (((k : Nat) : Int)))]) (st := []) hX hj (i := 8) (by omega) v1 (m_Tre_find hj 0 (by decide) sz hz _ _ hTv ((k : Nat) : Int) (ir_n (by omega))) cl_Pru_40 d_Pru_cutBackToRoot_18 rfl ⟨by decide, by decide⟩ ⟨by decide, by decide⟩ (Nat.le_of_ble_eq_true rfl) (fun z18 σ19 hp21 => ?_)
        obtain ⟨he22, hv23⟩ := hp21
        rw [he22]
        have hv23e : z18 = some (ad (76 + 141 * 0 + 3 * k)) := by rw [hv23, if_pos (by omega), Int.toNat_natCast]
        subst hv23e
        refine v_eq (st' := [.ref (ad (76 + 3 * k))]) (by show va_rf (some (ad (76 + 141 * 0 + 3 * k))) :: _ = _; rw [show 76 + 141 * 0 + 3 * k = 76 + 3 * k by omega]; rfl) ?_
        refine v_astore_n (lv' := [(2, .ref (ad (76 + 3 * k))), (0, .ref (ad 10)), (1, .int (iv (((k : Nat) : Int))))]) hX d_Pru_cutBackToRoot_21 rfl (by decide) rfl ?_
        refine v_aload_n hX d_Pru_cutBackToRoot_22 0 rfl ?_
        refine v_ifnull hX d_Pru_cutBackToRoot_23 ?_
        have hpn : pNod ad σv (76 + 3 * k) k ((kBg ch k T) k) (ch k) := by have h := v3 k (by omega); rw [show 76 + 141 * 0 + 3 * k = 76 + 3 * k by omega] at h; exact h
        refine v_aload_n hX d_Pru_cutBackToRoot_26 0 rfl ?_
        refine g_callVV (As := []) (st := []) hX hj (i := 76 + 3 * k) (by omega) hpn.1 (m_Nod_beginStages hj (76 + 3 * k) k (by omega) ((kBg ch k T) k) (ch k) hpn) cl_Pru_44 d_Pru_cutBackToRoot_27 rfl ⟨by decide, by decide⟩ ⟨by decide, by decide⟩ (Nat.le_of_ble_eq_true rfl) (fun σ25 hp27 => ?_)
        have hTn : pTre G ad σ25 0 sz (kBg ch (k + 1) T) ch := hTv.nod (by decide) (by omega) (fun j hj => by rw [va_up_ne _ _ (by omega), va_up_ne _ _ (by omega)]) (by rw [hp27, show 76 + 141 * 0 + 3 * k = 76 + 3 * k by omega])
        have hFn : ∀ i, i < 76 ∨ 217 ≤ i → σ25 i = σ i := fun i hi => by rw [hp27, va_up_ne _ _ (by omega)]; exact hFr i hi
        refine v_iincN (a := k) (n := 1) (lv' := [(1, .int (iv ((((k + 1) : Nat) : Int)))), (2, .ref (ad (76 + 3 * k))), (0, .ref (ad 10))]) hX d_Pru_cutBackToRoot_30 rfl 2 rfl (by decide) rfl ?_
        refine v_goto (tgt := 2) hX d_Pru_cutBackToRoot_33 (by decide) ?_
        refine v_lv [2, 0] rfl ?_
        exact ih_LA (k + 1) (σ25) (by omega) (by omega) hTn hFn
  refine v_lv [1, 0] rfl ?_
  exact LA _ (0) (σ) (Nat.lt_succ_self _) (Nat.zero_le _) hTr (fun _ _ => rfl)
