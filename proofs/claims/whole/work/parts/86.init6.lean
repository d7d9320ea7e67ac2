/-! THE CONSTRUCTOR of BestSplits; by program -/
set_option maxHeartbeats 1000000 in
set_option maxRecDepth 100000 in
theorem n_Bs {G : xG} {ad : Nat → Nat} (hj : adOk ad 400) {σ : xF} (hb : σ 0 = eO 8 [.null, .null, .null, .null, .null, .null, .null, .int (iv (0)), .int (iv (0))]) (hn : ∀ i, 1 ≤ i → i < 358 → σ i = fNo) : ∀ l, gC l G ad y_Bs_init (.code y_Bs_init c_Bs_init 1 none) rk_Bs [.ref (ad 0)] σ (fun ad' σ' => bsP G ad' σ' 0 (fun _ _ => 0) (fun _ => 0) (fun _ => 0) (fun _ => 0) (fun _ => 0) (fun _ _ => 0) 3 1 0 1 (-1) (fun _ => 0) 1 tI (fun _ => none) 0 (fun _ => 0) (fun _ => 0) (fun _ => 0) (fun _ => 1) ∧ ∀ q, 358 ≤ q → σ' q = σ q) := by
  intro l
  refine mV_of (by decide) (Nat.le_of_ble_eq_true rfl) (fun X hX hret => ?_)
  show vV G X 0 0 0 [(0, .ref (ad 0))] [] (ov fZ ad 400 σ)
  have hF0 : ∀ q, 1 ≤ q → σ q = σ q := fun _ _ => rfl
  refine v_aload_n hX d_Bs_init_0 0 rfl ?_
  refine v_objInit hX d_Bs_init_1 (mT 61 (by decide +kernel) rfl) (mT 62 (by decide +kernel) rfl) (mT 63 (by decide +kernel) rfl) (by decide) (by decide) ?_
  refine v_aload_n hX d_Bs_init_4 0 rfl ?_
  refine g_new hX hj (g := 1) (by omega) ((hF0 1 (by omega)).trans (hn 1 (by omega) (by omega))) nw_Bs_9 d_Bs_init_5 ⟨by decide, by decide⟩ (fun ad1 hj2 hx3 => ?_)
  have ex4 : exA σ ad ad1 := exA_tr (exA_r σ ad) (moN_r σ) hx3
  have e5 : ad1 0 = ad 0 := hx3 0 (by omega) (by rw [hb]; exact eO_ne (by decide))
  rw [← e5]
  obtain ⟨σ6, hs7⟩ : ∃ s9, s9 = va_up σ (1) (eO 6 [.null, .null, .int (iv (0)), .null, .null, .null, .null]) := ⟨_, rfl⟩
  rw [← hs7]
  have mo8 : moN σ σ6 := by rw [hs7]; exact moN_up (moN_r σ) _ (eO_ne (by decide))
  have hf9 : σ6 (0) = eO 8 [.null, .null, .null, .null, .null, .null, .null, .int (iv (0)), .int (iv (0))] := (show σ6 (0) = σ (0) by rw [hs7, va_up_ne _ _ (by omega)]).trans hb
  have hp10 : ∀ q, (2 ≤ q) → σ6 q = σ q := fun q hq => (show σ6 q = σ q by rw [hs7, va_up_ne _ _ (by omega)]).trans (hF0 q (by omega))
  have hf11 : σ6 (1) = eO 6 [.null, .null, .int (iv (0)), .null, .null, .null, .null] := by rw [hs7, va_up_self]
  refine v_dup hX d_Bs_init_8 rfl ?_
  refine g_callN (As := []) (b := ad1 1) (st := [.ref (ad1 1), .ref (ad1 0)]) hX (n_Tab hj2 hf11 (fun i (hi : (12 ≤ i ∧ i ≤ 17) ∨ (24 ≤ i ∧ i ≤ 51)) => (hp10 i (by omega)).trans (hn i (by omega) (by omega)))) cl_Bs_11 d_Bs_init_9 rfl ⟨by decide, by decide⟩ ⟨by decide, by decide⟩ (Nat.le_of_ble_eq_true rfl) (fun ad12 σ13 hj14 hx15 hp16 => ?_)
  obtain ⟨k171, k172⟩ := hp16
  have ex18 : exA σ ad ad12 := exA_tr ex4 mo8 hx15
  have e19 : ad12 0 = ad1 0 := hx15 0 (by omega) (by rw [hf9]; exact eO_ne (by decide))
  rw [← e19]
  have e20 : ad12 1 = ad1 1 := hx15 1 (by omega) (by rw [hf11]; exact eO_ne (by decide))
  rw [← e20]
  have hf21 : σ13 (0) = eO 8 [.null, .null, .null, .null, .null, .null, .null, .int (iv (0)), .int (iv (0))] := (show σ13 (0) = σ6 (0) from k172 _ (by omega)).trans hf9
  have hp22 : ∀ q, ((2 ≤ q ∧ q ≤ 11) ∨ (18 ≤ q ∧ q ≤ 23) ∨ 52 ≤ q) → σ13 q = σ q := fun q hq => (show σ13 q = σ6 q from k172 _ (by omega)).trans (hp10 q (by omega))
  have mo23 : moN σ σ13 := moN_of mo8 (fun q => by
    by_cases z : q ≠ 1 ∧ (q < 12 ∨ 17 < q) ∧ (q < 24 ∨ 51 < q)
    · exact Or.inr (k172 q (by omega))
    · exact Or.inl (pTab_ne k171 (by omega)))
  refine g_putF (i := 0) (fs' := [.ref (ad12 1), .null, .null, .null, .null, .null, .null, .int (iv (0)), .int (iv (0))]) hX hj14 pF_Bs_12 rfl d_Bs_init_12 (by omega) hf21 rfl rfl (Nat.le_of_ble_eq_true rfl) rfl ?_
  obtain ⟨σ24, hs25⟩ : ∃ s9, s9 = va_up σ13 (0) (eO 8 [.ref (ad12 1), .null, .null, .null, .null, .null, .null, .int (iv (0)), .int (iv (0))]) := ⟨_, rfl⟩
  rw [← hs25]
  have mo26 : moN σ σ24 := by rw [hs25]; exact moN_up mo23 _ (eO_ne (by decide))
  have hf27 : σ24 (1) ≠ fNo := by rw [show σ24 (1) = σ13 (1) by rw [hs25, va_up_ne _ _ (by omega)]]; exact (by rw [k171.1]; exact eO_ne (by decide))
  have hp28 : ∀ q, ((2 ≤ q ∧ q ≤ 11) ∨ (18 ≤ q ∧ q ≤ 23) ∨ 52 ≤ q) → σ24 q = σ q := fun q hq => (show σ24 q = σ13 q by rw [hs25, va_up_ne _ _ (by omega)]).trans (hp22 q (by omega))
  have hp29 : pTab G ad12 σ24 0 (fun _ _ => 0) (fun _ => 0) (fun _ => 0) (fun _ => 0) (fun _ => 0) (fun _ _ => 0) := k171.up (fun i hi => show σ24 i = σ13 i by rw [hs25, va_up_ne _ _ (by omega)])
  have hf30 : σ24 (0) = eO 8 [.ref (ad12 1), .null, .null, .null, .null, .null, .null, .int (iv (0)), .int (iv (0))] := by rw [hs25, va_up_self]
  refine v_aload_n hX d_Bs_init_15 0 rfl ?_
  refine g_new hX hj14 (g := 2) (by omega) ((hp28 2 (by omega)).trans (hn 2 (by omega) (by omega))) nw_Bs_16 d_Bs_init_16 ⟨by decide, by decide⟩ (fun ad31 hj32 hx33 => ?_)
  have ex34 : exA σ ad ad31 := exA_tr ex18 mo26 hx33
  have e35 : ad31 0 = ad12 0 := hx33 0 (by omega) (by rw [hf30]; exact eO_ne (by decide))
  rw [← e35]
  have t36 : ad31 1 = ad12 1 := (hx33 1 (by omega) hf27)
  have hp37 : pTab G ad31 σ24 0 (fun _ _ => 0) (fun _ => 0) (fun _ => 0) (fun _ => 0) (fun _ => 0) (fun _ _ => 0) := pTab_ad hp29 hx33
  obtain ⟨σ38, hs39⟩ : ∃ s9, s9 = va_up σ24 (2) (eO 2 [.int (iv (0)), .int (iv (0)), .int (iv (0))]) := ⟨_, rfl⟩
  rw [← hs39]
  have mo40 : moN σ σ38 := by rw [hs39]; exact moN_up mo26 _ (eO_ne (by decide))
  have hf41 : σ38 (1) ≠ fNo := by rw [show σ38 (1) = σ24 (1) by rw [hs39, va_up_ne _ _ (by omega)]]; exact hf27
  have hf42 : σ38 (0) = eO 8 [.ref (ad12 1), .null, .null, .null, .null, .null, .null, .int (iv (0)), .int (iv (0))] := (show σ38 (0) = σ24 (0) by rw [hs39, va_up_ne _ _ (by omega)]).trans hf30
  have hp43 : ∀ q, ((3 ≤ q ∧ q ≤ 11) ∨ (18 ≤ q ∧ q ≤ 23) ∨ 52 ≤ q) → σ38 q = σ q := fun q hq => (show σ38 q = σ24 q by rw [hs39, va_up_ne _ _ (by omega)]).trans (hp28 q (by omega))
  have hp44 : pTab G ad31 σ38 0 (fun _ _ => 0) (fun _ => 0) (fun _ => 0) (fun _ => 0) (fun _ => 0) (fun _ _ => 0) := hp37.up (fun i hi => show σ38 i = σ24 i by rw [hs39, va_up_ne _ _ (by omega)])
  have hf45 : σ38 (2) = eO 2 [.int (iv (0)), .int (iv (0)), .int (iv (0))] := by rw [hs39, va_up_self]
  refine v_dup hX d_Bs_init_19 rfl ?_
  refine v_callN (As := []) (b := ad31 2) (st := [.ref (ad31 2), .ref (ad31 0)]) hX (fun l => n_Lim hj32 2 (by omega) hf45 l) cl_Bs_18 d_Bs_init_20 rfl ⟨by decide, by decide⟩ ⟨by decide, by decide⟩ (Nat.le_of_ble_eq_true rfl) (fun f9 hf9 => ?_)
  obtain ⟨σ46, ef9, hp47⟩ := hf9
  subst ef9
  have hf48 : σ46 (1) ≠ fNo := by rw [show σ46 (1) = σ38 (1) by rw [hp47, va_up_ne _ _ (by omega)]]; exact hf41
  have hf49 : σ46 (0) = eO 8 [.ref (ad12 1), .null, .null, .null, .null, .null, .null, .int (iv (0)), .int (iv (0))] := (show σ46 (0) = σ38 (0) by rw [hp47, va_up_ne _ _ (by omega)]).trans hf42
  have hp50 : ∀ q, ((3 ≤ q ∧ q ≤ 11) ∨ (18 ≤ q ∧ q ≤ 23) ∨ 52 ≤ q) → σ46 q = σ q := fun q hq => (show σ46 q = σ38 q by rw [hp47, va_up_ne _ _ (by omega)]).trans (hp43 q (by omega))
  have hp51 : pTab G ad31 σ46 0 (fun _ _ => 0) (fun _ => 0) (fun _ => 0) (fun _ => 0) (fun _ => 0) (fun _ _ => 0) := hp44.up (fun i hi => show σ46 i = σ38 i by rw [hp47, va_up_ne _ _ (by omega)])
  have hf52 : pLim σ46 3 1 0 := by unfold pLim; rw [hp47, va_up_self]; rfl
  have mo53 : moN σ σ46 := by rw [hp47]; exact moN_up mo40 _ (eO_ne (by decide))
  refine g_putF (i := 0) (fs' := [.ref (ad12 1), .ref (ad31 2), .null, .null, .null, .null, .null, .int (iv (0)), .int (iv (0))]) hX hj32 pF_Bs_19 rfl d_Bs_init_23 (by omega) hf49 rfl rfl (Nat.le_of_ble_eq_true rfl) rfl ?_
  obtain ⟨σ54, hs55⟩ : ∃ s9, s9 = va_up σ46 (0) (eO 8 [.ref (ad12 1), .ref (ad31 2), .null, .null, .null, .null, .null, .int (iv (0)), .int (iv (0))]) := ⟨_, rfl⟩
  rw [← hs55]
  have mo56 : moN σ σ54 := by rw [hs55]; exact moN_up mo53 _ (eO_ne (by decide))
  have hf57 : σ54 (1) ≠ fNo := by rw [show σ54 (1) = σ46 (1) by rw [hs55, va_up_ne _ _ (by omega)]]; exact hf48
  have hf58 : σ54 (2) ≠ fNo := by rw [show σ54 (2) = σ46 (2) by rw [hs55, va_up_ne _ _ (by omega)]]; exact (by rw [hf52]; exact eO_ne (by decide))
  have hp59 : ∀ q, ((3 ≤ q ∧ q ≤ 11) ∨ (18 ≤ q ∧ q ≤ 23) ∨ 52 ≤ q) → σ54 q = σ q := fun q hq => (show σ54 q = σ46 q by rw [hs55, va_up_ne _ _ (by omega)]).trans (hp50 q (by omega))
  have hp60 : pTab G ad31 σ54 0 (fun _ _ => 0) (fun _ => 0) (fun _ => 0) (fun _ => 0) (fun _ => 0) (fun _ _ => 0) := hp51.up (fun i hi => show σ54 i = σ46 i by rw [hs55, va_up_ne _ _ (by omega)])
  have hp61 : pLim σ54 3 1 0 := (show σ54 2 = σ46 2 by rw [hs55, va_up_ne _ _ (by omega)]).trans hf52
  have hf62 : σ54 (0) = eO 8 [.ref (ad12 1), .ref (ad31 2), .null, .null, .null, .null, .null, .int (iv (0)), .int (iv (0))] := by rw [hs55, va_up_self]
  refine v_aload_n hX d_Bs_init_26 0 rfl ?_
  refine g_new hX hj32 (g := 3) (by omega) ((hp59 3 (by omega)).trans (hn 3 (by omega) (by omega))) nw_Bs_23 d_Bs_init_27 ⟨by decide, by decide⟩ (fun ad63 hj64 hx65 => ?_)
  have ex66 : exA σ ad ad63 := exA_tr ex34 mo56 hx65
  have e67 : ad63 0 = ad31 0 := hx65 0 (by omega) (by rw [hf62]; exact eO_ne (by decide))
  rw [← e67]
  have t68 : ad63 1 = ad12 1 := (hx65 1 (by omega) hf57).trans t36
  have t69 : ad63 2 = ad31 2 := (hx65 2 (by omega) hf58)
  have hp70 : pTab G ad63 σ54 0 (fun _ _ => 0) (fun _ => 0) (fun _ => 0) (fun _ => 0) (fun _ => 0) (fun _ _ => 0) := pTab_ad hp60 hx65
  obtain ⟨σ71, hs72⟩ : ∃ s9, s9 = va_up σ54 (3) (eO 5 [.null, .null, .null, .null]) := ⟨_, rfl⟩
  rw [← hs72]
  have mo73 : moN σ σ71 := by rw [hs72]; exact moN_up mo56 _ (eO_ne (by decide))
  have hf74 : σ71 (1) ≠ fNo := by rw [show σ71 (1) = σ54 (1) by rw [hs72, va_up_ne _ _ (by omega)]]; exact hf57
  have hf75 : σ71 (2) ≠ fNo := by rw [show σ71 (2) = σ54 (2) by rw [hs72, va_up_ne _ _ (by omega)]]; exact hf58
  have hf76 : σ71 (0) = eO 8 [.ref (ad12 1), .ref (ad31 2), .null, .null, .null, .null, .null, .int (iv (0)), .int (iv (0))] := (show σ71 (0) = σ54 (0) by rw [hs72, va_up_ne _ _ (by omega)]).trans hf62
  have hp77 : ∀ q, ((4 ≤ q ∧ q ≤ 11) ∨ (18 ≤ q ∧ q ≤ 23) ∨ 52 ≤ q) → σ71 q = σ q := fun q hq => (show σ71 q = σ54 q by rw [hs72, va_up_ne _ _ (by omega)]).trans (hp59 q (by omega))
  have hp78 : pTab G ad63 σ71 0 (fun _ _ => 0) (fun _ => 0) (fun _ => 0) (fun _ => 0) (fun _ => 0) (fun _ _ => 0) := hp70.up (fun i hi => show σ71 i = σ54 i by rw [hs72, va_up_ne _ _ (by omega)])
  have hp79 : pLim σ71 3 1 0 := (show σ71 2 = σ54 2 by rw [hs72, va_up_ne _ _ (by omega)]).trans hp61
  have hf80 : σ71 (3) = eO 5 [.null, .null, .null, .null] := by rw [hs72, va_up_self]
  refine v_dup hX d_Bs_init_30 rfl ?_
  refine v_aload_n hX d_Bs_init_31 0 rfl ?_
  refine g_get (i := 0) hX hj64 fl_Bs_12 d_Bs_init_32 (by omega) hf76 rfl ?_
  rw [← t68]
  refine v_aload_n hX d_Bs_init_35 0 rfl ?_
  refine g_get (i := 0) hX hj64 fl_Bs_19 d_Bs_init_36 (by omega) hf76 rfl ?_
  rw [← t69]
  refine g_callN (As := [.ref (ad63 1), .ref (ad63 2)]) (b := ad63 3) (st := [.ref (ad63 3), .ref (ad63 0)]) hX (n_Sur hj64 hf80 hf74 hf75 ((hp77 4 (by omega)).trans (hn 4 (by omega) (by omega))) ((hp77 5 (by omega)).trans (hn 5 (by omega) (by omega))) ((hp77 6 (by omega)).trans (hn 6 (by omega) (by omega))) ((hp77 7 (by omega)).trans (hn 7 (by omega) (by omega)))) cl_Bs_25 d_Bs_init_39 rfl ⟨by decide, by decide⟩ ⟨by decide, by decide⟩ (Nat.le_of_ble_eq_true rfl) (fun ad81 σ82 hj83 hx84 hp85 => ?_)
  obtain ⟨k861, k862, k863, k864, k865, k866⟩ := hp85
  have ex87 : exA σ ad ad81 := exA_tr ex66 mo73 hx84
  have e88 : ad81 0 = ad63 0 := hx84 0 (by omega) (by rw [hf76]; exact eO_ne (by decide))
  rw [← e88]
  have e89 : ad81 3 = ad63 3 := hx84 3 (by omega) (by rw [hf80]; exact eO_ne (by decide))
  rw [← e89]
  have t90 : ad81 1 = ad12 1 := (hx84 1 (by omega) hf74).trans t68
  have t91 : ad81 2 = ad31 2 := (hx84 2 (by omega) hf75).trans t69
  have hp92 : pTab G ad81 σ71 0 (fun _ _ => 0) (fun _ => 0) (fun _ => 0) (fun _ => 0) (fun _ => 0) (fun _ _ => 0) := pTab_ad hp78 hx84
  have hf93 : σ82 (1) ≠ fNo := by rw [show σ82 (1) = σ71 (1) from k866 _ (by omega)]; exact hf74
  have hf94 : σ82 (2) ≠ fNo := by rw [show σ82 (2) = σ71 (2) from k866 _ (by omega)]; exact hf75
  have hf95 : σ82 (0) = eO 8 [.ref (ad12 1), .ref (ad31 2), .null, .null, .null, .null, .null, .int (iv (0)), .int (iv (0))] := (show σ82 (0) = σ71 (0) from k866 _ (by omega)).trans hf76
  have hp96 : ∀ q, ((8 ≤ q ∧ q ≤ 11) ∨ (18 ≤ q ∧ q ≤ 23) ∨ 52 ≤ q) → σ82 q = σ q := fun q hq => (show σ82 q = σ71 q from k866 _ (by omega)).trans (hp77 q (by omega))
  have hp97 : pTab G ad81 σ82 0 (fun _ _ => 0) (fun _ => 0) (fun _ => 0) (fun _ => 0) (fun _ => 0) (fun _ _ => 0) := hp92.up (fun i hi => show σ82 i = σ71 i from k866 _ (by omega))
  have hp98 : pLim σ82 3 1 0 := (show σ82 2 = σ71 2 from k866 _ (by omega)).trans hp79
  have hp99 : sur0 ad81 σ82 := ⟨k861, k862, k863, k864, k865⟩
  have mo100 : moN σ σ82 := moN_of mo73 (fun q => by
    by_cases z : q < 3 ∨ 7 < q
    · exact Or.inr (k866 q (by omega))
    · exact Or.inl (sur0_ne hp99 (by omega)))
  refine g_putF (i := 0) (fs' := [.ref (ad12 1), .ref (ad31 2), .ref (ad81 3), .null, .null, .null, .null, .int (iv (0)), .int (iv (0))]) hX hj83 pF_Bs_28 rfl d_Bs_init_42 (by omega) hf95 rfl rfl (Nat.le_of_ble_eq_true rfl) rfl ?_
  obtain ⟨σ101, hs102⟩ : ∃ s9, s9 = va_up σ82 (0) (eO 8 [.ref (ad12 1), .ref (ad31 2), .ref (ad81 3), .null, .null, .null, .null, .int (iv (0)), .int (iv (0))]) := ⟨_, rfl⟩
  rw [← hs102]
  have mo103 : moN σ σ101 := by rw [hs102]; exact moN_up mo100 _ (eO_ne (by decide))
  have hf104 : σ101 (1) ≠ fNo := by rw [show σ101 (1) = σ82 (1) by rw [hs102, va_up_ne _ _ (by omega)]]; exact hf93
  have hf105 : σ101 (2) ≠ fNo := by rw [show σ101 (2) = σ82 (2) by rw [hs102, va_up_ne _ _ (by omega)]]; exact hf94
  have hf106 : σ101 (3) ≠ fNo := by rw [show σ101 (3) = σ82 (3) by rw [hs102, va_up_ne _ _ (by omega)]]; exact (by rw [hp99.1]; exact eO_ne (by decide))
  have hp107 : ∀ q, ((8 ≤ q ∧ q ≤ 11) ∨ (18 ≤ q ∧ q ≤ 23) ∨ 52 ≤ q) → σ101 q = σ q := fun q hq => (show σ101 q = σ82 q by rw [hs102, va_up_ne _ _ (by omega)]).trans (hp96 q (by omega))
  have hp108 : pTab G ad81 σ101 0 (fun _ _ => 0) (fun _ => 0) (fun _ => 0) (fun _ => 0) (fun _ => 0) (fun _ _ => 0) := hp97.up (fun i hi => show σ101 i = σ82 i by rw [hs102, va_up_ne _ _ (by omega)])
  have hp109 : pLim σ101 3 1 0 := (show σ101 2 = σ82 2 by rw [hs102, va_up_ne _ _ (by omega)]).trans hp98
  have hp110 : sur0 ad81 σ101 := hp99.up (fun i hi => show σ101 i = σ82 i by rw [hs102, va_up_ne _ _ (by omega)])
  have hf111 : σ101 (0) = eO 8 [.ref (ad12 1), .ref (ad31 2), .ref (ad81 3), .null, .null, .null, .null, .int (iv (0)), .int (iv (0))] := by rw [hs102, va_up_self]
  refine v_aload_n hX d_Bs_init_45 0 rfl ?_
  refine g_new hX hj83 (g := 8) (by omega) ((hp107 8 (by omega)).trans (hn 8 (by omega) (by omega))) nw_Bs_32 d_Bs_init_46 ⟨by decide, by decide⟩ (fun ad112 hj113 hx114 => ?_)
  have ex115 : exA σ ad ad112 := exA_tr ex87 mo103 hx114
  have e116 : ad112 0 = ad81 0 := hx114 0 (by omega) (by rw [hf111]; exact eO_ne (by decide))
  rw [← e116]
  have t117 : ad112 1 = ad12 1 := (hx114 1 (by omega) hf104).trans t90
  have t118 : ad112 2 = ad31 2 := (hx114 2 (by omega) hf105).trans t91
  have t119 : ad112 3 = ad81 3 := (hx114 3 (by omega) hf106)
  have hp120 : pTab G ad112 σ101 0 (fun _ _ => 0) (fun _ => 0) (fun _ => 0) (fun _ => 0) (fun _ => 0) (fun _ _ => 0) := pTab_ad hp108 hx114
  have hp121 : sur0 ad112 σ101 := sur0_ad hp110 hx114 hf104 hf105
  obtain ⟨σ122, hs123⟩ : ∃ s9, s9 = va_up σ101 (8) (eO 7 [.int (iv (0)), .null, .null, .null, .null, .null]) := ⟨_, rfl⟩
  rw [← hs123]
  have mo124 : moN σ σ122 := by rw [hs123]; exact moN_up mo103 _ (eO_ne (by decide))
  have hf125 : σ122 (1) ≠ fNo := by rw [show σ122 (1) = σ101 (1) by rw [hs123, va_up_ne _ _ (by omega)]]; exact hf104
  have hf126 : σ122 (2) ≠ fNo := by rw [show σ122 (2) = σ101 (2) by rw [hs123, va_up_ne _ _ (by omega)]]; exact hf105
  have hf127 : σ122 (3) ≠ fNo := by rw [show σ122 (3) = σ101 (3) by rw [hs123, va_up_ne _ _ (by omega)]]; exact hf106
  have hf128 : σ122 (0) = eO 8 [.ref (ad12 1), .ref (ad31 2), .ref (ad81 3), .null, .null, .null, .null, .int (iv (0)), .int (iv (0))] := (show σ122 (0) = σ101 (0) by rw [hs123, va_up_ne _ _ (by omega)]).trans hf111
  have hp129 : ∀ q, ((9 ≤ q ∧ q ≤ 11) ∨ (18 ≤ q ∧ q ≤ 23) ∨ 52 ≤ q) → σ122 q = σ q := fun q hq => (show σ122 q = σ101 q by rw [hs123, va_up_ne _ _ (by omega)]).trans (hp107 q (by omega))
  have hp130 : pTab G ad112 σ122 0 (fun _ _ => 0) (fun _ => 0) (fun _ => 0) (fun _ => 0) (fun _ => 0) (fun _ _ => 0) := hp120.up (fun i hi => show σ122 i = σ101 i by rw [hs123, va_up_ne _ _ (by omega)])
  have hp131 : pLim σ122 3 1 0 := (show σ122 2 = σ101 2 by rw [hs123, va_up_ne _ _ (by omega)]).trans hp109
  have hp132 : sur0 ad112 σ122 := hp121.up (fun i hi => show σ122 i = σ101 i by rw [hs123, va_up_ne _ _ (by omega)])
  have hf133 : σ122 (8) = eO 7 [.int (iv (0)), .null, .null, .null, .null, .null] := by rw [hs123, va_up_self]
  refine v_dup hX d_Bs_init_49 rfl ?_
  refine v_aload_n hX d_Bs_init_50 0 rfl ?_
  refine g_get (i := 0) hX hj113 fl_Bs_12 d_Bs_init_51 (by omega) hf128 rfl ?_
  rw [← t117]
  refine v_aload_n hX d_Bs_init_54 0 rfl ?_
  refine g_get (i := 0) hX hj113 fl_Bs_19 d_Bs_init_55 (by omega) hf128 rfl ?_
  rw [← t118]
  refine v_aload_n hX d_Bs_init_58 0 rfl ?_
  refine g_get (i := 0) hX hj113 fl_Bs_28 d_Bs_init_59 (by omega) hf128 rfl ?_
  rw [← t119]
  refine g_callN (As := [.ref (ad112 1), .ref (ad112 2), .ref (ad112 3)]) (b := ad112 8) (st := [.ref (ad112 8), .ref (ad112 0)]) hX (n_Tre hj113 0 (by decide) hf133 hf125 hf126 hf127 (fun i (hi : i = 18 + 0 ∨ (76 + 141 * 0 ≤ i ∧ i < 217 + 141 * 0)) => (hp129 i (by omega)).trans (hn i (by omega) (by omega)))) cl_Bs_34 d_Bs_init_62 rfl ⟨by decide, by decide⟩ ⟨by decide, by decide⟩ (Nat.le_of_ble_eq_true rfl) (fun ad134 σ135 hj136 hx137 hp138 => ?_)
  obtain ⟨k1391, k1392⟩ := hp138
  have ex140 : exA σ ad ad134 := exA_tr ex115 mo124 hx137
  have e141 : ad134 0 = ad112 0 := hx137 0 (by omega) (by rw [hf128]; exact eO_ne (by decide))
  rw [← e141]
  have e142 : ad134 8 = ad112 8 := hx137 8 (by omega) (by rw [hf133]; exact eO_ne (by decide))
  rw [← e142]
  have t143 : ad134 1 = ad12 1 := (hx137 1 (by omega) hf125).trans t117
  have t144 : ad134 2 = ad31 2 := (hx137 2 (by omega) hf126).trans t118
  have t145 : ad134 3 = ad81 3 := (hx137 3 (by omega) hf127).trans t119
  have hp146 : pTab G ad134 σ122 0 (fun _ _ => 0) (fun _ => 0) (fun _ => 0) (fun _ => 0) (fun _ => 0) (fun _ _ => 0) := pTab_ad hp130 hx137
  have hp147 : sur0 ad134 σ122 := sur0_ad hp132 hx137 hf125 hf126
  have hf148 : σ135 (1) ≠ fNo := by rw [show σ135 (1) = σ122 (1) from k1392 _ (by omega)]; exact hf125
  have hf149 : σ135 (2) ≠ fNo := by rw [show σ135 (2) = σ122 (2) from k1392 _ (by omega)]; exact hf126
  have hf150 : σ135 (3) ≠ fNo := by rw [show σ135 (3) = σ122 (3) from k1392 _ (by omega)]; exact hf127
  have hf151 : σ135 (0) = eO 8 [.ref (ad12 1), .ref (ad31 2), .ref (ad81 3), .null, .null, .null, .null, .int (iv (0)), .int (iv (0))] := (show σ135 (0) = σ122 (0) from k1392 _ (by omega)).trans hf128
  have hp152 : ∀ q, ((9 ≤ q ∧ q ≤ 11) ∨ (19 ≤ q ∧ q ≤ 23) ∨ (52 ≤ q ∧ q ≤ 75) ∨ 217 ≤ q) → σ135 q = σ q := fun q hq => (show σ135 q = σ122 q from k1392 _ (by omega)).trans (hp129 q (by omega))
  have hp153 : pTab G ad134 σ135 0 (fun _ _ => 0) (fun _ => 0) (fun _ => 0) (fun _ => 0) (fun _ => 0) (fun _ _ => 0) := hp146.up (fun i hi => show σ135 i = σ122 i from k1392 _ (by omega))
  have hp154 : pLim σ135 3 1 0 := (show σ135 2 = σ122 2 from k1392 _ (by omega)).trans hp131
  have hp155 : sur0 ad134 σ135 := hp147.up (fun i hi => show σ135 i = σ122 i from k1392 _ (by omega))
  have mo156 : moN σ σ135 := moN_of mo124 (fun q => by
    by_cases z : q ≠ 8 + 0 ∧ q ≠ 18 + 0 ∧ (q < 76 + 141 * 0 ∨ 217 + 141 * 0 ≤ q)
    · exact Or.inr (k1392 q (by omega))
    · exact Or.inl (pTre_ne (by decide) k1391 (by omega)))
  refine g_putF (i := 0) (fs' := [.ref (ad12 1), .ref (ad31 2), .ref (ad81 3), .ref (ad134 8), .null, .null, .null, .int (iv (0)), .int (iv (0))]) hX hj136 pF_Bs_37 rfl d_Bs_init_65 (by omega) hf151 rfl rfl (Nat.le_of_ble_eq_true rfl) rfl ?_
  obtain ⟨σ157, hs158⟩ : ∃ s9, s9 = va_up σ135 (0) (eO 8 [.ref (ad12 1), .ref (ad31 2), .ref (ad81 3), .ref (ad134 8), .null, .null, .null, .int (iv (0)), .int (iv (0))]) := ⟨_, rfl⟩
  rw [← hs158]
  have mo159 : moN σ σ157 := by rw [hs158]; exact moN_up mo156 _ (eO_ne (by decide))
  have hf160 : σ157 (1) ≠ fNo := by rw [show σ157 (1) = σ135 (1) by rw [hs158, va_up_ne _ _ (by omega)]]; exact hf148
  have hf161 : σ157 (2) ≠ fNo := by rw [show σ157 (2) = σ135 (2) by rw [hs158, va_up_ne _ _ (by omega)]]; exact hf149
  have hf162 : σ157 (3) ≠ fNo := by rw [show σ157 (3) = σ135 (3) by rw [hs158, va_up_ne _ _ (by omega)]]; exact hf150
  have hf163 : σ157 (8) ≠ fNo := by rw [show σ157 (8) = σ135 (8) by rw [hs158, va_up_ne _ _ (by omega)]]; exact (by rw [show _ = _ from k1391.1]; exact eO_ne (by decide))
  have hp164 : ∀ q, ((9 ≤ q ∧ q ≤ 11) ∨ (19 ≤ q ∧ q ≤ 23) ∨ (52 ≤ q ∧ q ≤ 75) ∨ 217 ≤ q) → σ157 q = σ q := fun q hq => (show σ157 q = σ135 q by rw [hs158, va_up_ne _ _ (by omega)]).trans (hp152 q (by omega))
  have hp165 : pTab G ad134 σ157 0 (fun _ _ => 0) (fun _ => 0) (fun _ => 0) (fun _ => 0) (fun _ => 0) (fun _ _ => 0) := hp153.up (fun i hi => show σ157 i = σ135 i by rw [hs158, va_up_ne _ _ (by omega)])
  have hp166 : pLim σ157 3 1 0 := (show σ157 2 = σ135 2 by rw [hs158, va_up_ne _ _ (by omega)]).trans hp154
  have hp167 : sur0 ad134 σ157 := hp155.up (fun i hi => show σ157 i = σ135 i by rw [hs158, va_up_ne _ _ (by omega)])
  have hp168 : pTre G ad134 σ157 0 1 tI (fun _ => none) := k1391.up (fun i hi => show σ157 i = σ135 i by rw [hs158, va_up_ne _ _ (by omega)])
  have hf169 : σ157 (0) = eO 8 [.ref (ad12 1), .ref (ad31 2), .ref (ad81 3), .ref (ad134 8), .null, .null, .null, .int (iv (0)), .int (iv (0))] := by rw [hs158, va_up_self]
  refine v_aload_n hX d_Bs_init_68 0 rfl ?_
  refine g_new hX hj136 (g := 9) (by omega) ((hp164 9 (by omega)).trans (hn 9 (by omega) (by omega))) nw_Bs_32 d_Bs_init_69 ⟨by decide, by decide⟩ (fun ad170 hj171 hx172 => ?_)
  have ex173 : exA σ ad ad170 := exA_tr ex140 mo159 hx172
  have e174 : ad170 0 = ad134 0 := hx172 0 (by omega) (by rw [hf169]; exact eO_ne (by decide))
  rw [← e174]
  have t175 : ad170 1 = ad12 1 := (hx172 1 (by omega) hf160).trans t143
  have t176 : ad170 2 = ad31 2 := (hx172 2 (by omega) hf161).trans t144
  have t177 : ad170 3 = ad81 3 := (hx172 3 (by omega) hf162).trans t145
  have t178 : ad170 8 = ad134 8 := (hx172 8 (by omega) hf163)
  have hp179 : pTab G ad170 σ157 0 (fun _ _ => 0) (fun _ => 0) (fun _ => 0) (fun _ => 0) (fun _ => 0) (fun _ _ => 0) := pTab_ad hp165 hx172
  have hp180 : sur0 ad170 σ157 := sur0_ad hp167 hx172 hf160 hf161
  have hp181 : pTre G ad170 σ157 0 1 tI (fun _ => none) := pTre_ad (by decide) hp168 hx172 hf160 hf161 hf162
  obtain ⟨σ182, hs183⟩ : ∃ s9, s9 = va_up σ157 (9) (eO 7 [.int (iv (0)), .null, .null, .null, .null, .null]) := ⟨_, rfl⟩
  rw [← hs183]
  have mo184 : moN σ σ182 := by rw [hs183]; exact moN_up mo159 _ (eO_ne (by decide))
  have hf185 : σ182 (1) ≠ fNo := by rw [show σ182 (1) = σ157 (1) by rw [hs183, va_up_ne _ _ (by omega)]]; exact hf160
  have hf186 : σ182 (2) ≠ fNo := by rw [show σ182 (2) = σ157 (2) by rw [hs183, va_up_ne _ _ (by omega)]]; exact hf161
  have hf187 : σ182 (3) ≠ fNo := by rw [show σ182 (3) = σ157 (3) by rw [hs183, va_up_ne _ _ (by omega)]]; exact hf162
  have hf188 : σ182 (8) ≠ fNo := by rw [show σ182 (8) = σ157 (8) by rw [hs183, va_up_ne _ _ (by omega)]]; exact hf163
  have hf189 : σ182 (0) = eO 8 [.ref (ad12 1), .ref (ad31 2), .ref (ad81 3), .ref (ad134 8), .null, .null, .null, .int (iv (0)), .int (iv (0))] := (show σ182 (0) = σ157 (0) by rw [hs183, va_up_ne _ _ (by omega)]).trans hf169
  have hp190 : ∀ q, ((10 ≤ q ∧ q ≤ 11) ∨ (19 ≤ q ∧ q ≤ 23) ∨ (52 ≤ q ∧ q ≤ 75) ∨ 217 ≤ q) → σ182 q = σ q := fun q hq => (show σ182 q = σ157 q by rw [hs183, va_up_ne _ _ (by omega)]).trans (hp164 q (by omega))
  have hp191 : pTab G ad170 σ182 0 (fun _ _ => 0) (fun _ => 0) (fun _ => 0) (fun _ => 0) (fun _ => 0) (fun _ _ => 0) := hp179.up (fun i hi => show σ182 i = σ157 i by rw [hs183, va_up_ne _ _ (by omega)])
  have hp192 : pLim σ182 3 1 0 := (show σ182 2 = σ157 2 by rw [hs183, va_up_ne _ _ (by omega)]).trans hp166
  have hp193 : sur0 ad170 σ182 := hp180.up (fun i hi => show σ182 i = σ157 i by rw [hs183, va_up_ne _ _ (by omega)])
  have hp194 : pTre G ad170 σ182 0 1 tI (fun _ => none) := hp181.up (fun i hi => show σ182 i = σ157 i by rw [hs183, va_up_ne _ _ (by omega)])
  have hf195 : σ182 (9) = eO 7 [.int (iv (0)), .null, .null, .null, .null, .null] := by rw [hs183, va_up_self]
  refine v_dup hX d_Bs_init_72 rfl ?_
  refine v_aload_n hX d_Bs_init_73 0 rfl ?_
  refine g_get (i := 0) hX hj171 fl_Bs_12 d_Bs_init_74 (by omega) hf189 rfl ?_
  rw [← t175]
  refine v_aload_n hX d_Bs_init_77 0 rfl ?_
  refine g_get (i := 0) hX hj171 fl_Bs_19 d_Bs_init_78 (by omega) hf189 rfl ?_
  rw [← t176]
  refine v_aload_n hX d_Bs_init_81 0 rfl ?_
  refine g_get (i := 0) hX hj171 fl_Bs_28 d_Bs_init_82 (by omega) hf189 rfl ?_
  rw [← t177]
  refine g_callN (As := [.ref (ad170 1), .ref (ad170 2), .ref (ad170 3)]) (b := ad170 9) (st := [.ref (ad170 9), .ref (ad170 0)]) hX (n_Tre hj171 1 (by decide) hf195 hf185 hf186 hf187 (fun i (hi : i = 18 + 1 ∨ (76 + 141 * 1 ≤ i ∧ i < 217 + 141 * 1)) => (hp190 i (by omega)).trans (hn i (by omega) (by omega)))) cl_Bs_34 d_Bs_init_85 rfl ⟨by decide, by decide⟩ ⟨by decide, by decide⟩ (Nat.le_of_ble_eq_true rfl) (fun ad196 σ197 hj198 hx199 hp200 => ?_)
  obtain ⟨k2011, k2012⟩ := hp200
  have ex202 : exA σ ad ad196 := exA_tr ex173 mo184 hx199
  have e203 : ad196 0 = ad170 0 := hx199 0 (by omega) (by rw [hf189]; exact eO_ne (by decide))
  rw [← e203]
  have e204 : ad196 9 = ad170 9 := hx199 9 (by omega) (by rw [hf195]; exact eO_ne (by decide))
  rw [← e204]
  have t205 : ad196 1 = ad12 1 := (hx199 1 (by omega) hf185).trans t175
  have t206 : ad196 2 = ad31 2 := (hx199 2 (by omega) hf186).trans t176
  have t207 : ad196 3 = ad81 3 := (hx199 3 (by omega) hf187).trans t177
  have t208 : ad196 8 = ad134 8 := (hx199 8 (by omega) hf188).trans t178
  have hp209 : pTab G ad196 σ182 0 (fun _ _ => 0) (fun _ => 0) (fun _ => 0) (fun _ => 0) (fun _ => 0) (fun _ _ => 0) := pTab_ad hp191 hx199
  have hp210 : sur0 ad196 σ182 := sur0_ad hp193 hx199 hf185 hf186
  have hp211 : pTre G ad196 σ182 0 1 tI (fun _ => none) := pTre_ad (by decide) hp194 hx199 hf185 hf186 hf187
  have hf212 : σ197 (1) ≠ fNo := by rw [show σ197 (1) = σ182 (1) from k2012 _ (by omega)]; exact hf185
  have hf213 : σ197 (2) ≠ fNo := by rw [show σ197 (2) = σ182 (2) from k2012 _ (by omega)]; exact hf186
  have hf214 : σ197 (3) ≠ fNo := by rw [show σ197 (3) = σ182 (3) from k2012 _ (by omega)]; exact hf187
  have hf215 : σ197 (8) ≠ fNo := by rw [show σ197 (8) = σ182 (8) from k2012 _ (by omega)]; exact hf188
  have hf216 : σ197 (0) = eO 8 [.ref (ad12 1), .ref (ad31 2), .ref (ad81 3), .ref (ad134 8), .null, .null, .null, .int (iv (0)), .int (iv (0))] := (show σ197 (0) = σ182 (0) from k2012 _ (by omega)).trans hf189
  have hp217 : ∀ q, ((10 ≤ q ∧ q ≤ 11) ∨ (20 ≤ q ∧ q ≤ 23) ∨ (52 ≤ q ∧ q ≤ 75) ∨ 358 ≤ q) → σ197 q = σ q := fun q hq => (show σ197 q = σ182 q from k2012 _ (by omega)).trans (hp190 q (by omega))
  have hp218 : pTab G ad196 σ197 0 (fun _ _ => 0) (fun _ => 0) (fun _ => 0) (fun _ => 0) (fun _ => 0) (fun _ _ => 0) := hp209.up (fun i hi => show σ197 i = σ182 i from k2012 _ (by omega))
  have hp219 : pLim σ197 3 1 0 := (show σ197 2 = σ182 2 from k2012 _ (by omega)).trans hp192
  have hp220 : sur0 ad196 σ197 := hp210.up (fun i hi => show σ197 i = σ182 i from k2012 _ (by omega))
  have hp221 : pTre G ad196 σ197 0 1 tI (fun _ => none) := hp211.up (fun i hi => show σ197 i = σ182 i from k2012 _ (by omega))
  have mo222 : moN σ σ197 := moN_of mo184 (fun q => by
    by_cases z : q ≠ 8 + 1 ∧ q ≠ 18 + 1 ∧ (q < 76 + 141 * 1 ∨ 217 + 141 * 1 ≤ q)
    · exact Or.inr (k2012 q (by omega))
    · exact Or.inl (pTre_ne (by decide) k2011 (by omega)))
  refine g_putF (i := 0) (fs' := [.ref (ad12 1), .ref (ad31 2), .ref (ad81 3), .ref (ad134 8), .ref (ad196 9), .null, .null, .int (iv (0)), .int (iv (0))]) hX hj198 pF_Bs_41 rfl d_Bs_init_88 (by omega) hf216 rfl rfl (Nat.le_of_ble_eq_true rfl) rfl ?_
  obtain ⟨σ223, hs224⟩ : ∃ s9, s9 = va_up σ197 (0) (eO 8 [.ref (ad12 1), .ref (ad31 2), .ref (ad81 3), .ref (ad134 8), .ref (ad196 9), .null, .null, .int (iv (0)), .int (iv (0))]) := ⟨_, rfl⟩
  rw [← hs224]
  have mo225 : moN σ σ223 := by rw [hs224]; exact moN_up mo222 _ (eO_ne (by decide))
  have hf226 : σ223 (1) ≠ fNo := by rw [show σ223 (1) = σ197 (1) by rw [hs224, va_up_ne _ _ (by omega)]]; exact hf212
  have hf227 : σ223 (2) ≠ fNo := by rw [show σ223 (2) = σ197 (2) by rw [hs224, va_up_ne _ _ (by omega)]]; exact hf213
  have hf228 : σ223 (3) ≠ fNo := by rw [show σ223 (3) = σ197 (3) by rw [hs224, va_up_ne _ _ (by omega)]]; exact hf214
  have hf229 : σ223 (8) ≠ fNo := by rw [show σ223 (8) = σ197 (8) by rw [hs224, va_up_ne _ _ (by omega)]]; exact hf215
  have hf230 : σ223 (9) ≠ fNo := by rw [show σ223 (9) = σ197 (9) by rw [hs224, va_up_ne _ _ (by omega)]]; exact (by rw [show _ = _ from k2011.1]; exact eO_ne (by decide))
  have hp231 : ∀ q, ((10 ≤ q ∧ q ≤ 11) ∨ (20 ≤ q ∧ q ≤ 23) ∨ (52 ≤ q ∧ q ≤ 75) ∨ 358 ≤ q) → σ223 q = σ q := fun q hq => (show σ223 q = σ197 q by rw [hs224, va_up_ne _ _ (by omega)]).trans (hp217 q (by omega))
  have hp232 : pTab G ad196 σ223 0 (fun _ _ => 0) (fun _ => 0) (fun _ => 0) (fun _ => 0) (fun _ => 0) (fun _ _ => 0) := hp218.up (fun i hi => show σ223 i = σ197 i by rw [hs224, va_up_ne _ _ (by omega)])
  have hp233 : pLim σ223 3 1 0 := (show σ223 2 = σ197 2 by rw [hs224, va_up_ne _ _ (by omega)]).trans hp219
  have hp234 : sur0 ad196 σ223 := hp220.up (fun i hi => show σ223 i = σ197 i by rw [hs224, va_up_ne _ _ (by omega)])
  have hp235 : pTre G ad196 σ223 0 1 tI (fun _ => none) := hp221.up (fun i hi => show σ223 i = σ197 i by rw [hs224, va_up_ne _ _ (by omega)])
  have hp236 : pTre G ad196 σ223 1 1 tI (fun _ => none) := k2011.up (fun i hi => show σ223 i = σ197 i by rw [hs224, va_up_ne _ _ (by omega)])
  have hf237 : σ223 (0) = eO 8 [.ref (ad12 1), .ref (ad31 2), .ref (ad81 3), .ref (ad134 8), .ref (ad196 9), .null, .null, .int (iv (0)), .int (iv (0))] := by rw [hs224, va_up_self]
  refine v_aload_n hX d_Bs_init_91 0 rfl ?_
  refine g_new hX hj198 (g := 10) (by omega) ((hp231 10 (by omega)).trans (hn 10 (by omega) (by omega))) nw_Bs_44 d_Bs_init_92 ⟨by decide, by decide⟩ (fun ad238 hj239 hx240 => ?_)
  have ex241 : exA σ ad ad238 := exA_tr ex202 mo225 hx240
  have e242 : ad238 0 = ad196 0 := hx240 0 (by omega) (by rw [hf237]; exact eO_ne (by decide))
  rw [← e242]
  have t243 : ad238 1 = ad12 1 := (hx240 1 (by omega) hf226).trans t205
  have t244 : ad238 2 = ad31 2 := (hx240 2 (by omega) hf227).trans t206
  have t245 : ad238 3 = ad81 3 := (hx240 3 (by omega) hf228).trans t207
  have t246 : ad238 8 = ad134 8 := (hx240 8 (by omega) hf229).trans t208
  have t247 : ad238 9 = ad196 9 := (hx240 9 (by omega) hf230)
  have hp248 : pTab G ad238 σ223 0 (fun _ _ => 0) (fun _ => 0) (fun _ => 0) (fun _ => 0) (fun _ => 0) (fun _ _ => 0) := pTab_ad hp232 hx240
  have hp249 : sur0 ad238 σ223 := sur0_ad hp234 hx240 hf226 hf227
  have hp250 : pTre G ad238 σ223 0 1 tI (fun _ => none) := pTre_ad (by decide) hp235 hx240 hf226 hf227 hf228
  have hp251 : pTre G ad238 σ223 1 1 tI (fun _ => none) := pTre_ad (by decide) hp236 hx240 hf226 hf227 hf228
  obtain ⟨σ252, hs253⟩ : ∃ s9, s9 = va_up σ223 (10) (eO 4 [.int (iv (0)), .null, .null, .null, .null, .null]) := ⟨_, rfl⟩
  rw [← hs253]
  have mo254 : moN σ σ252 := by rw [hs253]; exact moN_up mo225 _ (eO_ne (by decide))
  have hf255 : σ252 (1) ≠ fNo := by rw [show σ252 (1) = σ223 (1) by rw [hs253, va_up_ne _ _ (by omega)]]; exact hf226
  have hf256 : σ252 (2) ≠ fNo := by rw [show σ252 (2) = σ223 (2) by rw [hs253, va_up_ne _ _ (by omega)]]; exact hf227
  have hf257 : σ252 (3) ≠ fNo := by rw [show σ252 (3) = σ223 (3) by rw [hs253, va_up_ne _ _ (by omega)]]; exact hf228
  have hf258 : σ252 (8) ≠ fNo := by rw [show σ252 (8) = σ223 (8) by rw [hs253, va_up_ne _ _ (by omega)]]; exact hf229
  have hf259 : σ252 (9) ≠ fNo := by rw [show σ252 (9) = σ223 (9) by rw [hs253, va_up_ne _ _ (by omega)]]; exact hf230
  have hf260 : σ252 (0) = eO 8 [.ref (ad12 1), .ref (ad31 2), .ref (ad81 3), .ref (ad134 8), .ref (ad196 9), .null, .null, .int (iv (0)), .int (iv (0))] := (show σ252 (0) = σ223 (0) by rw [hs253, va_up_ne _ _ (by omega)]).trans hf237
  have hp261 : ∀ q, (q = 11 ∨ (20 ≤ q ∧ q ≤ 23) ∨ (52 ≤ q ∧ q ≤ 75) ∨ 358 ≤ q) → σ252 q = σ q := fun q hq => (show σ252 q = σ223 q by rw [hs253, va_up_ne _ _ (by omega)]).trans (hp231 q (by omega))
  have hp262 : pTab G ad238 σ252 0 (fun _ _ => 0) (fun _ => 0) (fun _ => 0) (fun _ => 0) (fun _ => 0) (fun _ _ => 0) := hp248.up (fun i hi => show σ252 i = σ223 i by rw [hs253, va_up_ne _ _ (by omega)])
  have hp263 : pLim σ252 3 1 0 := (show σ252 2 = σ223 2 by rw [hs253, va_up_ne _ _ (by omega)]).trans hp233
  have hp264 : sur0 ad238 σ252 := hp249.up (fun i hi => show σ252 i = σ223 i by rw [hs253, va_up_ne _ _ (by omega)])
  have hp265 : pTre G ad238 σ252 0 1 tI (fun _ => none) := hp250.up (fun i hi => show σ252 i = σ223 i by rw [hs253, va_up_ne _ _ (by omega)])
  have hp266 : pTre G ad238 σ252 1 1 tI (fun _ => none) := hp251.up (fun i hi => show σ252 i = σ223 i by rw [hs253, va_up_ne _ _ (by omega)])
  have hf267 : σ252 (10) = eO 4 [.int (iv (0)), .null, .null, .null, .null, .null] := by rw [hs253, va_up_self]
  refine v_dup hX d_Bs_init_95 rfl ?_
  refine v_aload_n hX d_Bs_init_96 0 rfl ?_
  refine g_get (i := 0) hX hj239 fl_Bs_37 d_Bs_init_97 (by omega) hf260 rfl ?_
  rw [← t246]
  refine g_callN (As := [.ref (ad238 8)]) (b := ad238 10) (st := [.ref (ad238 10), .ref (ad238 0)]) hX (n_Pru hj239 hf267 hf258 (fun i (hi : (20 ≤ i ∧ i ≤ 23) ∨ (52 ≤ i ∧ i ≤ 75)) => (hp261 i (by omega)).trans (hn i (by omega) (by omega)))) cl_Bs_46 d_Bs_init_100 rfl ⟨by decide, by decide⟩ ⟨by decide, by decide⟩ (Nat.le_of_ble_eq_true rfl) (fun ad268 σ269 hj270 hx271 hp272 => ?_)
  obtain ⟨k2731, k2732⟩ := hp272
  have ex274 : exA σ ad ad268 := exA_tr ex241 mo254 hx271
  have e275 : ad268 0 = ad238 0 := hx271 0 (by omega) (by rw [hf260]; exact eO_ne (by decide))
  rw [← e275]
  have e276 : ad268 10 = ad238 10 := hx271 10 (by omega) (by rw [hf267]; exact eO_ne (by decide))
  rw [← e276]
  have t277 : ad268 1 = ad12 1 := (hx271 1 (by omega) hf255).trans t243
  have t278 : ad268 2 = ad31 2 := (hx271 2 (by omega) hf256).trans t244
  have t279 : ad268 3 = ad81 3 := (hx271 3 (by omega) hf257).trans t245
  have t280 : ad268 8 = ad134 8 := (hx271 8 (by omega) hf258).trans t246
  have t281 : ad268 9 = ad196 9 := (hx271 9 (by omega) hf259).trans t247
  have hp282 : pTab G ad268 σ252 0 (fun _ _ => 0) (fun _ => 0) (fun _ => 0) (fun _ => 0) (fun _ => 0) (fun _ _ => 0) := pTab_ad hp262 hx271
  have hp283 : sur0 ad268 σ252 := sur0_ad hp264 hx271 hf255 hf256
  have hp284 : pTre G ad268 σ252 0 1 tI (fun _ => none) := pTre_ad (by decide) hp265 hx271 hf255 hf256 hf257
  have hp285 : pTre G ad268 σ252 1 1 tI (fun _ => none) := pTre_ad (by decide) hp266 hx271 hf255 hf256 hf257
  have hf286 : σ269 (1) ≠ fNo := by rw [show σ269 (1) = σ252 (1) from k2732 _ (by omega)]; exact hf255
  have hf287 : σ269 (2) ≠ fNo := by rw [show σ269 (2) = σ252 (2) from k2732 _ (by omega)]; exact hf256
  have hf288 : σ269 (3) ≠ fNo := by rw [show σ269 (3) = σ252 (3) from k2732 _ (by omega)]; exact hf257
  have hf289 : σ269 (8) ≠ fNo := by rw [show σ269 (8) = σ252 (8) from k2732 _ (by omega)]; exact hf258
  have hf290 : σ269 (9) ≠ fNo := by rw [show σ269 (9) = σ252 (9) from k2732 _ (by omega)]; exact hf259
  have hf291 : σ269 (0) = eO 8 [.ref (ad12 1), .ref (ad31 2), .ref (ad81 3), .ref (ad134 8), .ref (ad196 9), .null, .null, .int (iv (0)), .int (iv (0))] := (show σ269 (0) = σ252 (0) from k2732 _ (by omega)).trans hf260
  have hp292 : ∀ q, (q = 11 ∨ 358 ≤ q) → σ269 q = σ q := fun q hq => (show σ269 q = σ252 q from k2732 _ (by omega)).trans (hp261 q (by omega))
  have hp293 : pTab G ad268 σ269 0 (fun _ _ => 0) (fun _ => 0) (fun _ => 0) (fun _ => 0) (fun _ => 0) (fun _ _ => 0) := hp282.up (fun i hi => show σ269 i = σ252 i from k2732 _ (by omega))
  have hp294 : pLim σ269 3 1 0 := (show σ269 2 = σ252 2 from k2732 _ (by omega)).trans hp263
  have hp295 : sur0 ad268 σ269 := hp283.up (fun i hi => show σ269 i = σ252 i from k2732 _ (by omega))
  have hp296 : pTre G ad268 σ269 0 1 tI (fun _ => none) := hp284.up (fun i hi => show σ269 i = σ252 i from k2732 _ (by omega))
  have hp297 : pTre G ad268 σ269 1 1 tI (fun _ => none) := hp285.up (fun i hi => show σ269 i = σ252 i from k2732 _ (by omega))
  have mo298 : moN σ σ269 := moN_of mo254 (fun q => by
    by_cases z : q ≠ 10 ∧ (q < 20 ∨ 23 < q) ∧ (q < 52 ∨ 75 < q)
    · exact Or.inr (k2732 q (by omega))
    · exact Or.inl (pPru_ne k2731 (by omega)))
  refine g_putF (i := 0) (fs' := [.ref (ad12 1), .ref (ad31 2), .ref (ad81 3), .ref (ad134 8), .ref (ad196 9), .ref (ad268 10), .null, .int (iv (0)), .int (iv (0))]) hX hj270 pF_Bs_49 rfl d_Bs_init_103 (by omega) hf291 rfl rfl (Nat.le_of_ble_eq_true rfl) rfl ?_
  obtain ⟨σ299, hs300⟩ : ∃ s9, s9 = va_up σ269 (0) (eO 8 [.ref (ad12 1), .ref (ad31 2), .ref (ad81 3), .ref (ad134 8), .ref (ad196 9), .ref (ad268 10), .null, .int (iv (0)), .int (iv (0))]) := ⟨_, rfl⟩
  rw [← hs300]
  have mo301 : moN σ σ299 := by rw [hs300]; exact moN_up mo298 _ (eO_ne (by decide))
  have hf302 : σ299 (1) ≠ fNo := by rw [show σ299 (1) = σ269 (1) by rw [hs300, va_up_ne _ _ (by omega)]]; exact hf286
  have hf303 : σ299 (2) ≠ fNo := by rw [show σ299 (2) = σ269 (2) by rw [hs300, va_up_ne _ _ (by omega)]]; exact hf287
  have hf304 : σ299 (3) ≠ fNo := by rw [show σ299 (3) = σ269 (3) by rw [hs300, va_up_ne _ _ (by omega)]]; exact hf288
  have hf305 : σ299 (8) ≠ fNo := by rw [show σ299 (8) = σ269 (8) by rw [hs300, va_up_ne _ _ (by omega)]]; exact hf289
  have hf306 : σ299 (9) ≠ fNo := by rw [show σ299 (9) = σ269 (9) by rw [hs300, va_up_ne _ _ (by omega)]]; exact hf290
  have hf307 : σ299 (10) ≠ fNo := by rw [show σ299 (10) = σ269 (10) by rw [hs300, va_up_ne _ _ (by omega)]]; exact (by rw [k2731.1]; exact eO_ne (by decide))
  have hp308 : ∀ q, (q = 11 ∨ 358 ≤ q) → σ299 q = σ q := fun q hq => (show σ299 q = σ269 q by rw [hs300, va_up_ne _ _ (by omega)]).trans (hp292 q (by omega))
  have hp309 : pTab G ad268 σ299 0 (fun _ _ => 0) (fun _ => 0) (fun _ => 0) (fun _ => 0) (fun _ => 0) (fun _ _ => 0) := hp293.up (fun i hi => show σ299 i = σ269 i by rw [hs300, va_up_ne _ _ (by omega)])
  have hp310 : pLim σ299 3 1 0 := (show σ299 2 = σ269 2 by rw [hs300, va_up_ne _ _ (by omega)]).trans hp294
  have hp311 : sur0 ad268 σ299 := hp295.up (fun i hi => show σ299 i = σ269 i by rw [hs300, va_up_ne _ _ (by omega)])
  have hp312 : pTre G ad268 σ299 0 1 tI (fun _ => none) := hp296.up (fun i hi => show σ299 i = σ269 i by rw [hs300, va_up_ne _ _ (by omega)])
  have hp313 : pTre G ad268 σ299 1 1 tI (fun _ => none) := hp297.up (fun i hi => show σ299 i = σ269 i by rw [hs300, va_up_ne _ _ (by omega)])
  have hp314 : pPru G ad268 σ299 0 (fun _ => 0) (fun _ => 0) (fun _ => 0) (fun _ => 1) := k2731.up (fun i hi => show σ299 i = σ269 i by rw [hs300, va_up_ne _ _ (by omega)])
  have hf315 : σ299 (0) = eO 8 [.ref (ad12 1), .ref (ad31 2), .ref (ad81 3), .ref (ad134 8), .ref (ad196 9), .ref (ad268 10), .null, .int (iv (0)), .int (iv (0))] := by rw [hs300, va_up_self]
  refine v_aload_n hX d_Bs_init_106 0 rfl ?_
  refine v_iconst hX (4) d_Bs_init_107 ?_
  refine g_newJ hX hj270 (g := 11) (by omega) ((hp308 11 (by omega)).trans (hn 11 (by omega) (by omega))) 4 (mT 97 (by decide +kernel) rfl) d_Bs_init_108 rfl (by decide) ⟨by decide, by decide⟩ (fun ad316 hj317 hx318 => ?_)
  have ex319 : exA σ ad ad316 := exA_tr ex274 mo301 hx318
  have e320 : ad316 0 = ad268 0 := hx318 0 (by omega) (by rw [hf315]; exact eO_ne (by decide))
  rw [← e320]
  have t321 : ad316 1 = ad12 1 := (hx318 1 (by omega) hf302).trans t277
  have t322 : ad316 2 = ad31 2 := (hx318 2 (by omega) hf303).trans t278
  have t323 : ad316 3 = ad81 3 := (hx318 3 (by omega) hf304).trans t279
  have t324 : ad316 8 = ad134 8 := (hx318 8 (by omega) hf305).trans t280
  have t325 : ad316 9 = ad196 9 := (hx318 9 (by omega) hf306).trans t281
  have t326 : ad316 10 = ad268 10 := (hx318 10 (by omega) hf307)
  have hp327 : pTab G ad316 σ299 0 (fun _ _ => 0) (fun _ => 0) (fun _ => 0) (fun _ => 0) (fun _ => 0) (fun _ _ => 0) := pTab_ad hp309 hx318
  have hp328 : sur0 ad316 σ299 := sur0_ad hp311 hx318 hf302 hf303
  have hp329 : pTre G ad316 σ299 0 1 tI (fun _ => none) := pTre_ad (by decide) hp312 hx318 hf302 hf303 hf304
  have hp330 : pTre G ad316 σ299 1 1 tI (fun _ => none) := pTre_ad (by decide) hp313 hx318 hf302 hf303 hf304
  have hp331 : pPru G ad316 σ299 0 (fun _ => 0) (fun _ => 0) (fun _ => 0) (fun _ => 1) := pPru_ad hp314 hx318 hf305
  obtain ⟨σ332, hs333⟩ : ∃ s9, s9 = va_up σ299 (11) (eJ G 4 (fun _ => 0)) := ⟨_, rfl⟩
  rw [← hs333]
  have mo334 : moN σ σ332 := by rw [hs333]; exact moN_up mo301 _ eJ_ne
  have hf335 : σ332 (1) ≠ fNo := by rw [show σ332 (1) = σ299 (1) by rw [hs333, va_up_ne _ _ (by omega)]]; exact hf302
  have hf336 : σ332 (2) ≠ fNo := by rw [show σ332 (2) = σ299 (2) by rw [hs333, va_up_ne _ _ (by omega)]]; exact hf303
  have hf337 : σ332 (3) ≠ fNo := by rw [show σ332 (3) = σ299 (3) by rw [hs333, va_up_ne _ _ (by omega)]]; exact hf304
  have hf338 : σ332 (8) ≠ fNo := by rw [show σ332 (8) = σ299 (8) by rw [hs333, va_up_ne _ _ (by omega)]]; exact hf305
  have hf339 : σ332 (9) ≠ fNo := by rw [show σ332 (9) = σ299 (9) by rw [hs333, va_up_ne _ _ (by omega)]]; exact hf306
  have hf340 : σ332 (10) ≠ fNo := by rw [show σ332 (10) = σ299 (10) by rw [hs333, va_up_ne _ _ (by omega)]]; exact hf307
  have hf341 : σ332 (0) = eO 8 [.ref (ad12 1), .ref (ad31 2), .ref (ad81 3), .ref (ad134 8), .ref (ad196 9), .ref (ad268 10), .null, .int (iv (0)), .int (iv (0))] := (show σ332 (0) = σ299 (0) by rw [hs333, va_up_ne _ _ (by omega)]).trans hf315
  have hp342 : ∀ q, (358 ≤ q) → σ332 q = σ q := fun q hq => (show σ332 q = σ299 q by rw [hs333, va_up_ne _ _ (by omega)]).trans (hp308 q (by omega))
  have hp343 : pTab G ad316 σ332 0 (fun _ _ => 0) (fun _ => 0) (fun _ => 0) (fun _ => 0) (fun _ => 0) (fun _ _ => 0) := hp327.up (fun i hi => show σ332 i = σ299 i by rw [hs333, va_up_ne _ _ (by omega)])
  have hp344 : pLim σ332 3 1 0 := (show σ332 2 = σ299 2 by rw [hs333, va_up_ne _ _ (by omega)]).trans hp310
  have hp345 : sur0 ad316 σ332 := hp328.up (fun i hi => show σ332 i = σ299 i by rw [hs333, va_up_ne _ _ (by omega)])
  have hp346 : pTre G ad316 σ332 0 1 tI (fun _ => none) := hp329.up (fun i hi => show σ332 i = σ299 i by rw [hs333, va_up_ne _ _ (by omega)])
  have hp347 : pTre G ad316 σ332 1 1 tI (fun _ => none) := hp330.up (fun i hi => show σ332 i = σ299 i by rw [hs333, va_up_ne _ _ (by omega)])
  have hp348 : pPru G ad316 σ332 0 (fun _ => 0) (fun _ => 0) (fun _ => 0) (fun _ => 1) := hp331.up (fun i hi => show σ332 i = σ299 i by rw [hs333, va_up_ne _ _ (by omega)])
  have hf349 : σ332 (11) = eJ G 4 (fun _ => 0) := by rw [hs333, va_up_self]
  refine g_putF (i := 0) (fs' := [.ref (ad12 1), .ref (ad31 2), .ref (ad81 3), .ref (ad134 8), .ref (ad196 9), .ref (ad268 10), .ref (ad316 11), .int (iv (0)), .int (iv (0))]) hX hj317 pF_Bs_53 rfl d_Bs_init_110 (by omega) hf341 rfl rfl (Nat.le_of_ble_eq_true rfl) rfl ?_
  obtain ⟨σ350, hs351⟩ : ∃ s9, s9 = va_up σ332 (0) (eO 8 [.ref (ad12 1), .ref (ad31 2), .ref (ad81 3), .ref (ad134 8), .ref (ad196 9), .ref (ad268 10), .ref (ad316 11), .int (iv (0)), .int (iv (0))]) := ⟨_, rfl⟩
  rw [← hs351]
  have mo352 : moN σ σ350 := by rw [hs351]; exact moN_up mo334 _ (eO_ne (by decide))
  have hf353 : σ350 (1) ≠ fNo := by rw [show σ350 (1) = σ332 (1) by rw [hs351, va_up_ne _ _ (by omega)]]; exact hf335
  have hf354 : σ350 (2) ≠ fNo := by rw [show σ350 (2) = σ332 (2) by rw [hs351, va_up_ne _ _ (by omega)]]; exact hf336
  have hf355 : σ350 (3) ≠ fNo := by rw [show σ350 (3) = σ332 (3) by rw [hs351, va_up_ne _ _ (by omega)]]; exact hf337
  have hf356 : σ350 (8) ≠ fNo := by rw [show σ350 (8) = σ332 (8) by rw [hs351, va_up_ne _ _ (by omega)]]; exact hf338
  have hf357 : σ350 (9) ≠ fNo := by rw [show σ350 (9) = σ332 (9) by rw [hs351, va_up_ne _ _ (by omega)]]; exact hf339
  have hf358 : σ350 (10) ≠ fNo := by rw [show σ350 (10) = σ332 (10) by rw [hs351, va_up_ne _ _ (by omega)]]; exact hf340
  have hf359 : σ350 (11) = eJ G 4 (fun _ => 0) := (show σ350 (11) = σ332 (11) by rw [hs351, va_up_ne _ _ (by omega)]).trans hf349
  have hp360 : ∀ q, (358 ≤ q) → σ350 q = σ q := fun q hq => (show σ350 q = σ332 q by rw [hs351, va_up_ne _ _ (by omega)]).trans (hp342 q (by omega))
  have hp361 : pTab G ad316 σ350 0 (fun _ _ => 0) (fun _ => 0) (fun _ => 0) (fun _ => 0) (fun _ => 0) (fun _ _ => 0) := hp343.up (fun i hi => show σ350 i = σ332 i by rw [hs351, va_up_ne _ _ (by omega)])
  have hp362 : pLim σ350 3 1 0 := (show σ350 2 = σ332 2 by rw [hs351, va_up_ne _ _ (by omega)]).trans hp344
  have hp363 : sur0 ad316 σ350 := hp345.up (fun i hi => show σ350 i = σ332 i by rw [hs351, va_up_ne _ _ (by omega)])
  have hp364 : pTre G ad316 σ350 0 1 tI (fun _ => none) := hp346.up (fun i hi => show σ350 i = σ332 i by rw [hs351, va_up_ne _ _ (by omega)])
  have hp365 : pTre G ad316 σ350 1 1 tI (fun _ => none) := hp347.up (fun i hi => show σ350 i = σ332 i by rw [hs351, va_up_ne _ _ (by omega)])
  have hp366 : pPru G ad316 σ350 0 (fun _ => 0) (fun _ => 0) (fun _ => 0) (fun _ => 1) := hp348.up (fun i hi => show σ350 i = σ332 i by rw [hs351, va_up_ne _ _ (by omega)])
  have hf367 : σ350 (0) = eO 8 [.ref (ad12 1), .ref (ad31 2), .ref (ad81 3), .ref (ad134 8), .ref (ad196 9), .ref (ad268 10), .ref (ad316 11), .int (iv (0)), .int (iv (0))] := by rw [hs351, va_up_self]
  refine v_aload_n hX d_Bs_init_113 0 rfl ?_
  refine v_iconst hX (1) d_Bs_init_114 ?_
  refine g_put (i := 0) (fs' := [.ref (ad12 1), .ref (ad31 2), .ref (ad81 3), .ref (ad134 8), .ref (ad196 9), .ref (ad268 10), .ref (ad316 11), .int (iv (1)), .int (iv (0))]) hX hj317 pf_Bs_57 d_Bs_init_115 (by omega) hf367 rfl rfl (Nat.le_of_ble_eq_true rfl) rfl ?_
  obtain ⟨σ368, hs369⟩ : ∃ s9, s9 = va_up σ350 (0) (eO 8 [.ref (ad12 1), .ref (ad31 2), .ref (ad81 3), .ref (ad134 8), .ref (ad196 9), .ref (ad268 10), .ref (ad316 11), .int (iv (1)), .int (iv (0))]) := ⟨_, rfl⟩
  rw [← hs369]
  have mo370 : moN σ σ368 := by rw [hs369]; exact moN_up mo352 _ (eO_ne (by decide))
  have hf371 : σ368 (1) ≠ fNo := by rw [show σ368 (1) = σ350 (1) by rw [hs369, va_up_ne _ _ (by omega)]]; exact hf353
  have hf372 : σ368 (2) ≠ fNo := by rw [show σ368 (2) = σ350 (2) by rw [hs369, va_up_ne _ _ (by omega)]]; exact hf354
  have hf373 : σ368 (3) ≠ fNo := by rw [show σ368 (3) = σ350 (3) by rw [hs369, va_up_ne _ _ (by omega)]]; exact hf355
  have hf374 : σ368 (8) ≠ fNo := by rw [show σ368 (8) = σ350 (8) by rw [hs369, va_up_ne _ _ (by omega)]]; exact hf356
  have hf375 : σ368 (9) ≠ fNo := by rw [show σ368 (9) = σ350 (9) by rw [hs369, va_up_ne _ _ (by omega)]]; exact hf357
  have hf376 : σ368 (10) ≠ fNo := by rw [show σ368 (10) = σ350 (10) by rw [hs369, va_up_ne _ _ (by omega)]]; exact hf358
  have hf377 : σ368 (11) = eJ G 4 (fun _ => 0) := (show σ368 (11) = σ350 (11) by rw [hs369, va_up_ne _ _ (by omega)]).trans hf359
  have hp378 : ∀ q, (358 ≤ q) → σ368 q = σ q := fun q hq => (show σ368 q = σ350 q by rw [hs369, va_up_ne _ _ (by omega)]).trans (hp360 q (by omega))
  have hp379 : pTab G ad316 σ368 0 (fun _ _ => 0) (fun _ => 0) (fun _ => 0) (fun _ => 0) (fun _ => 0) (fun _ _ => 0) := hp361.up (fun i hi => show σ368 i = σ350 i by rw [hs369, va_up_ne _ _ (by omega)])
  have hp380 : pLim σ368 3 1 0 := (show σ368 2 = σ350 2 by rw [hs369, va_up_ne _ _ (by omega)]).trans hp362
  have hp381 : sur0 ad316 σ368 := hp363.up (fun i hi => show σ368 i = σ350 i by rw [hs369, va_up_ne _ _ (by omega)])
  have hp382 : pTre G ad316 σ368 0 1 tI (fun _ => none) := hp364.up (fun i hi => show σ368 i = σ350 i by rw [hs369, va_up_ne _ _ (by omega)])
  have hp383 : pTre G ad316 σ368 1 1 tI (fun _ => none) := hp365.up (fun i hi => show σ368 i = σ350 i by rw [hs369, va_up_ne _ _ (by omega)])
  have hp384 : pPru G ad316 σ368 0 (fun _ => 0) (fun _ => 0) (fun _ => 0) (fun _ => 1) := hp366.up (fun i hi => show σ368 i = σ350 i by rw [hs369, va_up_ne _ _ (by omega)])
  have hf385 : σ368 (0) = eO 8 [.ref (ad12 1), .ref (ad31 2), .ref (ad81 3), .ref (ad134 8), .ref (ad196 9), .ref (ad268 10), .ref (ad316 11), .int (iv (1)), .int (iv (0))] := by rw [hs369, va_up_self]
  refine v_aload_n hX d_Bs_init_118 0 rfl ?_
  refine v_iconst hX (-1) d_Bs_init_119 ?_
  refine g_put (i := 0) (fs' := [.ref (ad12 1), .ref (ad31 2), .ref (ad81 3), .ref (ad134 8), .ref (ad196 9), .ref (ad268 10), .ref (ad316 11), .int (iv (1)), .int (iv ((-1)))]) hX hj317 pf_Bs_61 d_Bs_init_120 (by omega) hf385 rfl rfl (Nat.le_of_ble_eq_true rfl) rfl ?_
  obtain ⟨σ386, hs387⟩ : ∃ s9, s9 = va_up σ368 (0) (eO 8 [.ref (ad12 1), .ref (ad31 2), .ref (ad81 3), .ref (ad134 8), .ref (ad196 9), .ref (ad268 10), .ref (ad316 11), .int (iv (1)), .int (iv ((-1)))]) := ⟨_, rfl⟩
  rw [← hs387]
  have mo388 : moN σ σ386 := by rw [hs387]; exact moN_up mo370 _ (eO_ne (by decide))
  have hf389 : σ386 (1) ≠ fNo := by rw [show σ386 (1) = σ368 (1) by rw [hs387, va_up_ne _ _ (by omega)]]; exact hf371
  have hf390 : σ386 (2) ≠ fNo := by rw [show σ386 (2) = σ368 (2) by rw [hs387, va_up_ne _ _ (by omega)]]; exact hf372
  have hf391 : σ386 (3) ≠ fNo := by rw [show σ386 (3) = σ368 (3) by rw [hs387, va_up_ne _ _ (by omega)]]; exact hf373
  have hf392 : σ386 (8) ≠ fNo := by rw [show σ386 (8) = σ368 (8) by rw [hs387, va_up_ne _ _ (by omega)]]; exact hf374
  have hf393 : σ386 (9) ≠ fNo := by rw [show σ386 (9) = σ368 (9) by rw [hs387, va_up_ne _ _ (by omega)]]; exact hf375
  have hf394 : σ386 (10) ≠ fNo := by rw [show σ386 (10) = σ368 (10) by rw [hs387, va_up_ne _ _ (by omega)]]; exact hf376
  have hf395 : σ386 (11) = eJ G 4 (fun _ => 0) := (show σ386 (11) = σ368 (11) by rw [hs387, va_up_ne _ _ (by omega)]).trans hf377
  have hp396 : ∀ q, (358 ≤ q) → σ386 q = σ q := fun q hq => (show σ386 q = σ368 q by rw [hs387, va_up_ne _ _ (by omega)]).trans (hp378 q (by omega))
  have hp397 : pTab G ad316 σ386 0 (fun _ _ => 0) (fun _ => 0) (fun _ => 0) (fun _ => 0) (fun _ => 0) (fun _ _ => 0) := hp379.up (fun i hi => show σ386 i = σ368 i by rw [hs387, va_up_ne _ _ (by omega)])
  have hp398 : pLim σ386 3 1 0 := (show σ386 2 = σ368 2 by rw [hs387, va_up_ne _ _ (by omega)]).trans hp380
  have hp399 : sur0 ad316 σ386 := hp381.up (fun i hi => show σ386 i = σ368 i by rw [hs387, va_up_ne _ _ (by omega)])
  have hp400 : pTre G ad316 σ386 0 1 tI (fun _ => none) := hp382.up (fun i hi => show σ386 i = σ368 i by rw [hs387, va_up_ne _ _ (by omega)])
  have hp401 : pTre G ad316 σ386 1 1 tI (fun _ => none) := hp383.up (fun i hi => show σ386 i = σ368 i by rw [hs387, va_up_ne _ _ (by omega)])
  have hp402 : pPru G ad316 σ386 0 (fun _ => 0) (fun _ => 0) (fun _ => 0) (fun _ => 1) := hp384.up (fun i hi => show σ386 i = σ368 i by rw [hs387, va_up_ne _ _ (by omega)])
  have hf403 : σ386 (0) = eO 8 [.ref (ad12 1), .ref (ad31 2), .ref (ad81 3), .ref (ad134 8), .ref (ad196 9), .ref (ad268 10), .ref (ad316 11), .int (iv (1)), .int (iv ((-1)))] := by rw [hs387, va_up_self]
  have hf404 : σ386 (0) = eO 8 [.ref (ad316 1), .ref (ad316 2), .ref (ad316 3), .ref (ad316 8), .ref (ad316 9), .ref (ad316 10), .ref (ad316 11), .int (iv (1)), .int (iv ((-1)))] := by rw [t321, t322, t323, t324, t325, t326]; exact hf403
  have hB : σ386 0 = bsE ad316 1 (-1) := hf404
  have hbs : bsP G ad316 σ386 0 (fun _ _ => 0) (fun _ => 0) (fun _ => 0) (fun _ => 0) (fun _ => 0) (fun _ _ => 0) 3 1 0 1 (-1) (fun _ => 0) 1 tI (fun _ => none) 0 (fun _ => 0) (fun _ => 0) (fun _ => 0) (fun _ => 1) := ⟨hB, hp397, hp398, hp399.1, sur0_lkO hp399, ⟨hf395, fun _ => ir_0⟩, ⟨1, tI, fun _ => none, by decide, hp401, tI_ok, chOk_none 1⟩, hp400, ⟨by decide, by decide⟩, tI_ok, chOk_none 0, iOk_tI, hp402, by decide, fun _ _ => ⟨ir_0, (show ir 1 by unfold ir; decide)⟩, rfl, rfl⟩
  refine v_widen (kc' := rk_Bs.cells) (ks' := rk_Bs.slots) (by decide) (by decide) ?_
  exact hret _ _ _ d_Bs_init_123 ⟨ad316, σ386, hj317, ex319, rfl, hbs, hp396⟩
