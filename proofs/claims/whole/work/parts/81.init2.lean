/-! THE CONSTRUCTORS of the model and the table; by program -/
set_option maxHeartbeats 1000000 in
set_option maxRecDepth 100000 in
theorem n_Tab {G : xG} {ad : Nat → Nat} (hj : adOk ad 400) {σ : xF} (hb : σ 1 = eO 6 [.null, .null, .int (iv (0)), .null, .null, .null, .null]) (hn : ∀ i, (12 ≤ i ∧ i ≤ 17) ∨ (24 ≤ i ∧ i ≤ 51) → σ i = fNo) : ∀ l, gC l G ad y_Tab_init (.code y_Tab_init c_Tab_init 1 none) rk_Tab [.ref (ad 1)] σ (fun ad' σ' => pTab G ad' σ' 0 (fun _ _ => 0) (fun _ => 0) (fun _ => 0) (fun _ => 0) (fun _ => 0) (fun _ _ => 0) ∧ (∀ q, q ≠ 1 ∧ (q < 12 ∨ 17 < q) ∧ (q < 24 ∨ 51 < q) → σ' q = σ q)) := by
  intro l
  refine mV_of (by decide) (Nat.le_of_ble_eq_true rfl) (fun X hX hret => ?_)
  show vV G X 0 0 0 [(0, .ref (ad 1))] [] (ov fZ ad 400 σ)
  refine v_aload_n hX d_Tab_init_0 0 rfl ?_
  refine v_objInit hX d_Tab_init_1 (mT 69 (by decide +kernel) rfl) (mT 62 (by decide +kernel) rfl) (mT 63 (by decide +kernel) rfl) (by decide) (by decide) ?_
  refine v_aload_n hX d_Tab_init_4 0 rfl ?_
  refine v_bipush hX (24) d_Tab_init_5 rfl ?_
  refine v_iconst hX (4) d_Tab_init_7 ?_
  refine g_mna hX hj 24 4 12 28 (by omega) (by omega) (by omega) (hn 12 (by omega)) (fun (i : Nat) (hi : i < 24) => hn (28 + i) (by omega)) (mT 70 (by decide +kernel) rfl) (mN 1 rfl) (mT 97 (by decide +kernel) rfl) d_Tab_init_8 rfl (by decide) rfl (by decide) ⟨by decide, by decide⟩ (fun ad1 hj2 hx3 => ?_)
  have ex4 : exA σ ad ad1 := exA_tr (exA_r σ ad) (moN_r σ) hx3
  have e5 : ad1 1 = ad 1 := hx3 1 (by omega) (by rw [hb]; exact eO_ne (by decide))
  rw [← e5]
  obtain ⟨σ6, hs7⟩ : ∃ s9, s9 = va_up (fun j => if 28 ≤ j ∧ j < 28 + 24 then eJ G 4 (fun _ => 0) else σ j) 12 (eR G 1 24 (fun i => if i < 24 then some (ad1 (28 + i)) else none)) := ⟨_, rfl⟩
  rw [← hs7]
  have ho9 : ∀ q, q ≠ 12 → ¬ (28 ≤ q ∧ q < 28 + 24) → σ6 q = σ q := fun q q1 q2 => by rw [hs7, va_up_ne _ _ q1]; exact if_neg q2
  have ho8 : ∀ i, i < 24 → σ6 (28 + i) = eJ G 4 (fun _ => 0) := fun i hi => by rw [hs7, va_up_ne _ _ (by omega)]; exact if_pos (by omega)
  have hf10 : σ6 12 = eR G 1 24 (fun i => if i < 24 then some (ad1 (28 + i)) else none) := by rw [hs7, va_up_self]
  have mo11 : moN σ σ6 := moN_of (moN_r σ) (fun q => by
    by_cases q1 : q = 12
    · rw [q1, hf10]; exact Or.inl eR_ne
    · by_cases q2 : 28 ≤ q ∧ q < 28 + 24
      · left
        have e9 := ho8 (q - 28) (by omega)
        rw [show 28 + (q - 28) = q by omega] at e9
        rw [e9]; exact eJ_ne
      · exact Or.inr (ho9 q q1 q2))
  have hf12 : σ6 (1) = eO 6 [.null, .null, .int (iv (0)), .null, .null, .null, .null] := (show σ6 (1) = σ (1) from ho9 _ (by omega) (by omega)).trans hb
  have hf13 : σ6 (13) = fNo := (show σ6 (13) = σ (13) from ho9 _ (by omega) (by omega)).trans (hn 13 (by omega))
  have hf14 : σ6 (14) = fNo := (show σ6 (14) = σ (14) from ho9 _ (by omega) (by omega)).trans (hn 14 (by omega))
  have hf15 : σ6 (15) = fNo := (show σ6 (15) = σ (15) from ho9 _ (by omega) (by omega)).trans (hn 15 (by omega))
  have hf16 : σ6 (16) = fNo := (show σ6 (16) = σ (16) from ho9 _ (by omega) (by omega)).trans (hn 16 (by omega))
  have hf17 : σ6 (17) = fNo := (show σ6 (17) = σ (17) from ho9 _ (by omega) (by omega)).trans (hn 17 (by omega))
  have hf18 : ∀ i, i < 4 → σ6 (24 + i) = fNo := fun i hi => (show σ6 (24 + i) = σ (24 + i) from ho9 _ (by omega) (by omega)).trans ((fun (i : Nat) (hi : i < 4) => hn (24 + i) (by omega)) i hi)
  refine g_putF (i := 1) (fs' := [.ref (ad1 12), .null, .int (iv (0)), .null, .null, .null, .null]) hX hj2 pF_Tab_11 rfl d_Tab_init_12 (by omega) hf12 rfl rfl (Nat.le_of_ble_eq_true rfl) rfl ?_
  obtain ⟨σ19, hs20⟩ : ∃ s9, s9 = va_up σ6 (1) (eO 6 [.ref (ad1 12), .null, .int (iv (0)), .null, .null, .null, .null]) := ⟨_, rfl⟩
  rw [← hs20]
  have mo21 : moN σ σ19 := by rw [hs20]; exact moN_up mo11 _ (eO_ne (by decide))
  have hf22 : σ19 (13) = fNo := (show σ19 (13) = σ6 (13) by rw [hs20, va_up_ne _ _ (by omega)]).trans hf13
  have hf23 : σ19 (14) = fNo := (show σ19 (14) = σ6 (14) by rw [hs20, va_up_ne _ _ (by omega)]).trans hf14
  have hf24 : σ19 (15) = fNo := (show σ19 (15) = σ6 (15) by rw [hs20, va_up_ne _ _ (by omega)]).trans hf15
  have hf25 : σ19 (16) = fNo := (show σ19 (16) = σ6 (16) by rw [hs20, va_up_ne _ _ (by omega)]).trans hf16
  have hf26 : σ19 (17) = fNo := (show σ19 (17) = σ6 (17) by rw [hs20, va_up_ne _ _ (by omega)]).trans hf17
  have hf27 : ∀ i, i < 4 → σ19 (24 + i) = fNo := fun i hi => (show σ19 (24 + i) = σ6 (24 + i) by rw [hs20, va_up_ne _ _ (by omega)]).trans (hf18 i hi)
  have hf28 : σ19 (12) = eR G 1 24 (fun i => if i < 24 then some (ad1 (28 + i)) else none) := (show σ19 (12) = σ6 (12) by rw [hs20, va_up_ne _ _ (by omega)]).trans hf10
  have hf29 : ∀ i, i < 24 → σ19 (28 + i) = eJ G 4 (fun _ => 0) := fun i hi => (show σ19 (28 + i) = σ6 (28 + i) by rw [hs20, va_up_ne _ _ (by omega)]).trans (ho8 i hi)
  have hf30 : σ19 (1) = eO 6 [.ref (ad1 12), .null, .int (iv (0)), .null, .null, .null, .null] := by rw [hs20, va_up_self]
  refine v_aload_n hX d_Tab_init_15 0 rfl ?_
  refine v_bipush hX (24) d_Tab_init_16 rfl ?_
  refine g_newJ hX hj2 (g := 13) (by omega) hf22 24 (mT 97 (by decide +kernel) rfl) d_Tab_init_18 rfl (by decide) ⟨by decide, by decide⟩ (fun ad31 hj32 hx33 => ?_)
  have ex34 : exA σ ad ad31 := exA_tr ex4 mo21 hx33
  have e35 : ad31 1 = ad1 1 := hx33 1 (by omega) (by rw [hf30]; exact eO_ne (by decide))
  rw [← e35]
  have t36 : ad31 12 = ad1 12 := (hx33 12 (by omega) (by rw [hf28]; exact eR_ne))
  have t37 : ∀ i, i < 24 → ad31 (28 + i) = ad1 (28 + i) := fun i hi => (hx33 (28 + i) (by omega) (by rw [hf29 i hi]; exact eJ_ne))
  obtain ⟨σ38, hs39⟩ : ∃ s9, s9 = va_up σ19 (13) (eJ G 24 (fun _ => 0)) := ⟨_, rfl⟩
  rw [← hs39]
  have mo40 : moN σ σ38 := by rw [hs39]; exact moN_up mo21 _ eJ_ne
  have hf41 : σ38 (14) = fNo := (show σ38 (14) = σ19 (14) by rw [hs39, va_up_ne _ _ (by omega)]).trans hf23
  have hf42 : σ38 (15) = fNo := (show σ38 (15) = σ19 (15) by rw [hs39, va_up_ne _ _ (by omega)]).trans hf24
  have hf43 : σ38 (16) = fNo := (show σ38 (16) = σ19 (16) by rw [hs39, va_up_ne _ _ (by omega)]).trans hf25
  have hf44 : σ38 (17) = fNo := (show σ38 (17) = σ19 (17) by rw [hs39, va_up_ne _ _ (by omega)]).trans hf26
  have hf45 : ∀ i, i < 4 → σ38 (24 + i) = fNo := fun i hi => (show σ38 (24 + i) = σ19 (24 + i) by rw [hs39, va_up_ne _ _ (by omega)]).trans (hf27 i hi)
  have hf46 : σ38 (12) = eR G 1 24 (fun i => if i < 24 then some (ad1 (28 + i)) else none) := (show σ38 (12) = σ19 (12) by rw [hs39, va_up_ne _ _ (by omega)]).trans hf28
  have hf47 : ∀ i, i < 24 → σ38 (28 + i) = eJ G 4 (fun _ => 0) := fun i hi => (show σ38 (28 + i) = σ19 (28 + i) by rw [hs39, va_up_ne _ _ (by omega)]).trans (hf29 i hi)
  have hf48 : σ38 (1) = eO 6 [.ref (ad1 12), .null, .int (iv (0)), .null, .null, .null, .null] := (show σ38 (1) = σ19 (1) by rw [hs39, va_up_ne _ _ (by omega)]).trans hf30
  have hf49 : σ38 (13) = eJ G 24 (fun _ => 0) := by rw [hs39, va_up_self]
  refine g_putF (i := 1) (fs' := [.ref (ad1 12), .ref (ad31 13), .int (iv (0)), .null, .null, .null, .null]) hX hj32 pF_Tab_16 rfl d_Tab_init_20 (by omega) hf48 rfl rfl (Nat.le_of_ble_eq_true rfl) rfl ?_
  obtain ⟨σ50, hs51⟩ : ∃ s9, s9 = va_up σ38 (1) (eO 6 [.ref (ad1 12), .ref (ad31 13), .int (iv (0)), .null, .null, .null, .null]) := ⟨_, rfl⟩
  rw [← hs51]
  have mo52 : moN σ σ50 := by rw [hs51]; exact moN_up mo40 _ (eO_ne (by decide))
  have hf53 : σ50 (14) = fNo := (show σ50 (14) = σ38 (14) by rw [hs51, va_up_ne _ _ (by omega)]).trans hf41
  have hf54 : σ50 (15) = fNo := (show σ50 (15) = σ38 (15) by rw [hs51, va_up_ne _ _ (by omega)]).trans hf42
  have hf55 : σ50 (16) = fNo := (show σ50 (16) = σ38 (16) by rw [hs51, va_up_ne _ _ (by omega)]).trans hf43
  have hf56 : σ50 (17) = fNo := (show σ50 (17) = σ38 (17) by rw [hs51, va_up_ne _ _ (by omega)]).trans hf44
  have hf57 : ∀ i, i < 4 → σ50 (24 + i) = fNo := fun i hi => (show σ50 (24 + i) = σ38 (24 + i) by rw [hs51, va_up_ne _ _ (by omega)]).trans (hf45 i hi)
  have hf58 : σ50 (12) = eR G 1 24 (fun i => if i < 24 then some (ad1 (28 + i)) else none) := (show σ50 (12) = σ38 (12) by rw [hs51, va_up_ne _ _ (by omega)]).trans hf46
  have hf59 : ∀ i, i < 24 → σ50 (28 + i) = eJ G 4 (fun _ => 0) := fun i hi => (show σ50 (28 + i) = σ38 (28 + i) by rw [hs51, va_up_ne _ _ (by omega)]).trans (hf47 i hi)
  have hf60 : σ50 (13) = eJ G 24 (fun _ => 0) := (show σ50 (13) = σ38 (13) by rw [hs51, va_up_ne _ _ (by omega)]).trans hf49
  have hf61 : σ50 (1) = eO 6 [.ref (ad1 12), .ref (ad31 13), .int (iv (0)), .null, .null, .null, .null] := by rw [hs51, va_up_self]
  refine v_aload_n hX d_Tab_init_23 0 rfl ?_
  refine v_iconst hX (0) d_Tab_init_24 ?_
  refine g_put (i := 1) (fs' := [.ref (ad1 12), .ref (ad31 13), .int (iv (0)), .null, .null, .null, .null]) hX hj32 pf_Tab_20 d_Tab_init_25 (by omega) hf61 rfl rfl (Nat.le_of_ble_eq_true rfl) rfl ?_
  obtain ⟨σ62, hs63⟩ : ∃ s9, s9 = va_up σ50 (1) (eO 6 [.ref (ad1 12), .ref (ad31 13), .int (iv (0)), .null, .null, .null, .null]) := ⟨_, rfl⟩
  rw [← hs63]
  have mo64 : moN σ σ62 := by rw [hs63]; exact moN_up mo52 _ (eO_ne (by decide))
  have hf65 : σ62 (14) = fNo := (show σ62 (14) = σ50 (14) by rw [hs63, va_up_ne _ _ (by omega)]).trans hf53
  have hf66 : σ62 (15) = fNo := (show σ62 (15) = σ50 (15) by rw [hs63, va_up_ne _ _ (by omega)]).trans hf54
  have hf67 : σ62 (16) = fNo := (show σ62 (16) = σ50 (16) by rw [hs63, va_up_ne _ _ (by omega)]).trans hf55
  have hf68 : σ62 (17) = fNo := (show σ62 (17) = σ50 (17) by rw [hs63, va_up_ne _ _ (by omega)]).trans hf56
  have hf69 : ∀ i, i < 4 → σ62 (24 + i) = fNo := fun i hi => (show σ62 (24 + i) = σ50 (24 + i) by rw [hs63, va_up_ne _ _ (by omega)]).trans (hf57 i hi)
  have hf70 : σ62 (12) = eR G 1 24 (fun i => if i < 24 then some (ad1 (28 + i)) else none) := (show σ62 (12) = σ50 (12) by rw [hs63, va_up_ne _ _ (by omega)]).trans hf58
  have hf71 : ∀ i, i < 24 → σ62 (28 + i) = eJ G 4 (fun _ => 0) := fun i hi => (show σ62 (28 + i) = σ50 (28 + i) by rw [hs63, va_up_ne _ _ (by omega)]).trans (hf59 i hi)
  have hf72 : σ62 (13) = eJ G 24 (fun _ => 0) := (show σ62 (13) = σ50 (13) by rw [hs63, va_up_ne _ _ (by omega)]).trans hf60
  have hf73 : σ62 (1) = eO 6 [.ref (ad1 12), .ref (ad31 13), .int (iv (0)), .null, .null, .null, .null] := by rw [hs63, va_up_self]
  refine v_aload_n hX d_Tab_init_28 0 rfl ?_
  refine v_iconst hX (4) d_Tab_init_29 ?_
  refine g_newJ hX hj32 (g := 14) (by omega) hf65 4 (mT 97 (by decide +kernel) rfl) d_Tab_init_30 rfl (by decide) ⟨by decide, by decide⟩ (fun ad74 hj75 hx76 => ?_)
  have ex77 : exA σ ad ad74 := exA_tr ex34 mo64 hx76
  have e78 : ad74 1 = ad31 1 := hx76 1 (by omega) (by rw [hf73]; exact eO_ne (by decide))
  rw [← e78]
  have t79 : ad74 12 = ad1 12 := (hx76 12 (by omega) (by rw [hf70]; exact eR_ne)).trans t36
  have t80 : ad74 13 = ad31 13 := (hx76 13 (by omega) (by rw [hf72]; exact eJ_ne))
  have t81 : ∀ i, i < 24 → ad74 (28 + i) = ad1 (28 + i) := fun i hi => (hx76 (28 + i) (by omega) (by rw [hf71 i hi]; exact eJ_ne)).trans (t37 i hi)
  obtain ⟨σ82, hs83⟩ : ∃ s9, s9 = va_up σ62 (14) (eJ G 4 (fun _ => 0)) := ⟨_, rfl⟩
  rw [← hs83]
  have mo84 : moN σ σ82 := by rw [hs83]; exact moN_up mo64 _ eJ_ne
  have hf85 : σ82 (15) = fNo := (show σ82 (15) = σ62 (15) by rw [hs83, va_up_ne _ _ (by omega)]).trans hf66
  have hf86 : σ82 (16) = fNo := (show σ82 (16) = σ62 (16) by rw [hs83, va_up_ne _ _ (by omega)]).trans hf67
  have hf87 : σ82 (17) = fNo := (show σ82 (17) = σ62 (17) by rw [hs83, va_up_ne _ _ (by omega)]).trans hf68
  have hf88 : ∀ i, i < 4 → σ82 (24 + i) = fNo := fun i hi => (show σ82 (24 + i) = σ62 (24 + i) by rw [hs83, va_up_ne _ _ (by omega)]).trans (hf69 i hi)
  have hf89 : σ82 (12) = eR G 1 24 (fun i => if i < 24 then some (ad1 (28 + i)) else none) := (show σ82 (12) = σ62 (12) by rw [hs83, va_up_ne _ _ (by omega)]).trans hf70
  have hf90 : ∀ i, i < 24 → σ82 (28 + i) = eJ G 4 (fun _ => 0) := fun i hi => (show σ82 (28 + i) = σ62 (28 + i) by rw [hs83, va_up_ne _ _ (by omega)]).trans (hf71 i hi)
  have hf91 : σ82 (13) = eJ G 24 (fun _ => 0) := (show σ82 (13) = σ62 (13) by rw [hs83, va_up_ne _ _ (by omega)]).trans hf72
  have hf92 : σ82 (1) = eO 6 [.ref (ad1 12), .ref (ad31 13), .int (iv (0)), .null, .null, .null, .null] := (show σ82 (1) = σ62 (1) by rw [hs83, va_up_ne _ _ (by omega)]).trans hf73
  have hf93 : σ82 (14) = eJ G 4 (fun _ => 0) := by rw [hs83, va_up_self]
  refine g_putF (i := 1) (fs' := [.ref (ad1 12), .ref (ad31 13), .int (iv (0)), .ref (ad74 14), .null, .null, .null]) hX hj75 pF_Tab_24 rfl d_Tab_init_32 (by omega) hf92 rfl rfl (Nat.le_of_ble_eq_true rfl) rfl ?_
  obtain ⟨σ94, hs95⟩ : ∃ s9, s9 = va_up σ82 (1) (eO 6 [.ref (ad1 12), .ref (ad31 13), .int (iv (0)), .ref (ad74 14), .null, .null, .null]) := ⟨_, rfl⟩
  rw [← hs95]
  have mo96 : moN σ σ94 := by rw [hs95]; exact moN_up mo84 _ (eO_ne (by decide))
  have hf97 : σ94 (15) = fNo := (show σ94 (15) = σ82 (15) by rw [hs95, va_up_ne _ _ (by omega)]).trans hf85
  have hf98 : σ94 (16) = fNo := (show σ94 (16) = σ82 (16) by rw [hs95, va_up_ne _ _ (by omega)]).trans hf86
  have hf99 : σ94 (17) = fNo := (show σ94 (17) = σ82 (17) by rw [hs95, va_up_ne _ _ (by omega)]).trans hf87
  have hf100 : ∀ i, i < 4 → σ94 (24 + i) = fNo := fun i hi => (show σ94 (24 + i) = σ82 (24 + i) by rw [hs95, va_up_ne _ _ (by omega)]).trans (hf88 i hi)
  have hf101 : σ94 (12) = eR G 1 24 (fun i => if i < 24 then some (ad1 (28 + i)) else none) := (show σ94 (12) = σ82 (12) by rw [hs95, va_up_ne _ _ (by omega)]).trans hf89
  have hf102 : ∀ i, i < 24 → σ94 (28 + i) = eJ G 4 (fun _ => 0) := fun i hi => (show σ94 (28 + i) = σ82 (28 + i) by rw [hs95, va_up_ne _ _ (by omega)]).trans (hf90 i hi)
  have hf103 : σ94 (13) = eJ G 24 (fun _ => 0) := (show σ94 (13) = σ82 (13) by rw [hs95, va_up_ne _ _ (by omega)]).trans hf91
  have hf104 : σ94 (14) = eJ G 4 (fun _ => 0) := (show σ94 (14) = σ82 (14) by rw [hs95, va_up_ne _ _ (by omega)]).trans hf93
  have hf105 : σ94 (1) = eO 6 [.ref (ad1 12), .ref (ad31 13), .int (iv (0)), .ref (ad74 14), .null, .null, .null] := by rw [hs95, va_up_self]
  refine v_aload_n hX d_Tab_init_35 0 rfl ?_
  refine v_iconst hX (3) d_Tab_init_36 ?_
  refine g_newJ hX hj75 (g := 15) (by omega) hf97 3 (mT 97 (by decide +kernel) rfl) d_Tab_init_37 rfl (by decide) ⟨by decide, by decide⟩ (fun ad106 hj107 hx108 => ?_)
  have ex109 : exA σ ad ad106 := exA_tr ex77 mo96 hx108
  have e110 : ad106 1 = ad74 1 := hx108 1 (by omega) (by rw [hf105]; exact eO_ne (by decide))
  rw [← e110]
  have t111 : ad106 12 = ad1 12 := (hx108 12 (by omega) (by rw [hf101]; exact eR_ne)).trans t79
  have t112 : ad106 13 = ad31 13 := (hx108 13 (by omega) (by rw [hf103]; exact eJ_ne)).trans t80
  have t113 : ad106 14 = ad74 14 := (hx108 14 (by omega) (by rw [hf104]; exact eJ_ne))
  have t114 : ∀ i, i < 24 → ad106 (28 + i) = ad1 (28 + i) := fun i hi => (hx108 (28 + i) (by omega) (by rw [hf102 i hi]; exact eJ_ne)).trans (t81 i hi)
  obtain ⟨σ115, hs116⟩ : ∃ s9, s9 = va_up σ94 (15) (eJ G 3 (fun _ => 0)) := ⟨_, rfl⟩
  rw [← hs116]
  have mo117 : moN σ σ115 := by rw [hs116]; exact moN_up mo96 _ eJ_ne
  have hf118 : σ115 (16) = fNo := (show σ115 (16) = σ94 (16) by rw [hs116, va_up_ne _ _ (by omega)]).trans hf98
  have hf119 : σ115 (17) = fNo := (show σ115 (17) = σ94 (17) by rw [hs116, va_up_ne _ _ (by omega)]).trans hf99
  have hf120 : ∀ i, i < 4 → σ115 (24 + i) = fNo := fun i hi => (show σ115 (24 + i) = σ94 (24 + i) by rw [hs116, va_up_ne _ _ (by omega)]).trans (hf100 i hi)
  have hf121 : σ115 (12) = eR G 1 24 (fun i => if i < 24 then some (ad1 (28 + i)) else none) := (show σ115 (12) = σ94 (12) by rw [hs116, va_up_ne _ _ (by omega)]).trans hf101
  have hf122 : ∀ i, i < 24 → σ115 (28 + i) = eJ G 4 (fun _ => 0) := fun i hi => (show σ115 (28 + i) = σ94 (28 + i) by rw [hs116, va_up_ne _ _ (by omega)]).trans (hf102 i hi)
  have hf123 : σ115 (13) = eJ G 24 (fun _ => 0) := (show σ115 (13) = σ94 (13) by rw [hs116, va_up_ne _ _ (by omega)]).trans hf103
  have hf124 : σ115 (14) = eJ G 4 (fun _ => 0) := (show σ115 (14) = σ94 (14) by rw [hs116, va_up_ne _ _ (by omega)]).trans hf104
  have hf125 : σ115 (1) = eO 6 [.ref (ad1 12), .ref (ad31 13), .int (iv (0)), .ref (ad74 14), .null, .null, .null] := (show σ115 (1) = σ94 (1) by rw [hs116, va_up_ne _ _ (by omega)]).trans hf105
  have hf126 : σ115 (15) = eJ G 3 (fun _ => 0) := by rw [hs116, va_up_self]
  refine g_putF (i := 1) (fs' := [.ref (ad1 12), .ref (ad31 13), .int (iv (0)), .ref (ad74 14), .ref (ad106 15), .null, .null]) hX hj107 pF_Tab_27 rfl d_Tab_init_39 (by omega) hf125 rfl rfl (Nat.le_of_ble_eq_true rfl) rfl ?_
  obtain ⟨σ127, hs128⟩ : ∃ s9, s9 = va_up σ115 (1) (eO 6 [.ref (ad1 12), .ref (ad31 13), .int (iv (0)), .ref (ad74 14), .ref (ad106 15), .null, .null]) := ⟨_, rfl⟩
  rw [← hs128]
  have mo129 : moN σ σ127 := by rw [hs128]; exact moN_up mo117 _ (eO_ne (by decide))
  have hf130 : σ127 (16) = fNo := (show σ127 (16) = σ115 (16) by rw [hs128, va_up_ne _ _ (by omega)]).trans hf118
  have hf131 : σ127 (17) = fNo := (show σ127 (17) = σ115 (17) by rw [hs128, va_up_ne _ _ (by omega)]).trans hf119
  have hf132 : ∀ i, i < 4 → σ127 (24 + i) = fNo := fun i hi => (show σ127 (24 + i) = σ115 (24 + i) by rw [hs128, va_up_ne _ _ (by omega)]).trans (hf120 i hi)
  have hf133 : σ127 (12) = eR G 1 24 (fun i => if i < 24 then some (ad1 (28 + i)) else none) := (show σ127 (12) = σ115 (12) by rw [hs128, va_up_ne _ _ (by omega)]).trans hf121
  have hf134 : ∀ i, i < 24 → σ127 (28 + i) = eJ G 4 (fun _ => 0) := fun i hi => (show σ127 (28 + i) = σ115 (28 + i) by rw [hs128, va_up_ne _ _ (by omega)]).trans (hf122 i hi)
  have hf135 : σ127 (13) = eJ G 24 (fun _ => 0) := (show σ127 (13) = σ115 (13) by rw [hs128, va_up_ne _ _ (by omega)]).trans hf123
  have hf136 : σ127 (14) = eJ G 4 (fun _ => 0) := (show σ127 (14) = σ115 (14) by rw [hs128, va_up_ne _ _ (by omega)]).trans hf124
  have hf137 : σ127 (15) = eJ G 3 (fun _ => 0) := (show σ127 (15) = σ115 (15) by rw [hs128, va_up_ne _ _ (by omega)]).trans hf126
  have hf138 : σ127 (1) = eO 6 [.ref (ad1 12), .ref (ad31 13), .int (iv (0)), .ref (ad74 14), .ref (ad106 15), .null, .null] := by rw [hs128, va_up_self]
  refine v_aload_n hX d_Tab_init_42 0 rfl ?_
  refine v_iconst hX (4) d_Tab_init_43 ?_
  refine g_newJ hX hj107 (g := 16) (by omega) hf130 4 (mT 97 (by decide +kernel) rfl) d_Tab_init_44 rfl (by decide) ⟨by decide, by decide⟩ (fun ad139 hj140 hx141 => ?_)
  have ex142 : exA σ ad ad139 := exA_tr ex109 mo129 hx141
  have e143 : ad139 1 = ad106 1 := hx141 1 (by omega) (by rw [hf138]; exact eO_ne (by decide))
  rw [← e143]
  have t144 : ad139 12 = ad1 12 := (hx141 12 (by omega) (by rw [hf133]; exact eR_ne)).trans t111
  have t145 : ad139 13 = ad31 13 := (hx141 13 (by omega) (by rw [hf135]; exact eJ_ne)).trans t112
  have t146 : ad139 14 = ad74 14 := (hx141 14 (by omega) (by rw [hf136]; exact eJ_ne)).trans t113
  have t147 : ad139 15 = ad106 15 := (hx141 15 (by omega) (by rw [hf137]; exact eJ_ne))
  have t148 : ∀ i, i < 24 → ad139 (28 + i) = ad1 (28 + i) := fun i hi => (hx141 (28 + i) (by omega) (by rw [hf134 i hi]; exact eJ_ne)).trans (t114 i hi)
  obtain ⟨σ149, hs150⟩ : ∃ s9, s9 = va_up σ127 (16) (eJ G 4 (fun _ => 0)) := ⟨_, rfl⟩
  rw [← hs150]
  have mo151 : moN σ σ149 := by rw [hs150]; exact moN_up mo129 _ eJ_ne
  have hf152 : σ149 (17) = fNo := (show σ149 (17) = σ127 (17) by rw [hs150, va_up_ne _ _ (by omega)]).trans hf131
  have hf153 : ∀ i, i < 4 → σ149 (24 + i) = fNo := fun i hi => (show σ149 (24 + i) = σ127 (24 + i) by rw [hs150, va_up_ne _ _ (by omega)]).trans (hf132 i hi)
  have hf154 : σ149 (12) = eR G 1 24 (fun i => if i < 24 then some (ad1 (28 + i)) else none) := (show σ149 (12) = σ127 (12) by rw [hs150, va_up_ne _ _ (by omega)]).trans hf133
  have hf155 : ∀ i, i < 24 → σ149 (28 + i) = eJ G 4 (fun _ => 0) := fun i hi => (show σ149 (28 + i) = σ127 (28 + i) by rw [hs150, va_up_ne _ _ (by omega)]).trans (hf134 i hi)
  have hf156 : σ149 (13) = eJ G 24 (fun _ => 0) := (show σ149 (13) = σ127 (13) by rw [hs150, va_up_ne _ _ (by omega)]).trans hf135
  have hf157 : σ149 (14) = eJ G 4 (fun _ => 0) := (show σ149 (14) = σ127 (14) by rw [hs150, va_up_ne _ _ (by omega)]).trans hf136
  have hf158 : σ149 (15) = eJ G 3 (fun _ => 0) := (show σ149 (15) = σ127 (15) by rw [hs150, va_up_ne _ _ (by omega)]).trans hf137
  have hf159 : σ149 (1) = eO 6 [.ref (ad1 12), .ref (ad31 13), .int (iv (0)), .ref (ad74 14), .ref (ad106 15), .null, .null] := (show σ149 (1) = σ127 (1) by rw [hs150, va_up_ne _ _ (by omega)]).trans hf138
  have hf160 : σ149 (16) = eJ G 4 (fun _ => 0) := by rw [hs150, va_up_self]
  refine g_putF (i := 1) (fs' := [.ref (ad1 12), .ref (ad31 13), .int (iv (0)), .ref (ad74 14), .ref (ad106 15), .ref (ad139 16), .null]) hX hj140 pF_Tab_30 rfl d_Tab_init_46 (by omega) hf159 rfl rfl (Nat.le_of_ble_eq_true rfl) rfl ?_
  obtain ⟨σ161, hs162⟩ : ∃ s9, s9 = va_up σ149 (1) (eO 6 [.ref (ad1 12), .ref (ad31 13), .int (iv (0)), .ref (ad74 14), .ref (ad106 15), .ref (ad139 16), .null]) := ⟨_, rfl⟩
  rw [← hs162]
  have mo163 : moN σ σ161 := by rw [hs162]; exact moN_up mo151 _ (eO_ne (by decide))
  have hf164 : σ161 (17) = fNo := (show σ161 (17) = σ149 (17) by rw [hs162, va_up_ne _ _ (by omega)]).trans hf152
  have hf165 : ∀ i, i < 4 → σ161 (24 + i) = fNo := fun i hi => (show σ161 (24 + i) = σ149 (24 + i) by rw [hs162, va_up_ne _ _ (by omega)]).trans (hf153 i hi)
  have hf166 : σ161 (12) = eR G 1 24 (fun i => if i < 24 then some (ad1 (28 + i)) else none) := (show σ161 (12) = σ149 (12) by rw [hs162, va_up_ne _ _ (by omega)]).trans hf154
  have hf167 : ∀ i, i < 24 → σ161 (28 + i) = eJ G 4 (fun _ => 0) := fun i hi => (show σ161 (28 + i) = σ149 (28 + i) by rw [hs162, va_up_ne _ _ (by omega)]).trans (hf155 i hi)
  have hf168 : σ161 (13) = eJ G 24 (fun _ => 0) := (show σ161 (13) = σ149 (13) by rw [hs162, va_up_ne _ _ (by omega)]).trans hf156
  have hf169 : σ161 (14) = eJ G 4 (fun _ => 0) := (show σ161 (14) = σ149 (14) by rw [hs162, va_up_ne _ _ (by omega)]).trans hf157
  have hf170 : σ161 (15) = eJ G 3 (fun _ => 0) := (show σ161 (15) = σ149 (15) by rw [hs162, va_up_ne _ _ (by omega)]).trans hf158
  have hf171 : σ161 (16) = eJ G 4 (fun _ => 0) := (show σ161 (16) = σ149 (16) by rw [hs162, va_up_ne _ _ (by omega)]).trans hf160
  have hf172 : σ161 (1) = eO 6 [.ref (ad1 12), .ref (ad31 13), .int (iv (0)), .ref (ad74 14), .ref (ad106 15), .ref (ad139 16), .null] := by rw [hs162, va_up_self]
  refine v_aload_n hX d_Tab_init_49 0 rfl ?_
  refine v_iconst hX (4) d_Tab_init_50 ?_
  refine v_bipush hX (101) d_Tab_init_51 rfl ?_
  refine g_mna hX hj140 4 101 17 24 (by omega) (by omega) (by omega) hf164 hf165 (mT 70 (by decide +kernel) rfl) (mN 1 rfl) (mT 97 (by decide +kernel) rfl) d_Tab_init_53 rfl (by decide) rfl (by decide) ⟨by decide, by decide⟩ (fun ad173 hj174 hx175 => ?_)
  have ex176 : exA σ ad ad173 := exA_tr ex142 mo163 hx175
  have e177 : ad173 1 = ad139 1 := hx175 1 (by omega) (by rw [hf172]; exact eO_ne (by decide))
  rw [← e177]
  have t178 : ad173 12 = ad1 12 := (hx175 12 (by omega) (by rw [hf166]; exact eR_ne)).trans t144
  have t179 : ad173 13 = ad31 13 := (hx175 13 (by omega) (by rw [hf168]; exact eJ_ne)).trans t145
  have t180 : ad173 14 = ad74 14 := (hx175 14 (by omega) (by rw [hf169]; exact eJ_ne)).trans t146
  have t181 : ad173 15 = ad106 15 := (hx175 15 (by omega) (by rw [hf170]; exact eJ_ne)).trans t147
  have t182 : ad173 16 = ad139 16 := (hx175 16 (by omega) (by rw [hf171]; exact eJ_ne))
  have t183 : ∀ i, i < 24 → ad173 (28 + i) = ad1 (28 + i) := fun i hi => (hx175 (28 + i) (by omega) (by rw [hf167 i hi]; exact eJ_ne)).trans (t148 i hi)
  obtain ⟨σ184, hs185⟩ : ∃ s9, s9 = va_up (fun j => if 24 ≤ j ∧ j < 24 + 4 then eJ G 101 (fun _ => 0) else σ161 j) 17 (eR G 1 4 (fun i => if i < 4 then some (ad173 (24 + i)) else none)) := ⟨_, rfl⟩
  rw [← hs185]
  have ho187 : ∀ q, q ≠ 17 → ¬ (24 ≤ q ∧ q < 24 + 4) → σ184 q = σ161 q := fun q q1 q2 => by rw [hs185, va_up_ne _ _ q1]; exact if_neg q2
  have ho186 : ∀ i, i < 4 → σ184 (24 + i) = eJ G 101 (fun _ => 0) := fun i hi => by rw [hs185, va_up_ne _ _ (by omega)]; exact if_pos (by omega)
  have hf188 : σ184 17 = eR G 1 4 (fun i => if i < 4 then some (ad173 (24 + i)) else none) := by rw [hs185, va_up_self]
  have mo189 : moN σ σ184 := moN_of mo163 (fun q => by
    by_cases q1 : q = 17
    · rw [q1, hf188]; exact Or.inl eR_ne
    · by_cases q2 : 24 ≤ q ∧ q < 24 + 4
      · left
        have e9 := ho186 (q - 24) (by omega)
        rw [show 24 + (q - 24) = q by omega] at e9
        rw [e9]; exact eJ_ne
      · exact Or.inr (ho187 q q1 q2))
  have hf190 : σ184 (12) = eR G 1 24 (fun i => if i < 24 then some (ad1 (28 + i)) else none) := (show σ184 (12) = σ161 (12) from ho187 _ (by omega) (by omega)).trans hf166
  have hf191 : ∀ i, i < 24 → σ184 (28 + i) = eJ G 4 (fun _ => 0) := fun i hi => (show σ184 (28 + i) = σ161 (28 + i) from ho187 _ (by omega) (by omega)).trans (hf167 i hi)
  have hf192 : σ184 (13) = eJ G 24 (fun _ => 0) := (show σ184 (13) = σ161 (13) from ho187 _ (by omega) (by omega)).trans hf168
  have hf193 : σ184 (14) = eJ G 4 (fun _ => 0) := (show σ184 (14) = σ161 (14) from ho187 _ (by omega) (by omega)).trans hf169
  have hf194 : σ184 (15) = eJ G 3 (fun _ => 0) := (show σ184 (15) = σ161 (15) from ho187 _ (by omega) (by omega)).trans hf170
  have hf195 : σ184 (16) = eJ G 4 (fun _ => 0) := (show σ184 (16) = σ161 (16) from ho187 _ (by omega) (by omega)).trans hf171
  have hf196 : σ184 (1) = eO 6 [.ref (ad1 12), .ref (ad31 13), .int (iv (0)), .ref (ad74 14), .ref (ad106 15), .ref (ad139 16), .null] := (show σ184 (1) = σ161 (1) from ho187 _ (by omega) (by omega)).trans hf172
  refine g_putF (i := 1) (fs' := [.ref (ad1 12), .ref (ad31 13), .int (iv (0)), .ref (ad74 14), .ref (ad106 15), .ref (ad139 16), .ref (ad173 17)]) hX hj174 pF_Tab_33 rfl d_Tab_init_57 (by omega) hf196 rfl rfl (Nat.le_of_ble_eq_true rfl) rfl ?_
  obtain ⟨σ197, hs198⟩ : ∃ s9, s9 = va_up σ184 (1) (eO 6 [.ref (ad1 12), .ref (ad31 13), .int (iv (0)), .ref (ad74 14), .ref (ad106 15), .ref (ad139 16), .ref (ad173 17)]) := ⟨_, rfl⟩
  rw [← hs198]
  have mo199 : moN σ σ197 := by rw [hs198]; exact moN_up mo189 _ (eO_ne (by decide))
  have hf200 : σ197 (12) = eR G 1 24 (fun i => if i < 24 then some (ad1 (28 + i)) else none) := (show σ197 (12) = σ184 (12) by rw [hs198, va_up_ne _ _ (by omega)]).trans hf190
  have hf201 : ∀ i, i < 24 → σ197 (28 + i) = eJ G 4 (fun _ => 0) := fun i hi => (show σ197 (28 + i) = σ184 (28 + i) by rw [hs198, va_up_ne _ _ (by omega)]).trans (hf191 i hi)
  have hf202 : σ197 (13) = eJ G 24 (fun _ => 0) := (show σ197 (13) = σ184 (13) by rw [hs198, va_up_ne _ _ (by omega)]).trans hf192
  have hf203 : σ197 (14) = eJ G 4 (fun _ => 0) := (show σ197 (14) = σ184 (14) by rw [hs198, va_up_ne _ _ (by omega)]).trans hf193
  have hf204 : σ197 (15) = eJ G 3 (fun _ => 0) := (show σ197 (15) = σ184 (15) by rw [hs198, va_up_ne _ _ (by omega)]).trans hf194
  have hf205 : σ197 (16) = eJ G 4 (fun _ => 0) := (show σ197 (16) = σ184 (16) by rw [hs198, va_up_ne _ _ (by omega)]).trans hf195
  have hf206 : σ197 (17) = eR G 1 4 (fun i => if i < 4 then some (ad173 (24 + i)) else none) := (show σ197 (17) = σ184 (17) by rw [hs198, va_up_ne _ _ (by omega)]).trans hf188
  have hf207 : ∀ i, i < 4 → σ197 (24 + i) = eJ G 101 (fun _ => 0) := fun i hi => (show σ197 (24 + i) = σ184 (24 + i) by rw [hs198, va_up_ne _ _ (by omega)]).trans (ho186 i hi)
  have hf208 : σ197 (1) = eO 6 [.ref (ad1 12), .ref (ad31 13), .int (iv (0)), .ref (ad74 14), .ref (ad106 15), .ref (ad139 16), .ref (ad173 17)] := by rw [hs198, va_up_self]
  have hf209 : σ197 (1) = eO 6 [.ref (ad173 12), .ref (ad173 13), .int (iv (0)), .ref (ad173 14), .ref (ad173 15), .ref (ad173 16), .ref (ad173 17)] := by rw [t178, t179, t180, t181, t182]; exact hf208
  have hf210 : σ197 12 = eR G 1 24 (fun i => if i < 24 then some (ad173 (28 + i)) else none) := hf200.trans (eR_c (fun i hi => t183 i hi))
  have hf211 : σ197 17 = eR G 1 4 (fun i => if i < 4 then some (ad173 (24 + i)) else none) := hf206
  refine v_widen (kc' := rk_Tab.cells) (ks' := rk_Tab.slots) (by decide) (by decide) ?_
  have hPT : pTab G ad173 σ197 0 (fun _ _ => 0) (fun _ => 0) (fun _ => 0) (fun _ => 0) (fun _ => 0) (fun _ _ => 0) := ⟨hf209, hf210, hf202, hf203, hf204, hf205, hf211, hf207, hf201⟩
  exact hret _ _ _ d_Tab_init_60 ⟨ad173, σ197, hj174, ex176, rfl, hPT, (fun q hq => by rw [hs198, va_up_ne _ _ (by omega), ho187 _ (by omega) (by omega), hs162, va_up_ne _ _ (by omega), hs150, va_up_ne _ _ (by omega), hs128, va_up_ne _ _ (by omega), hs116, va_up_ne _ _ (by omega), hs95, va_up_ne _ _ (by omega), hs83, va_up_ne _ _ (by omega), hs63, va_up_ne _ _ (by omega), hs51, va_up_ne _ _ (by omega), hs39, va_up_ne _ _ (by omega), hs20, va_up_ne _ _ (by omega), ho9 _ (by omega) (by omega)])⟩
