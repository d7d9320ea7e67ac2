/-! THE MODEL'S CONSTRUCTOR; by program -/
set_option maxHeartbeats 1000000 in
set_option maxRecDepth 100000 in
theorem n_Mo {G : xG} {ad : Nat → Nat} (hj : adOk ad 400) {σ : xF} (hb : σ 358 = eO 9 [.null, .int (iv (0)), .null, .null, .int (iv (0)), .int (iv (0)), .int (iv (0)), .int (iv (0)), .long (jv (0)), .long (jv (0)), .int (iv (0)), .int (iv (0)), .int (iv (0)), .long (jv (0)), .long (jv (0)), .int (iv (0)), .null, .null, .null, .null, .null, .null, .null, .null, .null, .null, .int (iv (0)), .null, .null, .null, .null, .int (iv (0)), .int (iv (0))]) (hn : ∀ i, 359 ≤ i → i ≤ 375 → σ i = fNo) : ∀ l, gC l G ad y_Mo_init (.code y_Mo_init c_Mo_init 1 none) rk_Mo [.ref (ad 358)] σ (fun ad' σ' => pMo G ad' σ' 0 (fun _ _ => 0) (fun _ => 0) (fun _ => 0) 3 1 0 (fun _ => 0) ∧ pMa G σ' (fun _ _ => 0) ∧ (∀ q, q < 358 ∨ 375 < q → σ' q = σ q)) := by
  intro l
  refine mV_of (by decide) (Nat.le_of_ble_eq_true rfl) (fun X hX hret => ?_)
  show vV G X 0 0 0 [(0, .ref (ad 358))] [] (ov fZ ad 400 σ)
  refine v_aload_n hX d_Mo_init_0 0 rfl ?_
  refine v_objInit hX d_Mo_init_1 (mT 656 (by decide +kernel) rfl) (mT 62 (by decide +kernel) rfl) (mT 63 (by decide +kernel) rfl) (by decide) (by decide) ?_
  refine v_aload_n hX d_Mo_init_4 0 rfl ?_
  refine v_iconst hX (4) d_Mo_init_5 ?_
  refine g_newJ hX hj (g := 359) (by omega) (hn 359 (by decide) (by decide)) 4 (mT 97 (by decide +kernel) rfl) d_Mo_init_6 rfl (by decide) ⟨by decide, by decide⟩ (fun ad1 hj2 hx3 => ?_)
  have ex4 : exA σ ad ad1 := exA_tr (exA_r σ ad) (moN_r σ) hx3
  have e5 : ad1 358 = ad 358 := hx3 358 (by omega) (by rw [hb]; exact eO_ne (by decide))
  rw [← e5]
  obtain ⟨σ6, hs7⟩ : ∃ s9, s9 = va_up σ (359) (eJ G 4 (fun _ => 0)) := ⟨_, rfl⟩
  rw [← hs7]
  have mo8 : moN σ σ6 := by rw [hs7]; exact moN_up (moN_r σ) _ eJ_ne
  have hf9 : σ6 (358) = eO 9 [.null, .int (iv (0)), .null, .null, .int (iv (0)), .int (iv (0)), .int (iv (0)), .int (iv (0)), .long (jv (0)), .long (jv (0)), .int (iv (0)), .int (iv (0)), .int (iv (0)), .long (jv (0)), .long (jv (0)), .int (iv (0)), .null, .null, .null, .null, .null, .null, .null, .null, .null, .null, .int (iv (0)), .null, .null, .null, .null, .int (iv (0)), .int (iv (0))] := (show σ6 (358) = σ (358) by rw [hs7, va_up_ne _ _ (by omega)]).trans hb
  have hf10 : σ6 (360) = fNo := (show σ6 (360) = σ (360) by rw [hs7, va_up_ne _ _ (by omega)]).trans (hn 360 (by decide) (by decide))
  have hf11 : σ6 (361) = fNo := (show σ6 (361) = σ (361) by rw [hs7, va_up_ne _ _ (by omega)]).trans (hn 361 (by decide) (by decide))
  have hf12 : σ6 (362) = fNo := (show σ6 (362) = σ (362) by rw [hs7, va_up_ne _ _ (by omega)]).trans (hn 362 (by decide) (by decide))
  have hf13 : σ6 (363) = fNo := (show σ6 (363) = σ (363) by rw [hs7, va_up_ne _ _ (by omega)]).trans (hn 363 (by decide) (by decide))
  have hf14 : σ6 (364) = fNo := (show σ6 (364) = σ (364) by rw [hs7, va_up_ne _ _ (by omega)]).trans (hn 364 (by decide) (by decide))
  have hf15 : σ6 (365) = fNo := (show σ6 (365) = σ (365) by rw [hs7, va_up_ne _ _ (by omega)]).trans (hn 365 (by decide) (by decide))
  have hf16 : σ6 (366) = fNo := (show σ6 (366) = σ (366) by rw [hs7, va_up_ne _ _ (by omega)]).trans (hn 366 (by decide) (by decide))
  have hf17 : σ6 (367) = fNo := (show σ6 (367) = σ (367) by rw [hs7, va_up_ne _ _ (by omega)]).trans (hn 367 (by decide) (by decide))
  have hf18 : σ6 (368) = fNo := (show σ6 (368) = σ (368) by rw [hs7, va_up_ne _ _ (by omega)]).trans (hn 368 (by decide) (by decide))
  have hf19 : σ6 (369) = fNo := (show σ6 (369) = σ (369) by rw [hs7, va_up_ne _ _ (by omega)]).trans (hn 369 (by decide) (by decide))
  have hf20 : σ6 (370) = fNo := (show σ6 (370) = σ (370) by rw [hs7, va_up_ne _ _ (by omega)]).trans (hn 370 (by decide) (by decide))
  have hf21 : σ6 (371) = fNo := (show σ6 (371) = σ (371) by rw [hs7, va_up_ne _ _ (by omega)]).trans (hn 371 (by decide) (by decide))
  have hf22 : σ6 (372) = fNo := (show σ6 (372) = σ (372) by rw [hs7, va_up_ne _ _ (by omega)]).trans (hn 372 (by decide) (by decide))
  have hf23 : σ6 (373) = fNo := (show σ6 (373) = σ (373) by rw [hs7, va_up_ne _ _ (by omega)]).trans (hn 373 (by decide) (by decide))
  have hf24 : σ6 (374) = fNo := (show σ6 (374) = σ (374) by rw [hs7, va_up_ne _ _ (by omega)]).trans (hn 374 (by decide) (by decide))
  have hf25 : σ6 (375) = fNo := (show σ6 (375) = σ (375) by rw [hs7, va_up_ne _ _ (by omega)]).trans (hn 375 (by decide) (by decide))
  have hf26 : σ6 (359) = eJ G 4 (fun _ => 0) := by rw [hs7, va_up_self]
  refine g_putF (i := 358) (fs' := [.ref (ad1 359), .int (iv (0)), .null, .null, .int (iv (0)), .int (iv (0)), .int (iv (0)), .int (iv (0)), .long (jv (0)), .long (jv (0)), .int (iv (0)), .int (iv (0)), .int (iv (0)), .long (jv (0)), .long (jv (0)), .int (iv (0)), .null, .null, .null, .null, .null, .null, .null, .null, .null, .null, .int (iv (0)), .null, .null, .null, .null, .int (iv (0)), .int (iv (0))]) hX hj2 pF_Mo_7 rfl d_Mo_init_8 (by omega) hf9 rfl rfl (Nat.le_of_ble_eq_true rfl) rfl ?_
  obtain ⟨σ27, hs28⟩ : ∃ s9, s9 = va_up σ6 (358) (eO 9 [.ref (ad1 359), .int (iv (0)), .null, .null, .int (iv (0)), .int (iv (0)), .int (iv (0)), .int (iv (0)), .long (jv (0)), .long (jv (0)), .int (iv (0)), .int (iv (0)), .int (iv (0)), .long (jv (0)), .long (jv (0)), .int (iv (0)), .null, .null, .null, .null, .null, .null, .null, .null, .null, .null, .int (iv (0)), .null, .null, .null, .null, .int (iv (0)), .int (iv (0))]) := ⟨_, rfl⟩
  rw [← hs28]
  have mo29 : moN σ σ27 := by rw [hs28]; exact moN_up mo8 _ (eO_ne (by decide))
  have hf30 : σ27 (360) = fNo := (show σ27 (360) = σ6 (360) by rw [hs28, va_up_ne _ _ (by omega)]).trans hf10
  have hf31 : σ27 (361) = fNo := (show σ27 (361) = σ6 (361) by rw [hs28, va_up_ne _ _ (by omega)]).trans hf11
  have hf32 : σ27 (362) = fNo := (show σ27 (362) = σ6 (362) by rw [hs28, va_up_ne _ _ (by omega)]).trans hf12
  have hf33 : σ27 (363) = fNo := (show σ27 (363) = σ6 (363) by rw [hs28, va_up_ne _ _ (by omega)]).trans hf13
  have hf34 : σ27 (364) = fNo := (show σ27 (364) = σ6 (364) by rw [hs28, va_up_ne _ _ (by omega)]).trans hf14
  have hf35 : σ27 (365) = fNo := (show σ27 (365) = σ6 (365) by rw [hs28, va_up_ne _ _ (by omega)]).trans hf15
  have hf36 : σ27 (366) = fNo := (show σ27 (366) = σ6 (366) by rw [hs28, va_up_ne _ _ (by omega)]).trans hf16
  have hf37 : σ27 (367) = fNo := (show σ27 (367) = σ6 (367) by rw [hs28, va_up_ne _ _ (by omega)]).trans hf17
  have hf38 : σ27 (368) = fNo := (show σ27 (368) = σ6 (368) by rw [hs28, va_up_ne _ _ (by omega)]).trans hf18
  have hf39 : σ27 (369) = fNo := (show σ27 (369) = σ6 (369) by rw [hs28, va_up_ne _ _ (by omega)]).trans hf19
  have hf40 : σ27 (370) = fNo := (show σ27 (370) = σ6 (370) by rw [hs28, va_up_ne _ _ (by omega)]).trans hf20
  have hf41 : σ27 (371) = fNo := (show σ27 (371) = σ6 (371) by rw [hs28, va_up_ne _ _ (by omega)]).trans hf21
  have hf42 : σ27 (372) = fNo := (show σ27 (372) = σ6 (372) by rw [hs28, va_up_ne _ _ (by omega)]).trans hf22
  have hf43 : σ27 (373) = fNo := (show σ27 (373) = σ6 (373) by rw [hs28, va_up_ne _ _ (by omega)]).trans hf23
  have hf44 : σ27 (374) = fNo := (show σ27 (374) = σ6 (374) by rw [hs28, va_up_ne _ _ (by omega)]).trans hf24
  have hf45 : σ27 (375) = fNo := (show σ27 (375) = σ6 (375) by rw [hs28, va_up_ne _ _ (by omega)]).trans hf25
  have hf46 : σ27 (359) = eJ G 4 (fun _ => 0) := (show σ27 (359) = σ6 (359) by rw [hs28, va_up_ne _ _ (by omega)]).trans hf26
  have hf47 : σ27 (358) = eO 9 [.ref (ad1 359), .int (iv (0)), .null, .null, .int (iv (0)), .int (iv (0)), .int (iv (0)), .int (iv (0)), .long (jv (0)), .long (jv (0)), .int (iv (0)), .int (iv (0)), .int (iv (0)), .long (jv (0)), .long (jv (0)), .int (iv (0)), .null, .null, .null, .null, .null, .null, .null, .null, .null, .null, .int (iv (0)), .null, .null, .null, .null, .int (iv (0)), .int (iv (0))] := by rw [hs28, va_up_self]
  refine v_aload_n hX d_Mo_init_11 0 rfl ?_
  refine v_bipush hX (96) d_Mo_init_12 rfl ?_
  refine g_newJ hX hj2 (g := 360) (by omega) hf30 96 (mT 97 (by decide +kernel) rfl) d_Mo_init_14 rfl (by decide) ⟨by decide, by decide⟩ (fun ad48 hj49 hx50 => ?_)
  have ex51 : exA σ ad ad48 := exA_tr ex4 mo29 hx50
  have e52 : ad48 358 = ad1 358 := hx50 358 (by omega) (by rw [hf47]; exact eO_ne (by decide))
  rw [← e52]
  have t53 : ad48 359 = ad1 359 := (hx50 359 (by omega) (by rw [hf46]; exact eJ_ne))
  obtain ⟨σ54, hs55⟩ : ∃ s9, s9 = va_up σ27 (360) (eJ G 96 (fun _ => 0)) := ⟨_, rfl⟩
  rw [← hs55]
  have mo56 : moN σ σ54 := by rw [hs55]; exact moN_up mo29 _ eJ_ne
  have hf57 : σ54 (361) = fNo := (show σ54 (361) = σ27 (361) by rw [hs55, va_up_ne _ _ (by omega)]).trans hf31
  have hf58 : σ54 (362) = fNo := (show σ54 (362) = σ27 (362) by rw [hs55, va_up_ne _ _ (by omega)]).trans hf32
  have hf59 : σ54 (363) = fNo := (show σ54 (363) = σ27 (363) by rw [hs55, va_up_ne _ _ (by omega)]).trans hf33
  have hf60 : σ54 (364) = fNo := (show σ54 (364) = σ27 (364) by rw [hs55, va_up_ne _ _ (by omega)]).trans hf34
  have hf61 : σ54 (365) = fNo := (show σ54 (365) = σ27 (365) by rw [hs55, va_up_ne _ _ (by omega)]).trans hf35
  have hf62 : σ54 (366) = fNo := (show σ54 (366) = σ27 (366) by rw [hs55, va_up_ne _ _ (by omega)]).trans hf36
  have hf63 : σ54 (367) = fNo := (show σ54 (367) = σ27 (367) by rw [hs55, va_up_ne _ _ (by omega)]).trans hf37
  have hf64 : σ54 (368) = fNo := (show σ54 (368) = σ27 (368) by rw [hs55, va_up_ne _ _ (by omega)]).trans hf38
  have hf65 : σ54 (369) = fNo := (show σ54 (369) = σ27 (369) by rw [hs55, va_up_ne _ _ (by omega)]).trans hf39
  have hf66 : σ54 (370) = fNo := (show σ54 (370) = σ27 (370) by rw [hs55, va_up_ne _ _ (by omega)]).trans hf40
  have hf67 : σ54 (371) = fNo := (show σ54 (371) = σ27 (371) by rw [hs55, va_up_ne _ _ (by omega)]).trans hf41
  have hf68 : σ54 (372) = fNo := (show σ54 (372) = σ27 (372) by rw [hs55, va_up_ne _ _ (by omega)]).trans hf42
  have hf69 : σ54 (373) = fNo := (show σ54 (373) = σ27 (373) by rw [hs55, va_up_ne _ _ (by omega)]).trans hf43
  have hf70 : σ54 (374) = fNo := (show σ54 (374) = σ27 (374) by rw [hs55, va_up_ne _ _ (by omega)]).trans hf44
  have hf71 : σ54 (375) = fNo := (show σ54 (375) = σ27 (375) by rw [hs55, va_up_ne _ _ (by omega)]).trans hf45
  have hf72 : σ54 (359) = eJ G 4 (fun _ => 0) := (show σ54 (359) = σ27 (359) by rw [hs55, va_up_ne _ _ (by omega)]).trans hf46
  have hf73 : σ54 (358) = eO 9 [.ref (ad1 359), .int (iv (0)), .null, .null, .int (iv (0)), .int (iv (0)), .int (iv (0)), .int (iv (0)), .long (jv (0)), .long (jv (0)), .int (iv (0)), .int (iv (0)), .int (iv (0)), .long (jv (0)), .long (jv (0)), .int (iv (0)), .null, .null, .null, .null, .null, .null, .null, .null, .null, .null, .int (iv (0)), .null, .null, .null, .null, .int (iv (0)), .int (iv (0))] := (show σ54 (358) = σ27 (358) by rw [hs55, va_up_ne _ _ (by omega)]).trans hf47
  have hf74 : σ54 (360) = eJ G 96 (fun _ => 0) := by rw [hs55, va_up_self]
  refine g_putF (i := 358) (fs' := [.ref (ad1 359), .int (iv (0)), .ref (ad48 360), .null, .int (iv (0)), .int (iv (0)), .int (iv (0)), .int (iv (0)), .long (jv (0)), .long (jv (0)), .int (iv (0)), .int (iv (0)), .int (iv (0)), .long (jv (0)), .long (jv (0)), .int (iv (0)), .null, .null, .null, .null, .null, .null, .null, .null, .null, .null, .int (iv (0)), .null, .null, .null, .null, .int (iv (0)), .int (iv (0))]) hX hj49 pF_Mo_13 rfl d_Mo_init_16 (by omega) hf73 rfl rfl (Nat.le_of_ble_eq_true rfl) rfl ?_
  obtain ⟨σ75, hs76⟩ : ∃ s9, s9 = va_up σ54 (358) (eO 9 [.ref (ad1 359), .int (iv (0)), .ref (ad48 360), .null, .int (iv (0)), .int (iv (0)), .int (iv (0)), .int (iv (0)), .long (jv (0)), .long (jv (0)), .int (iv (0)), .int (iv (0)), .int (iv (0)), .long (jv (0)), .long (jv (0)), .int (iv (0)), .null, .null, .null, .null, .null, .null, .null, .null, .null, .null, .int (iv (0)), .null, .null, .null, .null, .int (iv (0)), .int (iv (0))]) := ⟨_, rfl⟩
  rw [← hs76]
  have mo77 : moN σ σ75 := by rw [hs76]; exact moN_up mo56 _ (eO_ne (by decide))
  have hf78 : σ75 (361) = fNo := (show σ75 (361) = σ54 (361) by rw [hs76, va_up_ne _ _ (by omega)]).trans hf57
  have hf79 : σ75 (362) = fNo := (show σ75 (362) = σ54 (362) by rw [hs76, va_up_ne _ _ (by omega)]).trans hf58
  have hf80 : σ75 (363) = fNo := (show σ75 (363) = σ54 (363) by rw [hs76, va_up_ne _ _ (by omega)]).trans hf59
  have hf81 : σ75 (364) = fNo := (show σ75 (364) = σ54 (364) by rw [hs76, va_up_ne _ _ (by omega)]).trans hf60
  have hf82 : σ75 (365) = fNo := (show σ75 (365) = σ54 (365) by rw [hs76, va_up_ne _ _ (by omega)]).trans hf61
  have hf83 : σ75 (366) = fNo := (show σ75 (366) = σ54 (366) by rw [hs76, va_up_ne _ _ (by omega)]).trans hf62
  have hf84 : σ75 (367) = fNo := (show σ75 (367) = σ54 (367) by rw [hs76, va_up_ne _ _ (by omega)]).trans hf63
  have hf85 : σ75 (368) = fNo := (show σ75 (368) = σ54 (368) by rw [hs76, va_up_ne _ _ (by omega)]).trans hf64
  have hf86 : σ75 (369) = fNo := (show σ75 (369) = σ54 (369) by rw [hs76, va_up_ne _ _ (by omega)]).trans hf65
  have hf87 : σ75 (370) = fNo := (show σ75 (370) = σ54 (370) by rw [hs76, va_up_ne _ _ (by omega)]).trans hf66
  have hf88 : σ75 (371) = fNo := (show σ75 (371) = σ54 (371) by rw [hs76, va_up_ne _ _ (by omega)]).trans hf67
  have hf89 : σ75 (372) = fNo := (show σ75 (372) = σ54 (372) by rw [hs76, va_up_ne _ _ (by omega)]).trans hf68
  have hf90 : σ75 (373) = fNo := (show σ75 (373) = σ54 (373) by rw [hs76, va_up_ne _ _ (by omega)]).trans hf69
  have hf91 : σ75 (374) = fNo := (show σ75 (374) = σ54 (374) by rw [hs76, va_up_ne _ _ (by omega)]).trans hf70
  have hf92 : σ75 (375) = fNo := (show σ75 (375) = σ54 (375) by rw [hs76, va_up_ne _ _ (by omega)]).trans hf71
  have hf93 : σ75 (359) = eJ G 4 (fun _ => 0) := (show σ75 (359) = σ54 (359) by rw [hs76, va_up_ne _ _ (by omega)]).trans hf72
  have hf94 : σ75 (360) = eJ G 96 (fun _ => 0) := (show σ75 (360) = σ54 (360) by rw [hs76, va_up_ne _ _ (by omega)]).trans hf74
  have hf95 : σ75 (358) = eO 9 [.ref (ad1 359), .int (iv (0)), .ref (ad48 360), .null, .int (iv (0)), .int (iv (0)), .int (iv (0)), .int (iv (0)), .long (jv (0)), .long (jv (0)), .int (iv (0)), .int (iv (0)), .int (iv (0)), .long (jv (0)), .long (jv (0)), .int (iv (0)), .null, .null, .null, .null, .null, .null, .null, .null, .null, .null, .int (iv (0)), .null, .null, .null, .null, .int (iv (0)), .int (iv (0))] := by rw [hs76, va_up_self]
  refine v_aload_n hX d_Mo_init_19 0 rfl ?_
  refine v_bipush hX (24) d_Mo_init_20 rfl ?_
  refine g_newJ hX hj49 (g := 361) (by omega) hf78 24 (mT 97 (by decide +kernel) rfl) d_Mo_init_22 rfl (by decide) ⟨by decide, by decide⟩ (fun ad96 hj97 hx98 => ?_)
  have ex99 : exA σ ad ad96 := exA_tr ex51 mo77 hx98
  have e100 : ad96 358 = ad48 358 := hx98 358 (by omega) (by rw [hf95]; exact eO_ne (by decide))
  rw [← e100]
  have t101 : ad96 359 = ad1 359 := (hx98 359 (by omega) (by rw [hf93]; exact eJ_ne)).trans t53
  have t102 : ad96 360 = ad48 360 := (hx98 360 (by omega) (by rw [hf94]; exact eJ_ne))
  obtain ⟨σ103, hs104⟩ : ∃ s9, s9 = va_up σ75 (361) (eJ G 24 (fun _ => 0)) := ⟨_, rfl⟩
  rw [← hs104]
  have mo105 : moN σ σ103 := by rw [hs104]; exact moN_up mo77 _ eJ_ne
  have hf106 : σ103 (362) = fNo := (show σ103 (362) = σ75 (362) by rw [hs104, va_up_ne _ _ (by omega)]).trans hf79
  have hf107 : σ103 (363) = fNo := (show σ103 (363) = σ75 (363) by rw [hs104, va_up_ne _ _ (by omega)]).trans hf80
  have hf108 : σ103 (364) = fNo := (show σ103 (364) = σ75 (364) by rw [hs104, va_up_ne _ _ (by omega)]).trans hf81
  have hf109 : σ103 (365) = fNo := (show σ103 (365) = σ75 (365) by rw [hs104, va_up_ne _ _ (by omega)]).trans hf82
  have hf110 : σ103 (366) = fNo := (show σ103 (366) = σ75 (366) by rw [hs104, va_up_ne _ _ (by omega)]).trans hf83
  have hf111 : σ103 (367) = fNo := (show σ103 (367) = σ75 (367) by rw [hs104, va_up_ne _ _ (by omega)]).trans hf84
  have hf112 : σ103 (368) = fNo := (show σ103 (368) = σ75 (368) by rw [hs104, va_up_ne _ _ (by omega)]).trans hf85
  have hf113 : σ103 (369) = fNo := (show σ103 (369) = σ75 (369) by rw [hs104, va_up_ne _ _ (by omega)]).trans hf86
  have hf114 : σ103 (370) = fNo := (show σ103 (370) = σ75 (370) by rw [hs104, va_up_ne _ _ (by omega)]).trans hf87
  have hf115 : σ103 (371) = fNo := (show σ103 (371) = σ75 (371) by rw [hs104, va_up_ne _ _ (by omega)]).trans hf88
  have hf116 : σ103 (372) = fNo := (show σ103 (372) = σ75 (372) by rw [hs104, va_up_ne _ _ (by omega)]).trans hf89
  have hf117 : σ103 (373) = fNo := (show σ103 (373) = σ75 (373) by rw [hs104, va_up_ne _ _ (by omega)]).trans hf90
  have hf118 : σ103 (374) = fNo := (show σ103 (374) = σ75 (374) by rw [hs104, va_up_ne _ _ (by omega)]).trans hf91
  have hf119 : σ103 (375) = fNo := (show σ103 (375) = σ75 (375) by rw [hs104, va_up_ne _ _ (by omega)]).trans hf92
  have hf120 : σ103 (359) = eJ G 4 (fun _ => 0) := (show σ103 (359) = σ75 (359) by rw [hs104, va_up_ne _ _ (by omega)]).trans hf93
  have hf121 : σ103 (360) = eJ G 96 (fun _ => 0) := (show σ103 (360) = σ75 (360) by rw [hs104, va_up_ne _ _ (by omega)]).trans hf94
  have hf122 : σ103 (358) = eO 9 [.ref (ad1 359), .int (iv (0)), .ref (ad48 360), .null, .int (iv (0)), .int (iv (0)), .int (iv (0)), .int (iv (0)), .long (jv (0)), .long (jv (0)), .int (iv (0)), .int (iv (0)), .int (iv (0)), .long (jv (0)), .long (jv (0)), .int (iv (0)), .null, .null, .null, .null, .null, .null, .null, .null, .null, .null, .int (iv (0)), .null, .null, .null, .null, .int (iv (0)), .int (iv (0))] := (show σ103 (358) = σ75 (358) by rw [hs104, va_up_ne _ _ (by omega)]).trans hf95
  have hf123 : σ103 (361) = eJ G 24 (fun _ => 0) := by rw [hs104, va_up_self]
  refine g_putF (i := 358) (fs' := [.ref (ad1 359), .int (iv (0)), .ref (ad48 360), .ref (ad96 361), .int (iv (0)), .int (iv (0)), .int (iv (0)), .int (iv (0)), .long (jv (0)), .long (jv (0)), .int (iv (0)), .int (iv (0)), .int (iv (0)), .long (jv (0)), .long (jv (0)), .int (iv (0)), .null, .null, .null, .null, .null, .null, .null, .null, .null, .null, .int (iv (0)), .null, .null, .null, .null, .int (iv (0)), .int (iv (0))]) hX hj97 pF_Mo_16 rfl d_Mo_init_24 (by omega) hf122 rfl rfl (Nat.le_of_ble_eq_true rfl) rfl ?_
  obtain ⟨σ124, hs125⟩ : ∃ s9, s9 = va_up σ103 (358) (eO 9 [.ref (ad1 359), .int (iv (0)), .ref (ad48 360), .ref (ad96 361), .int (iv (0)), .int (iv (0)), .int (iv (0)), .int (iv (0)), .long (jv (0)), .long (jv (0)), .int (iv (0)), .int (iv (0)), .int (iv (0)), .long (jv (0)), .long (jv (0)), .int (iv (0)), .null, .null, .null, .null, .null, .null, .null, .null, .null, .null, .int (iv (0)), .null, .null, .null, .null, .int (iv (0)), .int (iv (0))]) := ⟨_, rfl⟩
  rw [← hs125]
  have mo126 : moN σ σ124 := by rw [hs125]; exact moN_up mo105 _ (eO_ne (by decide))
  have hf127 : σ124 (362) = fNo := (show σ124 (362) = σ103 (362) by rw [hs125, va_up_ne _ _ (by omega)]).trans hf106
  have hf128 : σ124 (363) = fNo := (show σ124 (363) = σ103 (363) by rw [hs125, va_up_ne _ _ (by omega)]).trans hf107
  have hf129 : σ124 (364) = fNo := (show σ124 (364) = σ103 (364) by rw [hs125, va_up_ne _ _ (by omega)]).trans hf108
  have hf130 : σ124 (365) = fNo := (show σ124 (365) = σ103 (365) by rw [hs125, va_up_ne _ _ (by omega)]).trans hf109
  have hf131 : σ124 (366) = fNo := (show σ124 (366) = σ103 (366) by rw [hs125, va_up_ne _ _ (by omega)]).trans hf110
  have hf132 : σ124 (367) = fNo := (show σ124 (367) = σ103 (367) by rw [hs125, va_up_ne _ _ (by omega)]).trans hf111
  have hf133 : σ124 (368) = fNo := (show σ124 (368) = σ103 (368) by rw [hs125, va_up_ne _ _ (by omega)]).trans hf112
  have hf134 : σ124 (369) = fNo := (show σ124 (369) = σ103 (369) by rw [hs125, va_up_ne _ _ (by omega)]).trans hf113
  have hf135 : σ124 (370) = fNo := (show σ124 (370) = σ103 (370) by rw [hs125, va_up_ne _ _ (by omega)]).trans hf114
  have hf136 : σ124 (371) = fNo := (show σ124 (371) = σ103 (371) by rw [hs125, va_up_ne _ _ (by omega)]).trans hf115
  have hf137 : σ124 (372) = fNo := (show σ124 (372) = σ103 (372) by rw [hs125, va_up_ne _ _ (by omega)]).trans hf116
  have hf138 : σ124 (373) = fNo := (show σ124 (373) = σ103 (373) by rw [hs125, va_up_ne _ _ (by omega)]).trans hf117
  have hf139 : σ124 (374) = fNo := (show σ124 (374) = σ103 (374) by rw [hs125, va_up_ne _ _ (by omega)]).trans hf118
  have hf140 : σ124 (375) = fNo := (show σ124 (375) = σ103 (375) by rw [hs125, va_up_ne _ _ (by omega)]).trans hf119
  have hf141 : σ124 (359) = eJ G 4 (fun _ => 0) := (show σ124 (359) = σ103 (359) by rw [hs125, va_up_ne _ _ (by omega)]).trans hf120
  have hf142 : σ124 (360) = eJ G 96 (fun _ => 0) := (show σ124 (360) = σ103 (360) by rw [hs125, va_up_ne _ _ (by omega)]).trans hf121
  have hf143 : σ124 (361) = eJ G 24 (fun _ => 0) := (show σ124 (361) = σ103 (361) by rw [hs125, va_up_ne _ _ (by omega)]).trans hf123
  have hf144 : σ124 (358) = eO 9 [.ref (ad1 359), .int (iv (0)), .ref (ad48 360), .ref (ad96 361), .int (iv (0)), .int (iv (0)), .int (iv (0)), .int (iv (0)), .long (jv (0)), .long (jv (0)), .int (iv (0)), .int (iv (0)), .int (iv (0)), .long (jv (0)), .long (jv (0)), .int (iv (0)), .null, .null, .null, .null, .null, .null, .null, .null, .null, .null, .int (iv (0)), .null, .null, .null, .null, .int (iv (0)), .int (iv (0))] := by rw [hs125, va_up_self]
  refine v_aload_n hX d_Mo_init_27 0 rfl ?_
  refine v_iconst hX (3) d_Mo_init_28 ?_
  refine g_put (i := 358) (fs' := [.ref (ad1 359), .int (iv (0)), .ref (ad48 360), .ref (ad96 361), .int (iv (3)), .int (iv (0)), .int (iv (0)), .int (iv (0)), .long (jv (0)), .long (jv (0)), .int (iv (0)), .int (iv (0)), .int (iv (0)), .long (jv (0)), .long (jv (0)), .int (iv (0)), .null, .null, .null, .null, .null, .null, .null, .null, .null, .null, .int (iv (0)), .null, .null, .null, .null, .int (iv (0)), .int (iv (0))]) hX hj97 pf_Mo_19 d_Mo_init_29 (by omega) hf144 rfl rfl (Nat.le_of_ble_eq_true rfl) rfl ?_
  obtain ⟨σ145, hs146⟩ : ∃ s9, s9 = va_up σ124 (358) (eO 9 [.ref (ad1 359), .int (iv (0)), .ref (ad48 360), .ref (ad96 361), .int (iv (3)), .int (iv (0)), .int (iv (0)), .int (iv (0)), .long (jv (0)), .long (jv (0)), .int (iv (0)), .int (iv (0)), .int (iv (0)), .long (jv (0)), .long (jv (0)), .int (iv (0)), .null, .null, .null, .null, .null, .null, .null, .null, .null, .null, .int (iv (0)), .null, .null, .null, .null, .int (iv (0)), .int (iv (0))]) := ⟨_, rfl⟩
  rw [← hs146]
  have mo147 : moN σ σ145 := by rw [hs146]; exact moN_up mo126 _ (eO_ne (by decide))
  have hf148 : σ145 (362) = fNo := (show σ145 (362) = σ124 (362) by rw [hs146, va_up_ne _ _ (by omega)]).trans hf127
  have hf149 : σ145 (363) = fNo := (show σ145 (363) = σ124 (363) by rw [hs146, va_up_ne _ _ (by omega)]).trans hf128
  have hf150 : σ145 (364) = fNo := (show σ145 (364) = σ124 (364) by rw [hs146, va_up_ne _ _ (by omega)]).trans hf129
  have hf151 : σ145 (365) = fNo := (show σ145 (365) = σ124 (365) by rw [hs146, va_up_ne _ _ (by omega)]).trans hf130
  have hf152 : σ145 (366) = fNo := (show σ145 (366) = σ124 (366) by rw [hs146, va_up_ne _ _ (by omega)]).trans hf131
  have hf153 : σ145 (367) = fNo := (show σ145 (367) = σ124 (367) by rw [hs146, va_up_ne _ _ (by omega)]).trans hf132
  have hf154 : σ145 (368) = fNo := (show σ145 (368) = σ124 (368) by rw [hs146, va_up_ne _ _ (by omega)]).trans hf133
  have hf155 : σ145 (369) = fNo := (show σ145 (369) = σ124 (369) by rw [hs146, va_up_ne _ _ (by omega)]).trans hf134
  have hf156 : σ145 (370) = fNo := (show σ145 (370) = σ124 (370) by rw [hs146, va_up_ne _ _ (by omega)]).trans hf135
  have hf157 : σ145 (371) = fNo := (show σ145 (371) = σ124 (371) by rw [hs146, va_up_ne _ _ (by omega)]).trans hf136
  have hf158 : σ145 (372) = fNo := (show σ145 (372) = σ124 (372) by rw [hs146, va_up_ne _ _ (by omega)]).trans hf137
  have hf159 : σ145 (373) = fNo := (show σ145 (373) = σ124 (373) by rw [hs146, va_up_ne _ _ (by omega)]).trans hf138
  have hf160 : σ145 (374) = fNo := (show σ145 (374) = σ124 (374) by rw [hs146, va_up_ne _ _ (by omega)]).trans hf139
  have hf161 : σ145 (375) = fNo := (show σ145 (375) = σ124 (375) by rw [hs146, va_up_ne _ _ (by omega)]).trans hf140
  have hf162 : σ145 (359) = eJ G 4 (fun _ => 0) := (show σ145 (359) = σ124 (359) by rw [hs146, va_up_ne _ _ (by omega)]).trans hf141
  have hf163 : σ145 (360) = eJ G 96 (fun _ => 0) := (show σ145 (360) = σ124 (360) by rw [hs146, va_up_ne _ _ (by omega)]).trans hf142
  have hf164 : σ145 (361) = eJ G 24 (fun _ => 0) := (show σ145 (361) = σ124 (361) by rw [hs146, va_up_ne _ _ (by omega)]).trans hf143
  have hf165 : σ145 (358) = eO 9 [.ref (ad1 359), .int (iv (0)), .ref (ad48 360), .ref (ad96 361), .int (iv (3)), .int (iv (0)), .int (iv (0)), .int (iv (0)), .long (jv (0)), .long (jv (0)), .int (iv (0)), .int (iv (0)), .int (iv (0)), .long (jv (0)), .long (jv (0)), .int (iv (0)), .null, .null, .null, .null, .null, .null, .null, .null, .null, .null, .int (iv (0)), .null, .null, .null, .null, .int (iv (0)), .int (iv (0))] := by rw [hs146, va_up_self]
  refine v_aload_n hX d_Mo_init_32 0 rfl ?_
  refine v_iconst hX (1) d_Mo_init_33 ?_
  refine g_put (i := 358) (fs' := [.ref (ad1 359), .int (iv (0)), .ref (ad48 360), .ref (ad96 361), .int (iv (3)), .int (iv (1)), .int (iv (0)), .int (iv (0)), .long (jv (0)), .long (jv (0)), .int (iv (0)), .int (iv (0)), .int (iv (0)), .long (jv (0)), .long (jv (0)), .int (iv (0)), .null, .null, .null, .null, .null, .null, .null, .null, .null, .null, .int (iv (0)), .null, .null, .null, .null, .int (iv (0)), .int (iv (0))]) hX hj97 pf_Mo_23 d_Mo_init_34 (by omega) hf165 rfl rfl (Nat.le_of_ble_eq_true rfl) rfl ?_
  obtain ⟨σ166, hs167⟩ : ∃ s9, s9 = va_up σ145 (358) (eO 9 [.ref (ad1 359), .int (iv (0)), .ref (ad48 360), .ref (ad96 361), .int (iv (3)), .int (iv (1)), .int (iv (0)), .int (iv (0)), .long (jv (0)), .long (jv (0)), .int (iv (0)), .int (iv (0)), .int (iv (0)), .long (jv (0)), .long (jv (0)), .int (iv (0)), .null, .null, .null, .null, .null, .null, .null, .null, .null, .null, .int (iv (0)), .null, .null, .null, .null, .int (iv (0)), .int (iv (0))]) := ⟨_, rfl⟩
  rw [← hs167]
  have mo168 : moN σ σ166 := by rw [hs167]; exact moN_up mo147 _ (eO_ne (by decide))
  have hf169 : σ166 (362) = fNo := (show σ166 (362) = σ145 (362) by rw [hs167, va_up_ne _ _ (by omega)]).trans hf148
  have hf170 : σ166 (363) = fNo := (show σ166 (363) = σ145 (363) by rw [hs167, va_up_ne _ _ (by omega)]).trans hf149
  have hf171 : σ166 (364) = fNo := (show σ166 (364) = σ145 (364) by rw [hs167, va_up_ne _ _ (by omega)]).trans hf150
  have hf172 : σ166 (365) = fNo := (show σ166 (365) = σ145 (365) by rw [hs167, va_up_ne _ _ (by omega)]).trans hf151
  have hf173 : σ166 (366) = fNo := (show σ166 (366) = σ145 (366) by rw [hs167, va_up_ne _ _ (by omega)]).trans hf152
  have hf174 : σ166 (367) = fNo := (show σ166 (367) = σ145 (367) by rw [hs167, va_up_ne _ _ (by omega)]).trans hf153
  have hf175 : σ166 (368) = fNo := (show σ166 (368) = σ145 (368) by rw [hs167, va_up_ne _ _ (by omega)]).trans hf154
  have hf176 : σ166 (369) = fNo := (show σ166 (369) = σ145 (369) by rw [hs167, va_up_ne _ _ (by omega)]).trans hf155
  have hf177 : σ166 (370) = fNo := (show σ166 (370) = σ145 (370) by rw [hs167, va_up_ne _ _ (by omega)]).trans hf156
  have hf178 : σ166 (371) = fNo := (show σ166 (371) = σ145 (371) by rw [hs167, va_up_ne _ _ (by omega)]).trans hf157
  have hf179 : σ166 (372) = fNo := (show σ166 (372) = σ145 (372) by rw [hs167, va_up_ne _ _ (by omega)]).trans hf158
  have hf180 : σ166 (373) = fNo := (show σ166 (373) = σ145 (373) by rw [hs167, va_up_ne _ _ (by omega)]).trans hf159
  have hf181 : σ166 (374) = fNo := (show σ166 (374) = σ145 (374) by rw [hs167, va_up_ne _ _ (by omega)]).trans hf160
  have hf182 : σ166 (375) = fNo := (show σ166 (375) = σ145 (375) by rw [hs167, va_up_ne _ _ (by omega)]).trans hf161
  have hf183 : σ166 (359) = eJ G 4 (fun _ => 0) := (show σ166 (359) = σ145 (359) by rw [hs167, va_up_ne _ _ (by omega)]).trans hf162
  have hf184 : σ166 (360) = eJ G 96 (fun _ => 0) := (show σ166 (360) = σ145 (360) by rw [hs167, va_up_ne _ _ (by omega)]).trans hf163
  have hf185 : σ166 (361) = eJ G 24 (fun _ => 0) := (show σ166 (361) = σ145 (361) by rw [hs167, va_up_ne _ _ (by omega)]).trans hf164
  have hf186 : σ166 (358) = eO 9 [.ref (ad1 359), .int (iv (0)), .ref (ad48 360), .ref (ad96 361), .int (iv (3)), .int (iv (1)), .int (iv (0)), .int (iv (0)), .long (jv (0)), .long (jv (0)), .int (iv (0)), .int (iv (0)), .int (iv (0)), .long (jv (0)), .long (jv (0)), .int (iv (0)), .null, .null, .null, .null, .null, .null, .null, .null, .null, .null, .int (iv (0)), .null, .null, .null, .null, .int (iv (0)), .int (iv (0))] := by rw [hs167, va_up_self]
  refine v_aload_n hX d_Mo_init_37 0 rfl ?_
  refine v_bipush hX (64) d_Mo_init_38 rfl ?_
  refine g_newJ hX hj97 (g := 362) (by omega) hf169 64 (mT 97 (by decide +kernel) rfl) d_Mo_init_40 rfl (by decide) ⟨by decide, by decide⟩ (fun ad187 hj188 hx189 => ?_)
  have ex190 : exA σ ad ad187 := exA_tr ex99 mo168 hx189
  have e191 : ad187 358 = ad96 358 := hx189 358 (by omega) (by rw [hf186]; exact eO_ne (by decide))
  rw [← e191]
  have t192 : ad187 359 = ad1 359 := (hx189 359 (by omega) (by rw [hf183]; exact eJ_ne)).trans t101
  have t193 : ad187 360 = ad48 360 := (hx189 360 (by omega) (by rw [hf184]; exact eJ_ne)).trans t102
  have t194 : ad187 361 = ad96 361 := (hx189 361 (by omega) (by rw [hf185]; exact eJ_ne))
  obtain ⟨σ195, hs196⟩ : ∃ s9, s9 = va_up σ166 (362) (eJ G 64 (fun _ => 0)) := ⟨_, rfl⟩
  rw [← hs196]
  have mo197 : moN σ σ195 := by rw [hs196]; exact moN_up mo168 _ eJ_ne
  have hf198 : σ195 (363) = fNo := (show σ195 (363) = σ166 (363) by rw [hs196, va_up_ne _ _ (by omega)]).trans hf170
  have hf199 : σ195 (364) = fNo := (show σ195 (364) = σ166 (364) by rw [hs196, va_up_ne _ _ (by omega)]).trans hf171
  have hf200 : σ195 (365) = fNo := (show σ195 (365) = σ166 (365) by rw [hs196, va_up_ne _ _ (by omega)]).trans hf172
  have hf201 : σ195 (366) = fNo := (show σ195 (366) = σ166 (366) by rw [hs196, va_up_ne _ _ (by omega)]).trans hf173
  have hf202 : σ195 (367) = fNo := (show σ195 (367) = σ166 (367) by rw [hs196, va_up_ne _ _ (by omega)]).trans hf174
  have hf203 : σ195 (368) = fNo := (show σ195 (368) = σ166 (368) by rw [hs196, va_up_ne _ _ (by omega)]).trans hf175
  have hf204 : σ195 (369) = fNo := (show σ195 (369) = σ166 (369) by rw [hs196, va_up_ne _ _ (by omega)]).trans hf176
  have hf205 : σ195 (370) = fNo := (show σ195 (370) = σ166 (370) by rw [hs196, va_up_ne _ _ (by omega)]).trans hf177
  have hf206 : σ195 (371) = fNo := (show σ195 (371) = σ166 (371) by rw [hs196, va_up_ne _ _ (by omega)]).trans hf178
  have hf207 : σ195 (372) = fNo := (show σ195 (372) = σ166 (372) by rw [hs196, va_up_ne _ _ (by omega)]).trans hf179
  have hf208 : σ195 (373) = fNo := (show σ195 (373) = σ166 (373) by rw [hs196, va_up_ne _ _ (by omega)]).trans hf180
  have hf209 : σ195 (374) = fNo := (show σ195 (374) = σ166 (374) by rw [hs196, va_up_ne _ _ (by omega)]).trans hf181
  have hf210 : σ195 (375) = fNo := (show σ195 (375) = σ166 (375) by rw [hs196, va_up_ne _ _ (by omega)]).trans hf182
  have hf211 : σ195 (359) = eJ G 4 (fun _ => 0) := (show σ195 (359) = σ166 (359) by rw [hs196, va_up_ne _ _ (by omega)]).trans hf183
  have hf212 : σ195 (360) = eJ G 96 (fun _ => 0) := (show σ195 (360) = σ166 (360) by rw [hs196, va_up_ne _ _ (by omega)]).trans hf184
  have hf213 : σ195 (361) = eJ G 24 (fun _ => 0) := (show σ195 (361) = σ166 (361) by rw [hs196, va_up_ne _ _ (by omega)]).trans hf185
  have hf214 : σ195 (358) = eO 9 [.ref (ad1 359), .int (iv (0)), .ref (ad48 360), .ref (ad96 361), .int (iv (3)), .int (iv (1)), .int (iv (0)), .int (iv (0)), .long (jv (0)), .long (jv (0)), .int (iv (0)), .int (iv (0)), .int (iv (0)), .long (jv (0)), .long (jv (0)), .int (iv (0)), .null, .null, .null, .null, .null, .null, .null, .null, .null, .null, .int (iv (0)), .null, .null, .null, .null, .int (iv (0)), .int (iv (0))] := (show σ195 (358) = σ166 (358) by rw [hs196, va_up_ne _ _ (by omega)]).trans hf186
  have hf215 : σ195 (362) = eJ G 64 (fun _ => 0) := by rw [hs196, va_up_self]
  refine g_putF (i := 358) (fs' := [.ref (ad1 359), .int (iv (0)), .ref (ad48 360), .ref (ad96 361), .int (iv (3)), .int (iv (1)), .int (iv (0)), .int (iv (0)), .long (jv (0)), .long (jv (0)), .int (iv (0)), .int (iv (0)), .int (iv (0)), .long (jv (0)), .long (jv (0)), .int (iv (0)), .ref (ad187 362), .null, .null, .null, .null, .null, .null, .null, .null, .null, .int (iv (0)), .null, .null, .null, .null, .int (iv (0)), .int (iv (0))]) hX hj188 pF_Mo_26 rfl d_Mo_init_42 (by omega) hf214 rfl rfl (Nat.le_of_ble_eq_true rfl) rfl ?_
  obtain ⟨σ216, hs217⟩ : ∃ s9, s9 = va_up σ195 (358) (eO 9 [.ref (ad1 359), .int (iv (0)), .ref (ad48 360), .ref (ad96 361), .int (iv (3)), .int (iv (1)), .int (iv (0)), .int (iv (0)), .long (jv (0)), .long (jv (0)), .int (iv (0)), .int (iv (0)), .int (iv (0)), .long (jv (0)), .long (jv (0)), .int (iv (0)), .ref (ad187 362), .null, .null, .null, .null, .null, .null, .null, .null, .null, .int (iv (0)), .null, .null, .null, .null, .int (iv (0)), .int (iv (0))]) := ⟨_, rfl⟩
  rw [← hs217]
  have mo218 : moN σ σ216 := by rw [hs217]; exact moN_up mo197 _ (eO_ne (by decide))
  have hf219 : σ216 (363) = fNo := (show σ216 (363) = σ195 (363) by rw [hs217, va_up_ne _ _ (by omega)]).trans hf198
  have hf220 : σ216 (364) = fNo := (show σ216 (364) = σ195 (364) by rw [hs217, va_up_ne _ _ (by omega)]).trans hf199
  have hf221 : σ216 (365) = fNo := (show σ216 (365) = σ195 (365) by rw [hs217, va_up_ne _ _ (by omega)]).trans hf200
  have hf222 : σ216 (366) = fNo := (show σ216 (366) = σ195 (366) by rw [hs217, va_up_ne _ _ (by omega)]).trans hf201
  have hf223 : σ216 (367) = fNo := (show σ216 (367) = σ195 (367) by rw [hs217, va_up_ne _ _ (by omega)]).trans hf202
  have hf224 : σ216 (368) = fNo := (show σ216 (368) = σ195 (368) by rw [hs217, va_up_ne _ _ (by omega)]).trans hf203
  have hf225 : σ216 (369) = fNo := (show σ216 (369) = σ195 (369) by rw [hs217, va_up_ne _ _ (by omega)]).trans hf204
  have hf226 : σ216 (370) = fNo := (show σ216 (370) = σ195 (370) by rw [hs217, va_up_ne _ _ (by omega)]).trans hf205
  have hf227 : σ216 (371) = fNo := (show σ216 (371) = σ195 (371) by rw [hs217, va_up_ne _ _ (by omega)]).trans hf206
  have hf228 : σ216 (372) = fNo := (show σ216 (372) = σ195 (372) by rw [hs217, va_up_ne _ _ (by omega)]).trans hf207
  have hf229 : σ216 (373) = fNo := (show σ216 (373) = σ195 (373) by rw [hs217, va_up_ne _ _ (by omega)]).trans hf208
  have hf230 : σ216 (374) = fNo := (show σ216 (374) = σ195 (374) by rw [hs217, va_up_ne _ _ (by omega)]).trans hf209
  have hf231 : σ216 (375) = fNo := (show σ216 (375) = σ195 (375) by rw [hs217, va_up_ne _ _ (by omega)]).trans hf210
  have hf232 : σ216 (359) = eJ G 4 (fun _ => 0) := (show σ216 (359) = σ195 (359) by rw [hs217, va_up_ne _ _ (by omega)]).trans hf211
  have hf233 : σ216 (360) = eJ G 96 (fun _ => 0) := (show σ216 (360) = σ195 (360) by rw [hs217, va_up_ne _ _ (by omega)]).trans hf212
  have hf234 : σ216 (361) = eJ G 24 (fun _ => 0) := (show σ216 (361) = σ195 (361) by rw [hs217, va_up_ne _ _ (by omega)]).trans hf213
  have hf235 : σ216 (362) = eJ G 64 (fun _ => 0) := (show σ216 (362) = σ195 (362) by rw [hs217, va_up_ne _ _ (by omega)]).trans hf215
  have hf236 : σ216 (358) = eO 9 [.ref (ad1 359), .int (iv (0)), .ref (ad48 360), .ref (ad96 361), .int (iv (3)), .int (iv (1)), .int (iv (0)), .int (iv (0)), .long (jv (0)), .long (jv (0)), .int (iv (0)), .int (iv (0)), .int (iv (0)), .long (jv (0)), .long (jv (0)), .int (iv (0)), .ref (ad187 362), .null, .null, .null, .null, .null, .null, .null, .null, .null, .int (iv (0)), .null, .null, .null, .null, .int (iv (0)), .int (iv (0))] := by rw [hs217, va_up_self]
  refine v_aload_n hX d_Mo_init_45 0 rfl ?_
  refine v_bipush hX (64) d_Mo_init_46 rfl ?_
  refine g_newJ hX hj188 (g := 363) (by omega) hf219 64 (mT 97 (by decide +kernel) rfl) d_Mo_init_48 rfl (by decide) ⟨by decide, by decide⟩ (fun ad237 hj238 hx239 => ?_)
  have ex240 : exA σ ad ad237 := exA_tr ex190 mo218 hx239
  have e241 : ad237 358 = ad187 358 := hx239 358 (by omega) (by rw [hf236]; exact eO_ne (by decide))
  rw [← e241]
  have t242 : ad237 359 = ad1 359 := (hx239 359 (by omega) (by rw [hf232]; exact eJ_ne)).trans t192
  have t243 : ad237 360 = ad48 360 := (hx239 360 (by omega) (by rw [hf233]; exact eJ_ne)).trans t193
  have t244 : ad237 361 = ad96 361 := (hx239 361 (by omega) (by rw [hf234]; exact eJ_ne)).trans t194
  have t245 : ad237 362 = ad187 362 := (hx239 362 (by omega) (by rw [hf235]; exact eJ_ne))
  obtain ⟨σ246, hs247⟩ : ∃ s9, s9 = va_up σ216 (363) (eJ G 64 (fun _ => 0)) := ⟨_, rfl⟩
  rw [← hs247]
  have mo248 : moN σ σ246 := by rw [hs247]; exact moN_up mo218 _ eJ_ne
  have hf249 : σ246 (364) = fNo := (show σ246 (364) = σ216 (364) by rw [hs247, va_up_ne _ _ (by omega)]).trans hf220
  have hf250 : σ246 (365) = fNo := (show σ246 (365) = σ216 (365) by rw [hs247, va_up_ne _ _ (by omega)]).trans hf221
  have hf251 : σ246 (366) = fNo := (show σ246 (366) = σ216 (366) by rw [hs247, va_up_ne _ _ (by omega)]).trans hf222
  have hf252 : σ246 (367) = fNo := (show σ246 (367) = σ216 (367) by rw [hs247, va_up_ne _ _ (by omega)]).trans hf223
  have hf253 : σ246 (368) = fNo := (show σ246 (368) = σ216 (368) by rw [hs247, va_up_ne _ _ (by omega)]).trans hf224
  have hf254 : σ246 (369) = fNo := (show σ246 (369) = σ216 (369) by rw [hs247, va_up_ne _ _ (by omega)]).trans hf225
  have hf255 : σ246 (370) = fNo := (show σ246 (370) = σ216 (370) by rw [hs247, va_up_ne _ _ (by omega)]).trans hf226
  have hf256 : σ246 (371) = fNo := (show σ246 (371) = σ216 (371) by rw [hs247, va_up_ne _ _ (by omega)]).trans hf227
  have hf257 : σ246 (372) = fNo := (show σ246 (372) = σ216 (372) by rw [hs247, va_up_ne _ _ (by omega)]).trans hf228
  have hf258 : σ246 (373) = fNo := (show σ246 (373) = σ216 (373) by rw [hs247, va_up_ne _ _ (by omega)]).trans hf229
  have hf259 : σ246 (374) = fNo := (show σ246 (374) = σ216 (374) by rw [hs247, va_up_ne _ _ (by omega)]).trans hf230
  have hf260 : σ246 (375) = fNo := (show σ246 (375) = σ216 (375) by rw [hs247, va_up_ne _ _ (by omega)]).trans hf231
  have hf261 : σ246 (359) = eJ G 4 (fun _ => 0) := (show σ246 (359) = σ216 (359) by rw [hs247, va_up_ne _ _ (by omega)]).trans hf232
  have hf262 : σ246 (360) = eJ G 96 (fun _ => 0) := (show σ246 (360) = σ216 (360) by rw [hs247, va_up_ne _ _ (by omega)]).trans hf233
  have hf263 : σ246 (361) = eJ G 24 (fun _ => 0) := (show σ246 (361) = σ216 (361) by rw [hs247, va_up_ne _ _ (by omega)]).trans hf234
  have hf264 : σ246 (362) = eJ G 64 (fun _ => 0) := (show σ246 (362) = σ216 (362) by rw [hs247, va_up_ne _ _ (by omega)]).trans hf235
  have hf265 : σ246 (358) = eO 9 [.ref (ad1 359), .int (iv (0)), .ref (ad48 360), .ref (ad96 361), .int (iv (3)), .int (iv (1)), .int (iv (0)), .int (iv (0)), .long (jv (0)), .long (jv (0)), .int (iv (0)), .int (iv (0)), .int (iv (0)), .long (jv (0)), .long (jv (0)), .int (iv (0)), .ref (ad187 362), .null, .null, .null, .null, .null, .null, .null, .null, .null, .int (iv (0)), .null, .null, .null, .null, .int (iv (0)), .int (iv (0))] := (show σ246 (358) = σ216 (358) by rw [hs247, va_up_ne _ _ (by omega)]).trans hf236
  have hf266 : σ246 (363) = eJ G 64 (fun _ => 0) := by rw [hs247, va_up_self]
  refine g_putF (i := 358) (fs' := [.ref (ad1 359), .int (iv (0)), .ref (ad48 360), .ref (ad96 361), .int (iv (3)), .int (iv (1)), .int (iv (0)), .int (iv (0)), .long (jv (0)), .long (jv (0)), .int (iv (0)), .int (iv (0)), .int (iv (0)), .long (jv (0)), .long (jv (0)), .int (iv (0)), .ref (ad187 362), .ref (ad237 363), .null, .null, .null, .null, .null, .null, .null, .null, .int (iv (0)), .null, .null, .null, .null, .int (iv (0)), .int (iv (0))]) hX hj238 pF_Mo_29 rfl d_Mo_init_50 (by omega) hf265 rfl rfl (Nat.le_of_ble_eq_true rfl) rfl ?_
  obtain ⟨σ267, hs268⟩ : ∃ s9, s9 = va_up σ246 (358) (eO 9 [.ref (ad1 359), .int (iv (0)), .ref (ad48 360), .ref (ad96 361), .int (iv (3)), .int (iv (1)), .int (iv (0)), .int (iv (0)), .long (jv (0)), .long (jv (0)), .int (iv (0)), .int (iv (0)), .int (iv (0)), .long (jv (0)), .long (jv (0)), .int (iv (0)), .ref (ad187 362), .ref (ad237 363), .null, .null, .null, .null, .null, .null, .null, .null, .int (iv (0)), .null, .null, .null, .null, .int (iv (0)), .int (iv (0))]) := ⟨_, rfl⟩
  rw [← hs268]
  have mo269 : moN σ σ267 := by rw [hs268]; exact moN_up mo248 _ (eO_ne (by decide))
  have hf270 : σ267 (364) = fNo := (show σ267 (364) = σ246 (364) by rw [hs268, va_up_ne _ _ (by omega)]).trans hf249
  have hf271 : σ267 (365) = fNo := (show σ267 (365) = σ246 (365) by rw [hs268, va_up_ne _ _ (by omega)]).trans hf250
  have hf272 : σ267 (366) = fNo := (show σ267 (366) = σ246 (366) by rw [hs268, va_up_ne _ _ (by omega)]).trans hf251
  have hf273 : σ267 (367) = fNo := (show σ267 (367) = σ246 (367) by rw [hs268, va_up_ne _ _ (by omega)]).trans hf252
  have hf274 : σ267 (368) = fNo := (show σ267 (368) = σ246 (368) by rw [hs268, va_up_ne _ _ (by omega)]).trans hf253
  have hf275 : σ267 (369) = fNo := (show σ267 (369) = σ246 (369) by rw [hs268, va_up_ne _ _ (by omega)]).trans hf254
  have hf276 : σ267 (370) = fNo := (show σ267 (370) = σ246 (370) by rw [hs268, va_up_ne _ _ (by omega)]).trans hf255
  have hf277 : σ267 (371) = fNo := (show σ267 (371) = σ246 (371) by rw [hs268, va_up_ne _ _ (by omega)]).trans hf256
  have hf278 : σ267 (372) = fNo := (show σ267 (372) = σ246 (372) by rw [hs268, va_up_ne _ _ (by omega)]).trans hf257
  have hf279 : σ267 (373) = fNo := (show σ267 (373) = σ246 (373) by rw [hs268, va_up_ne _ _ (by omega)]).trans hf258
  have hf280 : σ267 (374) = fNo := (show σ267 (374) = σ246 (374) by rw [hs268, va_up_ne _ _ (by omega)]).trans hf259
  have hf281 : σ267 (375) = fNo := (show σ267 (375) = σ246 (375) by rw [hs268, va_up_ne _ _ (by omega)]).trans hf260
  have hf282 : σ267 (359) = eJ G 4 (fun _ => 0) := (show σ267 (359) = σ246 (359) by rw [hs268, va_up_ne _ _ (by omega)]).trans hf261
  have hf283 : σ267 (360) = eJ G 96 (fun _ => 0) := (show σ267 (360) = σ246 (360) by rw [hs268, va_up_ne _ _ (by omega)]).trans hf262
  have hf284 : σ267 (361) = eJ G 24 (fun _ => 0) := (show σ267 (361) = σ246 (361) by rw [hs268, va_up_ne _ _ (by omega)]).trans hf263
  have hf285 : σ267 (362) = eJ G 64 (fun _ => 0) := (show σ267 (362) = σ246 (362) by rw [hs268, va_up_ne _ _ (by omega)]).trans hf264
  have hf286 : σ267 (363) = eJ G 64 (fun _ => 0) := (show σ267 (363) = σ246 (363) by rw [hs268, va_up_ne _ _ (by omega)]).trans hf266
  have hf287 : σ267 (358) = eO 9 [.ref (ad1 359), .int (iv (0)), .ref (ad48 360), .ref (ad96 361), .int (iv (3)), .int (iv (1)), .int (iv (0)), .int (iv (0)), .long (jv (0)), .long (jv (0)), .int (iv (0)), .int (iv (0)), .int (iv (0)), .long (jv (0)), .long (jv (0)), .int (iv (0)), .ref (ad187 362), .ref (ad237 363), .null, .null, .null, .null, .null, .null, .null, .null, .int (iv (0)), .null, .null, .null, .null, .int (iv (0)), .int (iv (0))] := by rw [hs268, va_up_self]
  refine v_aload_n hX d_Mo_init_53 0 rfl ?_
  refine v_bipush hX (64) d_Mo_init_54 rfl ?_
  refine g_newJ hX hj238 (g := 364) (by omega) hf270 64 (mT 97 (by decide +kernel) rfl) d_Mo_init_56 rfl (by decide) ⟨by decide, by decide⟩ (fun ad288 hj289 hx290 => ?_)
  have ex291 : exA σ ad ad288 := exA_tr ex240 mo269 hx290
  have e292 : ad288 358 = ad237 358 := hx290 358 (by omega) (by rw [hf287]; exact eO_ne (by decide))
  rw [← e292]
  have t293 : ad288 359 = ad1 359 := (hx290 359 (by omega) (by rw [hf282]; exact eJ_ne)).trans t242
  have t294 : ad288 360 = ad48 360 := (hx290 360 (by omega) (by rw [hf283]; exact eJ_ne)).trans t243
  have t295 : ad288 361 = ad96 361 := (hx290 361 (by omega) (by rw [hf284]; exact eJ_ne)).trans t244
  have t296 : ad288 362 = ad187 362 := (hx290 362 (by omega) (by rw [hf285]; exact eJ_ne)).trans t245
  have t297 : ad288 363 = ad237 363 := (hx290 363 (by omega) (by rw [hf286]; exact eJ_ne))
  obtain ⟨σ298, hs299⟩ : ∃ s9, s9 = va_up σ267 (364) (eJ G 64 (fun _ => 0)) := ⟨_, rfl⟩
  rw [← hs299]
  have mo300 : moN σ σ298 := by rw [hs299]; exact moN_up mo269 _ eJ_ne
  have hf301 : σ298 (365) = fNo := (show σ298 (365) = σ267 (365) by rw [hs299, va_up_ne _ _ (by omega)]).trans hf271
  have hf302 : σ298 (366) = fNo := (show σ298 (366) = σ267 (366) by rw [hs299, va_up_ne _ _ (by omega)]).trans hf272
  have hf303 : σ298 (367) = fNo := (show σ298 (367) = σ267 (367) by rw [hs299, va_up_ne _ _ (by omega)]).trans hf273
  have hf304 : σ298 (368) = fNo := (show σ298 (368) = σ267 (368) by rw [hs299, va_up_ne _ _ (by omega)]).trans hf274
  have hf305 : σ298 (369) = fNo := (show σ298 (369) = σ267 (369) by rw [hs299, va_up_ne _ _ (by omega)]).trans hf275
  have hf306 : σ298 (370) = fNo := (show σ298 (370) = σ267 (370) by rw [hs299, va_up_ne _ _ (by omega)]).trans hf276
  have hf307 : σ298 (371) = fNo := (show σ298 (371) = σ267 (371) by rw [hs299, va_up_ne _ _ (by omega)]).trans hf277
  have hf308 : σ298 (372) = fNo := (show σ298 (372) = σ267 (372) by rw [hs299, va_up_ne _ _ (by omega)]).trans hf278
  have hf309 : σ298 (373) = fNo := (show σ298 (373) = σ267 (373) by rw [hs299, va_up_ne _ _ (by omega)]).trans hf279
  have hf310 : σ298 (374) = fNo := (show σ298 (374) = σ267 (374) by rw [hs299, va_up_ne _ _ (by omega)]).trans hf280
  have hf311 : σ298 (375) = fNo := (show σ298 (375) = σ267 (375) by rw [hs299, va_up_ne _ _ (by omega)]).trans hf281
  have hf312 : σ298 (359) = eJ G 4 (fun _ => 0) := (show σ298 (359) = σ267 (359) by rw [hs299, va_up_ne _ _ (by omega)]).trans hf282
  have hf313 : σ298 (360) = eJ G 96 (fun _ => 0) := (show σ298 (360) = σ267 (360) by rw [hs299, va_up_ne _ _ (by omega)]).trans hf283
  have hf314 : σ298 (361) = eJ G 24 (fun _ => 0) := (show σ298 (361) = σ267 (361) by rw [hs299, va_up_ne _ _ (by omega)]).trans hf284
  have hf315 : σ298 (362) = eJ G 64 (fun _ => 0) := (show σ298 (362) = σ267 (362) by rw [hs299, va_up_ne _ _ (by omega)]).trans hf285
  have hf316 : σ298 (363) = eJ G 64 (fun _ => 0) := (show σ298 (363) = σ267 (363) by rw [hs299, va_up_ne _ _ (by omega)]).trans hf286
  have hf317 : σ298 (358) = eO 9 [.ref (ad1 359), .int (iv (0)), .ref (ad48 360), .ref (ad96 361), .int (iv (3)), .int (iv (1)), .int (iv (0)), .int (iv (0)), .long (jv (0)), .long (jv (0)), .int (iv (0)), .int (iv (0)), .int (iv (0)), .long (jv (0)), .long (jv (0)), .int (iv (0)), .ref (ad187 362), .ref (ad237 363), .null, .null, .null, .null, .null, .null, .null, .null, .int (iv (0)), .null, .null, .null, .null, .int (iv (0)), .int (iv (0))] := (show σ298 (358) = σ267 (358) by rw [hs299, va_up_ne _ _ (by omega)]).trans hf287
  have hf318 : σ298 (364) = eJ G 64 (fun _ => 0) := by rw [hs299, va_up_self]
  refine g_putF (i := 358) (fs' := [.ref (ad1 359), .int (iv (0)), .ref (ad48 360), .ref (ad96 361), .int (iv (3)), .int (iv (1)), .int (iv (0)), .int (iv (0)), .long (jv (0)), .long (jv (0)), .int (iv (0)), .int (iv (0)), .int (iv (0)), .long (jv (0)), .long (jv (0)), .int (iv (0)), .ref (ad187 362), .ref (ad237 363), .ref (ad288 364), .null, .null, .null, .null, .null, .null, .null, .int (iv (0)), .null, .null, .null, .null, .int (iv (0)), .int (iv (0))]) hX hj289 pF_Mo_32 rfl d_Mo_init_58 (by omega) hf317 rfl rfl (Nat.le_of_ble_eq_true rfl) rfl ?_
  obtain ⟨σ319, hs320⟩ : ∃ s9, s9 = va_up σ298 (358) (eO 9 [.ref (ad1 359), .int (iv (0)), .ref (ad48 360), .ref (ad96 361), .int (iv (3)), .int (iv (1)), .int (iv (0)), .int (iv (0)), .long (jv (0)), .long (jv (0)), .int (iv (0)), .int (iv (0)), .int (iv (0)), .long (jv (0)), .long (jv (0)), .int (iv (0)), .ref (ad187 362), .ref (ad237 363), .ref (ad288 364), .null, .null, .null, .null, .null, .null, .null, .int (iv (0)), .null, .null, .null, .null, .int (iv (0)), .int (iv (0))]) := ⟨_, rfl⟩
  rw [← hs320]
  have mo321 : moN σ σ319 := by rw [hs320]; exact moN_up mo300 _ (eO_ne (by decide))
  have hf322 : σ319 (365) = fNo := (show σ319 (365) = σ298 (365) by rw [hs320, va_up_ne _ _ (by omega)]).trans hf301
  have hf323 : σ319 (366) = fNo := (show σ319 (366) = σ298 (366) by rw [hs320, va_up_ne _ _ (by omega)]).trans hf302
  have hf324 : σ319 (367) = fNo := (show σ319 (367) = σ298 (367) by rw [hs320, va_up_ne _ _ (by omega)]).trans hf303
  have hf325 : σ319 (368) = fNo := (show σ319 (368) = σ298 (368) by rw [hs320, va_up_ne _ _ (by omega)]).trans hf304
  have hf326 : σ319 (369) = fNo := (show σ319 (369) = σ298 (369) by rw [hs320, va_up_ne _ _ (by omega)]).trans hf305
  have hf327 : σ319 (370) = fNo := (show σ319 (370) = σ298 (370) by rw [hs320, va_up_ne _ _ (by omega)]).trans hf306
  have hf328 : σ319 (371) = fNo := (show σ319 (371) = σ298 (371) by rw [hs320, va_up_ne _ _ (by omega)]).trans hf307
  have hf329 : σ319 (372) = fNo := (show σ319 (372) = σ298 (372) by rw [hs320, va_up_ne _ _ (by omega)]).trans hf308
  have hf330 : σ319 (373) = fNo := (show σ319 (373) = σ298 (373) by rw [hs320, va_up_ne _ _ (by omega)]).trans hf309
  have hf331 : σ319 (374) = fNo := (show σ319 (374) = σ298 (374) by rw [hs320, va_up_ne _ _ (by omega)]).trans hf310
  have hf332 : σ319 (375) = fNo := (show σ319 (375) = σ298 (375) by rw [hs320, va_up_ne _ _ (by omega)]).trans hf311
  have hf333 : σ319 (359) = eJ G 4 (fun _ => 0) := (show σ319 (359) = σ298 (359) by rw [hs320, va_up_ne _ _ (by omega)]).trans hf312
  have hf334 : σ319 (360) = eJ G 96 (fun _ => 0) := (show σ319 (360) = σ298 (360) by rw [hs320, va_up_ne _ _ (by omega)]).trans hf313
  have hf335 : σ319 (361) = eJ G 24 (fun _ => 0) := (show σ319 (361) = σ298 (361) by rw [hs320, va_up_ne _ _ (by omega)]).trans hf314
  have hf336 : σ319 (362) = eJ G 64 (fun _ => 0) := (show σ319 (362) = σ298 (362) by rw [hs320, va_up_ne _ _ (by omega)]).trans hf315
  have hf337 : σ319 (363) = eJ G 64 (fun _ => 0) := (show σ319 (363) = σ298 (363) by rw [hs320, va_up_ne _ _ (by omega)]).trans hf316
  have hf338 : σ319 (364) = eJ G 64 (fun _ => 0) := (show σ319 (364) = σ298 (364) by rw [hs320, va_up_ne _ _ (by omega)]).trans hf318
  have hf339 : σ319 (358) = eO 9 [.ref (ad1 359), .int (iv (0)), .ref (ad48 360), .ref (ad96 361), .int (iv (3)), .int (iv (1)), .int (iv (0)), .int (iv (0)), .long (jv (0)), .long (jv (0)), .int (iv (0)), .int (iv (0)), .int (iv (0)), .long (jv (0)), .long (jv (0)), .int (iv (0)), .ref (ad187 362), .ref (ad237 363), .ref (ad288 364), .null, .null, .null, .null, .null, .null, .null, .int (iv (0)), .null, .null, .null, .null, .int (iv (0)), .int (iv (0))] := by rw [hs320, va_up_self]
  refine v_aload_n hX d_Mo_init_61 0 rfl ?_
  refine v_bipush hX (64) d_Mo_init_62 rfl ?_
  refine g_newJ hX hj289 (g := 365) (by omega) hf322 64 (mT 97 (by decide +kernel) rfl) d_Mo_init_64 rfl (by decide) ⟨by decide, by decide⟩ (fun ad340 hj341 hx342 => ?_)
  have ex343 : exA σ ad ad340 := exA_tr ex291 mo321 hx342
  have e344 : ad340 358 = ad288 358 := hx342 358 (by omega) (by rw [hf339]; exact eO_ne (by decide))
  rw [← e344]
  have t345 : ad340 359 = ad1 359 := (hx342 359 (by omega) (by rw [hf333]; exact eJ_ne)).trans t293
  have t346 : ad340 360 = ad48 360 := (hx342 360 (by omega) (by rw [hf334]; exact eJ_ne)).trans t294
  have t347 : ad340 361 = ad96 361 := (hx342 361 (by omega) (by rw [hf335]; exact eJ_ne)).trans t295
  have t348 : ad340 362 = ad187 362 := (hx342 362 (by omega) (by rw [hf336]; exact eJ_ne)).trans t296
  have t349 : ad340 363 = ad237 363 := (hx342 363 (by omega) (by rw [hf337]; exact eJ_ne)).trans t297
  have t350 : ad340 364 = ad288 364 := (hx342 364 (by omega) (by rw [hf338]; exact eJ_ne))
  obtain ⟨σ351, hs352⟩ : ∃ s9, s9 = va_up σ319 (365) (eJ G 64 (fun _ => 0)) := ⟨_, rfl⟩
  rw [← hs352]
  have mo353 : moN σ σ351 := by rw [hs352]; exact moN_up mo321 _ eJ_ne
  have hf354 : σ351 (366) = fNo := (show σ351 (366) = σ319 (366) by rw [hs352, va_up_ne _ _ (by omega)]).trans hf323
  have hf355 : σ351 (367) = fNo := (show σ351 (367) = σ319 (367) by rw [hs352, va_up_ne _ _ (by omega)]).trans hf324
  have hf356 : σ351 (368) = fNo := (show σ351 (368) = σ319 (368) by rw [hs352, va_up_ne _ _ (by omega)]).trans hf325
  have hf357 : σ351 (369) = fNo := (show σ351 (369) = σ319 (369) by rw [hs352, va_up_ne _ _ (by omega)]).trans hf326
  have hf358 : σ351 (370) = fNo := (show σ351 (370) = σ319 (370) by rw [hs352, va_up_ne _ _ (by omega)]).trans hf327
  have hf359 : σ351 (371) = fNo := (show σ351 (371) = σ319 (371) by rw [hs352, va_up_ne _ _ (by omega)]).trans hf328
  have hf360 : σ351 (372) = fNo := (show σ351 (372) = σ319 (372) by rw [hs352, va_up_ne _ _ (by omega)]).trans hf329
  have hf361 : σ351 (373) = fNo := (show σ351 (373) = σ319 (373) by rw [hs352, va_up_ne _ _ (by omega)]).trans hf330
  have hf362 : σ351 (374) = fNo := (show σ351 (374) = σ319 (374) by rw [hs352, va_up_ne _ _ (by omega)]).trans hf331
  have hf363 : σ351 (375) = fNo := (show σ351 (375) = σ319 (375) by rw [hs352, va_up_ne _ _ (by omega)]).trans hf332
  have hf364 : σ351 (359) = eJ G 4 (fun _ => 0) := (show σ351 (359) = σ319 (359) by rw [hs352, va_up_ne _ _ (by omega)]).trans hf333
  have hf365 : σ351 (360) = eJ G 96 (fun _ => 0) := (show σ351 (360) = σ319 (360) by rw [hs352, va_up_ne _ _ (by omega)]).trans hf334
  have hf366 : σ351 (361) = eJ G 24 (fun _ => 0) := (show σ351 (361) = σ319 (361) by rw [hs352, va_up_ne _ _ (by omega)]).trans hf335
  have hf367 : σ351 (362) = eJ G 64 (fun _ => 0) := (show σ351 (362) = σ319 (362) by rw [hs352, va_up_ne _ _ (by omega)]).trans hf336
  have hf368 : σ351 (363) = eJ G 64 (fun _ => 0) := (show σ351 (363) = σ319 (363) by rw [hs352, va_up_ne _ _ (by omega)]).trans hf337
  have hf369 : σ351 (364) = eJ G 64 (fun _ => 0) := (show σ351 (364) = σ319 (364) by rw [hs352, va_up_ne _ _ (by omega)]).trans hf338
  have hf370 : σ351 (358) = eO 9 [.ref (ad1 359), .int (iv (0)), .ref (ad48 360), .ref (ad96 361), .int (iv (3)), .int (iv (1)), .int (iv (0)), .int (iv (0)), .long (jv (0)), .long (jv (0)), .int (iv (0)), .int (iv (0)), .int (iv (0)), .long (jv (0)), .long (jv (0)), .int (iv (0)), .ref (ad187 362), .ref (ad237 363), .ref (ad288 364), .null, .null, .null, .null, .null, .null, .null, .int (iv (0)), .null, .null, .null, .null, .int (iv (0)), .int (iv (0))] := (show σ351 (358) = σ319 (358) by rw [hs352, va_up_ne _ _ (by omega)]).trans hf339
  have hf371 : σ351 (365) = eJ G 64 (fun _ => 0) := by rw [hs352, va_up_self]
  refine g_putF (i := 358) (fs' := [.ref (ad1 359), .int (iv (0)), .ref (ad48 360), .ref (ad96 361), .int (iv (3)), .int (iv (1)), .int (iv (0)), .int (iv (0)), .long (jv (0)), .long (jv (0)), .int (iv (0)), .int (iv (0)), .int (iv (0)), .long (jv (0)), .long (jv (0)), .int (iv (0)), .ref (ad187 362), .ref (ad237 363), .ref (ad288 364), .ref (ad340 365), .null, .null, .null, .null, .null, .null, .int (iv (0)), .null, .null, .null, .null, .int (iv (0)), .int (iv (0))]) hX hj341 pF_Mo_35 rfl d_Mo_init_66 (by omega) hf370 rfl rfl (Nat.le_of_ble_eq_true rfl) rfl ?_
  obtain ⟨σ372, hs373⟩ : ∃ s9, s9 = va_up σ351 (358) (eO 9 [.ref (ad1 359), .int (iv (0)), .ref (ad48 360), .ref (ad96 361), .int (iv (3)), .int (iv (1)), .int (iv (0)), .int (iv (0)), .long (jv (0)), .long (jv (0)), .int (iv (0)), .int (iv (0)), .int (iv (0)), .long (jv (0)), .long (jv (0)), .int (iv (0)), .ref (ad187 362), .ref (ad237 363), .ref (ad288 364), .ref (ad340 365), .null, .null, .null, .null, .null, .null, .int (iv (0)), .null, .null, .null, .null, .int (iv (0)), .int (iv (0))]) := ⟨_, rfl⟩
  rw [← hs373]
  have mo374 : moN σ σ372 := by rw [hs373]; exact moN_up mo353 _ (eO_ne (by decide))
  have hf375 : σ372 (366) = fNo := (show σ372 (366) = σ351 (366) by rw [hs373, va_up_ne _ _ (by omega)]).trans hf354
  have hf376 : σ372 (367) = fNo := (show σ372 (367) = σ351 (367) by rw [hs373, va_up_ne _ _ (by omega)]).trans hf355
  have hf377 : σ372 (368) = fNo := (show σ372 (368) = σ351 (368) by rw [hs373, va_up_ne _ _ (by omega)]).trans hf356
  have hf378 : σ372 (369) = fNo := (show σ372 (369) = σ351 (369) by rw [hs373, va_up_ne _ _ (by omega)]).trans hf357
  have hf379 : σ372 (370) = fNo := (show σ372 (370) = σ351 (370) by rw [hs373, va_up_ne _ _ (by omega)]).trans hf358
  have hf380 : σ372 (371) = fNo := (show σ372 (371) = σ351 (371) by rw [hs373, va_up_ne _ _ (by omega)]).trans hf359
  have hf381 : σ372 (372) = fNo := (show σ372 (372) = σ351 (372) by rw [hs373, va_up_ne _ _ (by omega)]).trans hf360
  have hf382 : σ372 (373) = fNo := (show σ372 (373) = σ351 (373) by rw [hs373, va_up_ne _ _ (by omega)]).trans hf361
  have hf383 : σ372 (374) = fNo := (show σ372 (374) = σ351 (374) by rw [hs373, va_up_ne _ _ (by omega)]).trans hf362
  have hf384 : σ372 (375) = fNo := (show σ372 (375) = σ351 (375) by rw [hs373, va_up_ne _ _ (by omega)]).trans hf363
  have hf385 : σ372 (359) = eJ G 4 (fun _ => 0) := (show σ372 (359) = σ351 (359) by rw [hs373, va_up_ne _ _ (by omega)]).trans hf364
  have hf386 : σ372 (360) = eJ G 96 (fun _ => 0) := (show σ372 (360) = σ351 (360) by rw [hs373, va_up_ne _ _ (by omega)]).trans hf365
  have hf387 : σ372 (361) = eJ G 24 (fun _ => 0) := (show σ372 (361) = σ351 (361) by rw [hs373, va_up_ne _ _ (by omega)]).trans hf366
  have hf388 : σ372 (362) = eJ G 64 (fun _ => 0) := (show σ372 (362) = σ351 (362) by rw [hs373, va_up_ne _ _ (by omega)]).trans hf367
  have hf389 : σ372 (363) = eJ G 64 (fun _ => 0) := (show σ372 (363) = σ351 (363) by rw [hs373, va_up_ne _ _ (by omega)]).trans hf368
  have hf390 : σ372 (364) = eJ G 64 (fun _ => 0) := (show σ372 (364) = σ351 (364) by rw [hs373, va_up_ne _ _ (by omega)]).trans hf369
  have hf391 : σ372 (365) = eJ G 64 (fun _ => 0) := (show σ372 (365) = σ351 (365) by rw [hs373, va_up_ne _ _ (by omega)]).trans hf371
  have hf392 : σ372 (358) = eO 9 [.ref (ad1 359), .int (iv (0)), .ref (ad48 360), .ref (ad96 361), .int (iv (3)), .int (iv (1)), .int (iv (0)), .int (iv (0)), .long (jv (0)), .long (jv (0)), .int (iv (0)), .int (iv (0)), .int (iv (0)), .long (jv (0)), .long (jv (0)), .int (iv (0)), .ref (ad187 362), .ref (ad237 363), .ref (ad288 364), .ref (ad340 365), .null, .null, .null, .null, .null, .null, .int (iv (0)), .null, .null, .null, .null, .int (iv (0)), .int (iv (0))] := by rw [hs373, va_up_self]
  refine v_aload_n hX d_Mo_init_69 0 rfl ?_
  refine v_bipush hX (64) d_Mo_init_70 rfl ?_
  refine g_newJ hX hj341 (g := 366) (by omega) hf375 64 (mT 97 (by decide +kernel) rfl) d_Mo_init_72 rfl (by decide) ⟨by decide, by decide⟩ (fun ad393 hj394 hx395 => ?_)
  have ex396 : exA σ ad ad393 := exA_tr ex343 mo374 hx395
  have e397 : ad393 358 = ad340 358 := hx395 358 (by omega) (by rw [hf392]; exact eO_ne (by decide))
  rw [← e397]
  have t398 : ad393 359 = ad1 359 := (hx395 359 (by omega) (by rw [hf385]; exact eJ_ne)).trans t345
  have t399 : ad393 360 = ad48 360 := (hx395 360 (by omega) (by rw [hf386]; exact eJ_ne)).trans t346
  have t400 : ad393 361 = ad96 361 := (hx395 361 (by omega) (by rw [hf387]; exact eJ_ne)).trans t347
  have t401 : ad393 362 = ad187 362 := (hx395 362 (by omega) (by rw [hf388]; exact eJ_ne)).trans t348
  have t402 : ad393 363 = ad237 363 := (hx395 363 (by omega) (by rw [hf389]; exact eJ_ne)).trans t349
  have t403 : ad393 364 = ad288 364 := (hx395 364 (by omega) (by rw [hf390]; exact eJ_ne)).trans t350
  have t404 : ad393 365 = ad340 365 := (hx395 365 (by omega) (by rw [hf391]; exact eJ_ne))
  obtain ⟨σ405, hs406⟩ : ∃ s9, s9 = va_up σ372 (366) (eJ G 64 (fun _ => 0)) := ⟨_, rfl⟩
  rw [← hs406]
  have mo407 : moN σ σ405 := by rw [hs406]; exact moN_up mo374 _ eJ_ne
  have hf408 : σ405 (367) = fNo := (show σ405 (367) = σ372 (367) by rw [hs406, va_up_ne _ _ (by omega)]).trans hf376
  have hf409 : σ405 (368) = fNo := (show σ405 (368) = σ372 (368) by rw [hs406, va_up_ne _ _ (by omega)]).trans hf377
  have hf410 : σ405 (369) = fNo := (show σ405 (369) = σ372 (369) by rw [hs406, va_up_ne _ _ (by omega)]).trans hf378
  have hf411 : σ405 (370) = fNo := (show σ405 (370) = σ372 (370) by rw [hs406, va_up_ne _ _ (by omega)]).trans hf379
  have hf412 : σ405 (371) = fNo := (show σ405 (371) = σ372 (371) by rw [hs406, va_up_ne _ _ (by omega)]).trans hf380
  have hf413 : σ405 (372) = fNo := (show σ405 (372) = σ372 (372) by rw [hs406, va_up_ne _ _ (by omega)]).trans hf381
  have hf414 : σ405 (373) = fNo := (show σ405 (373) = σ372 (373) by rw [hs406, va_up_ne _ _ (by omega)]).trans hf382
  have hf415 : σ405 (374) = fNo := (show σ405 (374) = σ372 (374) by rw [hs406, va_up_ne _ _ (by omega)]).trans hf383
  have hf416 : σ405 (375) = fNo := (show σ405 (375) = σ372 (375) by rw [hs406, va_up_ne _ _ (by omega)]).trans hf384
  have hf417 : σ405 (359) = eJ G 4 (fun _ => 0) := (show σ405 (359) = σ372 (359) by rw [hs406, va_up_ne _ _ (by omega)]).trans hf385
  have hf418 : σ405 (360) = eJ G 96 (fun _ => 0) := (show σ405 (360) = σ372 (360) by rw [hs406, va_up_ne _ _ (by omega)]).trans hf386
  have hf419 : σ405 (361) = eJ G 24 (fun _ => 0) := (show σ405 (361) = σ372 (361) by rw [hs406, va_up_ne _ _ (by omega)]).trans hf387
  have hf420 : σ405 (362) = eJ G 64 (fun _ => 0) := (show σ405 (362) = σ372 (362) by rw [hs406, va_up_ne _ _ (by omega)]).trans hf388
  have hf421 : σ405 (363) = eJ G 64 (fun _ => 0) := (show σ405 (363) = σ372 (363) by rw [hs406, va_up_ne _ _ (by omega)]).trans hf389
  have hf422 : σ405 (364) = eJ G 64 (fun _ => 0) := (show σ405 (364) = σ372 (364) by rw [hs406, va_up_ne _ _ (by omega)]).trans hf390
  have hf423 : σ405 (365) = eJ G 64 (fun _ => 0) := (show σ405 (365) = σ372 (365) by rw [hs406, va_up_ne _ _ (by omega)]).trans hf391
  have hf424 : σ405 (358) = eO 9 [.ref (ad1 359), .int (iv (0)), .ref (ad48 360), .ref (ad96 361), .int (iv (3)), .int (iv (1)), .int (iv (0)), .int (iv (0)), .long (jv (0)), .long (jv (0)), .int (iv (0)), .int (iv (0)), .int (iv (0)), .long (jv (0)), .long (jv (0)), .int (iv (0)), .ref (ad187 362), .ref (ad237 363), .ref (ad288 364), .ref (ad340 365), .null, .null, .null, .null, .null, .null, .int (iv (0)), .null, .null, .null, .null, .int (iv (0)), .int (iv (0))] := (show σ405 (358) = σ372 (358) by rw [hs406, va_up_ne _ _ (by omega)]).trans hf392
  have hf425 : σ405 (366) = eJ G 64 (fun _ => 0) := by rw [hs406, va_up_self]
  refine g_putF (i := 358) (fs' := [.ref (ad1 359), .int (iv (0)), .ref (ad48 360), .ref (ad96 361), .int (iv (3)), .int (iv (1)), .int (iv (0)), .int (iv (0)), .long (jv (0)), .long (jv (0)), .int (iv (0)), .int (iv (0)), .int (iv (0)), .long (jv (0)), .long (jv (0)), .int (iv (0)), .ref (ad187 362), .ref (ad237 363), .ref (ad288 364), .ref (ad340 365), .ref (ad393 366), .null, .null, .null, .null, .null, .int (iv (0)), .null, .null, .null, .null, .int (iv (0)), .int (iv (0))]) hX hj394 pF_Mo_38 rfl d_Mo_init_74 (by omega) hf424 rfl rfl (Nat.le_of_ble_eq_true rfl) rfl ?_
  obtain ⟨σ426, hs427⟩ : ∃ s9, s9 = va_up σ405 (358) (eO 9 [.ref (ad1 359), .int (iv (0)), .ref (ad48 360), .ref (ad96 361), .int (iv (3)), .int (iv (1)), .int (iv (0)), .int (iv (0)), .long (jv (0)), .long (jv (0)), .int (iv (0)), .int (iv (0)), .int (iv (0)), .long (jv (0)), .long (jv (0)), .int (iv (0)), .ref (ad187 362), .ref (ad237 363), .ref (ad288 364), .ref (ad340 365), .ref (ad393 366), .null, .null, .null, .null, .null, .int (iv (0)), .null, .null, .null, .null, .int (iv (0)), .int (iv (0))]) := ⟨_, rfl⟩
  rw [← hs427]
  have mo428 : moN σ σ426 := by rw [hs427]; exact moN_up mo407 _ (eO_ne (by decide))
  have hf429 : σ426 (367) = fNo := (show σ426 (367) = σ405 (367) by rw [hs427, va_up_ne _ _ (by omega)]).trans hf408
  have hf430 : σ426 (368) = fNo := (show σ426 (368) = σ405 (368) by rw [hs427, va_up_ne _ _ (by omega)]).trans hf409
  have hf431 : σ426 (369) = fNo := (show σ426 (369) = σ405 (369) by rw [hs427, va_up_ne _ _ (by omega)]).trans hf410
  have hf432 : σ426 (370) = fNo := (show σ426 (370) = σ405 (370) by rw [hs427, va_up_ne _ _ (by omega)]).trans hf411
  have hf433 : σ426 (371) = fNo := (show σ426 (371) = σ405 (371) by rw [hs427, va_up_ne _ _ (by omega)]).trans hf412
  have hf434 : σ426 (372) = fNo := (show σ426 (372) = σ405 (372) by rw [hs427, va_up_ne _ _ (by omega)]).trans hf413
  have hf435 : σ426 (373) = fNo := (show σ426 (373) = σ405 (373) by rw [hs427, va_up_ne _ _ (by omega)]).trans hf414
  have hf436 : σ426 (374) = fNo := (show σ426 (374) = σ405 (374) by rw [hs427, va_up_ne _ _ (by omega)]).trans hf415
  have hf437 : σ426 (375) = fNo := (show σ426 (375) = σ405 (375) by rw [hs427, va_up_ne _ _ (by omega)]).trans hf416
  have hf438 : σ426 (359) = eJ G 4 (fun _ => 0) := (show σ426 (359) = σ405 (359) by rw [hs427, va_up_ne _ _ (by omega)]).trans hf417
  have hf439 : σ426 (360) = eJ G 96 (fun _ => 0) := (show σ426 (360) = σ405 (360) by rw [hs427, va_up_ne _ _ (by omega)]).trans hf418
  have hf440 : σ426 (361) = eJ G 24 (fun _ => 0) := (show σ426 (361) = σ405 (361) by rw [hs427, va_up_ne _ _ (by omega)]).trans hf419
  have hf441 : σ426 (362) = eJ G 64 (fun _ => 0) := (show σ426 (362) = σ405 (362) by rw [hs427, va_up_ne _ _ (by omega)]).trans hf420
  have hf442 : σ426 (363) = eJ G 64 (fun _ => 0) := (show σ426 (363) = σ405 (363) by rw [hs427, va_up_ne _ _ (by omega)]).trans hf421
  have hf443 : σ426 (364) = eJ G 64 (fun _ => 0) := (show σ426 (364) = σ405 (364) by rw [hs427, va_up_ne _ _ (by omega)]).trans hf422
  have hf444 : σ426 (365) = eJ G 64 (fun _ => 0) := (show σ426 (365) = σ405 (365) by rw [hs427, va_up_ne _ _ (by omega)]).trans hf423
  have hf445 : σ426 (366) = eJ G 64 (fun _ => 0) := (show σ426 (366) = σ405 (366) by rw [hs427, va_up_ne _ _ (by omega)]).trans hf425
  have hf446 : σ426 (358) = eO 9 [.ref (ad1 359), .int (iv (0)), .ref (ad48 360), .ref (ad96 361), .int (iv (3)), .int (iv (1)), .int (iv (0)), .int (iv (0)), .long (jv (0)), .long (jv (0)), .int (iv (0)), .int (iv (0)), .int (iv (0)), .long (jv (0)), .long (jv (0)), .int (iv (0)), .ref (ad187 362), .ref (ad237 363), .ref (ad288 364), .ref (ad340 365), .ref (ad393 366), .null, .null, .null, .null, .null, .int (iv (0)), .null, .null, .null, .null, .int (iv (0)), .int (iv (0))] := by rw [hs427, va_up_self]
  refine v_aload_n hX d_Mo_init_77 0 rfl ?_
  refine v_bipush hX (64) d_Mo_init_78 rfl ?_
  refine g_newJ hX hj394 (g := 367) (by omega) hf429 64 (mT 97 (by decide +kernel) rfl) d_Mo_init_80 rfl (by decide) ⟨by decide, by decide⟩ (fun ad447 hj448 hx449 => ?_)
  have ex450 : exA σ ad ad447 := exA_tr ex396 mo428 hx449
  have e451 : ad447 358 = ad393 358 := hx449 358 (by omega) (by rw [hf446]; exact eO_ne (by decide))
  rw [← e451]
  have t452 : ad447 359 = ad1 359 := (hx449 359 (by omega) (by rw [hf438]; exact eJ_ne)).trans t398
  have t453 : ad447 360 = ad48 360 := (hx449 360 (by omega) (by rw [hf439]; exact eJ_ne)).trans t399
  have t454 : ad447 361 = ad96 361 := (hx449 361 (by omega) (by rw [hf440]; exact eJ_ne)).trans t400
  have t455 : ad447 362 = ad187 362 := (hx449 362 (by omega) (by rw [hf441]; exact eJ_ne)).trans t401
  have t456 : ad447 363 = ad237 363 := (hx449 363 (by omega) (by rw [hf442]; exact eJ_ne)).trans t402
  have t457 : ad447 364 = ad288 364 := (hx449 364 (by omega) (by rw [hf443]; exact eJ_ne)).trans t403
  have t458 : ad447 365 = ad340 365 := (hx449 365 (by omega) (by rw [hf444]; exact eJ_ne)).trans t404
  have t459 : ad447 366 = ad393 366 := (hx449 366 (by omega) (by rw [hf445]; exact eJ_ne))
  obtain ⟨σ460, hs461⟩ : ∃ s9, s9 = va_up σ426 (367) (eJ G 64 (fun _ => 0)) := ⟨_, rfl⟩
  rw [← hs461]
  have mo462 : moN σ σ460 := by rw [hs461]; exact moN_up mo428 _ eJ_ne
  have hf463 : σ460 (368) = fNo := (show σ460 (368) = σ426 (368) by rw [hs461, va_up_ne _ _ (by omega)]).trans hf430
  have hf464 : σ460 (369) = fNo := (show σ460 (369) = σ426 (369) by rw [hs461, va_up_ne _ _ (by omega)]).trans hf431
  have hf465 : σ460 (370) = fNo := (show σ460 (370) = σ426 (370) by rw [hs461, va_up_ne _ _ (by omega)]).trans hf432
  have hf466 : σ460 (371) = fNo := (show σ460 (371) = σ426 (371) by rw [hs461, va_up_ne _ _ (by omega)]).trans hf433
  have hf467 : σ460 (372) = fNo := (show σ460 (372) = σ426 (372) by rw [hs461, va_up_ne _ _ (by omega)]).trans hf434
  have hf468 : σ460 (373) = fNo := (show σ460 (373) = σ426 (373) by rw [hs461, va_up_ne _ _ (by omega)]).trans hf435
  have hf469 : σ460 (374) = fNo := (show σ460 (374) = σ426 (374) by rw [hs461, va_up_ne _ _ (by omega)]).trans hf436
  have hf470 : σ460 (375) = fNo := (show σ460 (375) = σ426 (375) by rw [hs461, va_up_ne _ _ (by omega)]).trans hf437
  have hf471 : σ460 (359) = eJ G 4 (fun _ => 0) := (show σ460 (359) = σ426 (359) by rw [hs461, va_up_ne _ _ (by omega)]).trans hf438
  have hf472 : σ460 (360) = eJ G 96 (fun _ => 0) := (show σ460 (360) = σ426 (360) by rw [hs461, va_up_ne _ _ (by omega)]).trans hf439
  have hf473 : σ460 (361) = eJ G 24 (fun _ => 0) := (show σ460 (361) = σ426 (361) by rw [hs461, va_up_ne _ _ (by omega)]).trans hf440
  have hf474 : σ460 (362) = eJ G 64 (fun _ => 0) := (show σ460 (362) = σ426 (362) by rw [hs461, va_up_ne _ _ (by omega)]).trans hf441
  have hf475 : σ460 (363) = eJ G 64 (fun _ => 0) := (show σ460 (363) = σ426 (363) by rw [hs461, va_up_ne _ _ (by omega)]).trans hf442
  have hf476 : σ460 (364) = eJ G 64 (fun _ => 0) := (show σ460 (364) = σ426 (364) by rw [hs461, va_up_ne _ _ (by omega)]).trans hf443
  have hf477 : σ460 (365) = eJ G 64 (fun _ => 0) := (show σ460 (365) = σ426 (365) by rw [hs461, va_up_ne _ _ (by omega)]).trans hf444
  have hf478 : σ460 (366) = eJ G 64 (fun _ => 0) := (show σ460 (366) = σ426 (366) by rw [hs461, va_up_ne _ _ (by omega)]).trans hf445
  have hf479 : σ460 (358) = eO 9 [.ref (ad1 359), .int (iv (0)), .ref (ad48 360), .ref (ad96 361), .int (iv (3)), .int (iv (1)), .int (iv (0)), .int (iv (0)), .long (jv (0)), .long (jv (0)), .int (iv (0)), .int (iv (0)), .int (iv (0)), .long (jv (0)), .long (jv (0)), .int (iv (0)), .ref (ad187 362), .ref (ad237 363), .ref (ad288 364), .ref (ad340 365), .ref (ad393 366), .null, .null, .null, .null, .null, .int (iv (0)), .null, .null, .null, .null, .int (iv (0)), .int (iv (0))] := (show σ460 (358) = σ426 (358) by rw [hs461, va_up_ne _ _ (by omega)]).trans hf446
  have hf480 : σ460 (367) = eJ G 64 (fun _ => 0) := by rw [hs461, va_up_self]
  refine g_putF (i := 358) (fs' := [.ref (ad1 359), .int (iv (0)), .ref (ad48 360), .ref (ad96 361), .int (iv (3)), .int (iv (1)), .int (iv (0)), .int (iv (0)), .long (jv (0)), .long (jv (0)), .int (iv (0)), .int (iv (0)), .int (iv (0)), .long (jv (0)), .long (jv (0)), .int (iv (0)), .ref (ad187 362), .ref (ad237 363), .ref (ad288 364), .ref (ad340 365), .ref (ad393 366), .ref (ad447 367), .null, .null, .null, .null, .int (iv (0)), .null, .null, .null, .null, .int (iv (0)), .int (iv (0))]) hX hj448 pF_Mo_41 rfl d_Mo_init_82 (by omega) hf479 rfl rfl (Nat.le_of_ble_eq_true rfl) rfl ?_
  obtain ⟨σ481, hs482⟩ : ∃ s9, s9 = va_up σ460 (358) (eO 9 [.ref (ad1 359), .int (iv (0)), .ref (ad48 360), .ref (ad96 361), .int (iv (3)), .int (iv (1)), .int (iv (0)), .int (iv (0)), .long (jv (0)), .long (jv (0)), .int (iv (0)), .int (iv (0)), .int (iv (0)), .long (jv (0)), .long (jv (0)), .int (iv (0)), .ref (ad187 362), .ref (ad237 363), .ref (ad288 364), .ref (ad340 365), .ref (ad393 366), .ref (ad447 367), .null, .null, .null, .null, .int (iv (0)), .null, .null, .null, .null, .int (iv (0)), .int (iv (0))]) := ⟨_, rfl⟩
  rw [← hs482]
  have mo483 : moN σ σ481 := by rw [hs482]; exact moN_up mo462 _ (eO_ne (by decide))
  have hf484 : σ481 (368) = fNo := (show σ481 (368) = σ460 (368) by rw [hs482, va_up_ne _ _ (by omega)]).trans hf463
  have hf485 : σ481 (369) = fNo := (show σ481 (369) = σ460 (369) by rw [hs482, va_up_ne _ _ (by omega)]).trans hf464
  have hf486 : σ481 (370) = fNo := (show σ481 (370) = σ460 (370) by rw [hs482, va_up_ne _ _ (by omega)]).trans hf465
  have hf487 : σ481 (371) = fNo := (show σ481 (371) = σ460 (371) by rw [hs482, va_up_ne _ _ (by omega)]).trans hf466
  have hf488 : σ481 (372) = fNo := (show σ481 (372) = σ460 (372) by rw [hs482, va_up_ne _ _ (by omega)]).trans hf467
  have hf489 : σ481 (373) = fNo := (show σ481 (373) = σ460 (373) by rw [hs482, va_up_ne _ _ (by omega)]).trans hf468
  have hf490 : σ481 (374) = fNo := (show σ481 (374) = σ460 (374) by rw [hs482, va_up_ne _ _ (by omega)]).trans hf469
  have hf491 : σ481 (375) = fNo := (show σ481 (375) = σ460 (375) by rw [hs482, va_up_ne _ _ (by omega)]).trans hf470
  have hf492 : σ481 (359) = eJ G 4 (fun _ => 0) := (show σ481 (359) = σ460 (359) by rw [hs482, va_up_ne _ _ (by omega)]).trans hf471
  have hf493 : σ481 (360) = eJ G 96 (fun _ => 0) := (show σ481 (360) = σ460 (360) by rw [hs482, va_up_ne _ _ (by omega)]).trans hf472
  have hf494 : σ481 (361) = eJ G 24 (fun _ => 0) := (show σ481 (361) = σ460 (361) by rw [hs482, va_up_ne _ _ (by omega)]).trans hf473
  have hf495 : σ481 (362) = eJ G 64 (fun _ => 0) := (show σ481 (362) = σ460 (362) by rw [hs482, va_up_ne _ _ (by omega)]).trans hf474
  have hf496 : σ481 (363) = eJ G 64 (fun _ => 0) := (show σ481 (363) = σ460 (363) by rw [hs482, va_up_ne _ _ (by omega)]).trans hf475
  have hf497 : σ481 (364) = eJ G 64 (fun _ => 0) := (show σ481 (364) = σ460 (364) by rw [hs482, va_up_ne _ _ (by omega)]).trans hf476
  have hf498 : σ481 (365) = eJ G 64 (fun _ => 0) := (show σ481 (365) = σ460 (365) by rw [hs482, va_up_ne _ _ (by omega)]).trans hf477
  have hf499 : σ481 (366) = eJ G 64 (fun _ => 0) := (show σ481 (366) = σ460 (366) by rw [hs482, va_up_ne _ _ (by omega)]).trans hf478
  have hf500 : σ481 (367) = eJ G 64 (fun _ => 0) := (show σ481 (367) = σ460 (367) by rw [hs482, va_up_ne _ _ (by omega)]).trans hf480
  have hf501 : σ481 (358) = eO 9 [.ref (ad1 359), .int (iv (0)), .ref (ad48 360), .ref (ad96 361), .int (iv (3)), .int (iv (1)), .int (iv (0)), .int (iv (0)), .long (jv (0)), .long (jv (0)), .int (iv (0)), .int (iv (0)), .int (iv (0)), .long (jv (0)), .long (jv (0)), .int (iv (0)), .ref (ad187 362), .ref (ad237 363), .ref (ad288 364), .ref (ad340 365), .ref (ad393 366), .ref (ad447 367), .null, .null, .null, .null, .int (iv (0)), .null, .null, .null, .null, .int (iv (0)), .int (iv (0))] := by rw [hs482, va_up_self]
  refine v_aload_n hX d_Mo_init_85 0 rfl ?_
  refine v_bipush hX (64) d_Mo_init_86 rfl ?_
  refine g_newJ hX hj448 (g := 368) (by omega) hf484 64 (mT 97 (by decide +kernel) rfl) d_Mo_init_88 rfl (by decide) ⟨by decide, by decide⟩ (fun ad502 hj503 hx504 => ?_)
  have ex505 : exA σ ad ad502 := exA_tr ex450 mo483 hx504
  have e506 : ad502 358 = ad447 358 := hx504 358 (by omega) (by rw [hf501]; exact eO_ne (by decide))
  rw [← e506]
  have t507 : ad502 359 = ad1 359 := (hx504 359 (by omega) (by rw [hf492]; exact eJ_ne)).trans t452
  have t508 : ad502 360 = ad48 360 := (hx504 360 (by omega) (by rw [hf493]; exact eJ_ne)).trans t453
  have t509 : ad502 361 = ad96 361 := (hx504 361 (by omega) (by rw [hf494]; exact eJ_ne)).trans t454
  have t510 : ad502 362 = ad187 362 := (hx504 362 (by omega) (by rw [hf495]; exact eJ_ne)).trans t455
  have t511 : ad502 363 = ad237 363 := (hx504 363 (by omega) (by rw [hf496]; exact eJ_ne)).trans t456
  have t512 : ad502 364 = ad288 364 := (hx504 364 (by omega) (by rw [hf497]; exact eJ_ne)).trans t457
  have t513 : ad502 365 = ad340 365 := (hx504 365 (by omega) (by rw [hf498]; exact eJ_ne)).trans t458
  have t514 : ad502 366 = ad393 366 := (hx504 366 (by omega) (by rw [hf499]; exact eJ_ne)).trans t459
  have t515 : ad502 367 = ad447 367 := (hx504 367 (by omega) (by rw [hf500]; exact eJ_ne))
  obtain ⟨σ516, hs517⟩ : ∃ s9, s9 = va_up σ481 (368) (eJ G 64 (fun _ => 0)) := ⟨_, rfl⟩
  rw [← hs517]
  have mo518 : moN σ σ516 := by rw [hs517]; exact moN_up mo483 _ eJ_ne
  have hf519 : σ516 (369) = fNo := (show σ516 (369) = σ481 (369) by rw [hs517, va_up_ne _ _ (by omega)]).trans hf485
  have hf520 : σ516 (370) = fNo := (show σ516 (370) = σ481 (370) by rw [hs517, va_up_ne _ _ (by omega)]).trans hf486
  have hf521 : σ516 (371) = fNo := (show σ516 (371) = σ481 (371) by rw [hs517, va_up_ne _ _ (by omega)]).trans hf487
  have hf522 : σ516 (372) = fNo := (show σ516 (372) = σ481 (372) by rw [hs517, va_up_ne _ _ (by omega)]).trans hf488
  have hf523 : σ516 (373) = fNo := (show σ516 (373) = σ481 (373) by rw [hs517, va_up_ne _ _ (by omega)]).trans hf489
  have hf524 : σ516 (374) = fNo := (show σ516 (374) = σ481 (374) by rw [hs517, va_up_ne _ _ (by omega)]).trans hf490
  have hf525 : σ516 (375) = fNo := (show σ516 (375) = σ481 (375) by rw [hs517, va_up_ne _ _ (by omega)]).trans hf491
  have hf526 : σ516 (359) = eJ G 4 (fun _ => 0) := (show σ516 (359) = σ481 (359) by rw [hs517, va_up_ne _ _ (by omega)]).trans hf492
  have hf527 : σ516 (360) = eJ G 96 (fun _ => 0) := (show σ516 (360) = σ481 (360) by rw [hs517, va_up_ne _ _ (by omega)]).trans hf493
  have hf528 : σ516 (361) = eJ G 24 (fun _ => 0) := (show σ516 (361) = σ481 (361) by rw [hs517, va_up_ne _ _ (by omega)]).trans hf494
  have hf529 : σ516 (362) = eJ G 64 (fun _ => 0) := (show σ516 (362) = σ481 (362) by rw [hs517, va_up_ne _ _ (by omega)]).trans hf495
  have hf530 : σ516 (363) = eJ G 64 (fun _ => 0) := (show σ516 (363) = σ481 (363) by rw [hs517, va_up_ne _ _ (by omega)]).trans hf496
  have hf531 : σ516 (364) = eJ G 64 (fun _ => 0) := (show σ516 (364) = σ481 (364) by rw [hs517, va_up_ne _ _ (by omega)]).trans hf497
  have hf532 : σ516 (365) = eJ G 64 (fun _ => 0) := (show σ516 (365) = σ481 (365) by rw [hs517, va_up_ne _ _ (by omega)]).trans hf498
  have hf533 : σ516 (366) = eJ G 64 (fun _ => 0) := (show σ516 (366) = σ481 (366) by rw [hs517, va_up_ne _ _ (by omega)]).trans hf499
  have hf534 : σ516 (367) = eJ G 64 (fun _ => 0) := (show σ516 (367) = σ481 (367) by rw [hs517, va_up_ne _ _ (by omega)]).trans hf500
  have hf535 : σ516 (358) = eO 9 [.ref (ad1 359), .int (iv (0)), .ref (ad48 360), .ref (ad96 361), .int (iv (3)), .int (iv (1)), .int (iv (0)), .int (iv (0)), .long (jv (0)), .long (jv (0)), .int (iv (0)), .int (iv (0)), .int (iv (0)), .long (jv (0)), .long (jv (0)), .int (iv (0)), .ref (ad187 362), .ref (ad237 363), .ref (ad288 364), .ref (ad340 365), .ref (ad393 366), .ref (ad447 367), .null, .null, .null, .null, .int (iv (0)), .null, .null, .null, .null, .int (iv (0)), .int (iv (0))] := (show σ516 (358) = σ481 (358) by rw [hs517, va_up_ne _ _ (by omega)]).trans hf501
  have hf536 : σ516 (368) = eJ G 64 (fun _ => 0) := by rw [hs517, va_up_self]
  refine g_putF (i := 358) (fs' := [.ref (ad1 359), .int (iv (0)), .ref (ad48 360), .ref (ad96 361), .int (iv (3)), .int (iv (1)), .int (iv (0)), .int (iv (0)), .long (jv (0)), .long (jv (0)), .int (iv (0)), .int (iv (0)), .int (iv (0)), .long (jv (0)), .long (jv (0)), .int (iv (0)), .ref (ad187 362), .ref (ad237 363), .ref (ad288 364), .ref (ad340 365), .ref (ad393 366), .ref (ad447 367), .ref (ad502 368), .null, .null, .null, .int (iv (0)), .null, .null, .null, .null, .int (iv (0)), .int (iv (0))]) hX hj503 pF_Mo_44 rfl d_Mo_init_90 (by omega) hf535 rfl rfl (Nat.le_of_ble_eq_true rfl) rfl ?_
  obtain ⟨σ537, hs538⟩ : ∃ s9, s9 = va_up σ516 (358) (eO 9 [.ref (ad1 359), .int (iv (0)), .ref (ad48 360), .ref (ad96 361), .int (iv (3)), .int (iv (1)), .int (iv (0)), .int (iv (0)), .long (jv (0)), .long (jv (0)), .int (iv (0)), .int (iv (0)), .int (iv (0)), .long (jv (0)), .long (jv (0)), .int (iv (0)), .ref (ad187 362), .ref (ad237 363), .ref (ad288 364), .ref (ad340 365), .ref (ad393 366), .ref (ad447 367), .ref (ad502 368), .null, .null, .null, .int (iv (0)), .null, .null, .null, .null, .int (iv (0)), .int (iv (0))]) := ⟨_, rfl⟩
  rw [← hs538]
  have mo539 : moN σ σ537 := by rw [hs538]; exact moN_up mo518 _ (eO_ne (by decide))
  have hf540 : σ537 (369) = fNo := (show σ537 (369) = σ516 (369) by rw [hs538, va_up_ne _ _ (by omega)]).trans hf519
  have hf541 : σ537 (370) = fNo := (show σ537 (370) = σ516 (370) by rw [hs538, va_up_ne _ _ (by omega)]).trans hf520
  have hf542 : σ537 (371) = fNo := (show σ537 (371) = σ516 (371) by rw [hs538, va_up_ne _ _ (by omega)]).trans hf521
  have hf543 : σ537 (372) = fNo := (show σ537 (372) = σ516 (372) by rw [hs538, va_up_ne _ _ (by omega)]).trans hf522
  have hf544 : σ537 (373) = fNo := (show σ537 (373) = σ516 (373) by rw [hs538, va_up_ne _ _ (by omega)]).trans hf523
  have hf545 : σ537 (374) = fNo := (show σ537 (374) = σ516 (374) by rw [hs538, va_up_ne _ _ (by omega)]).trans hf524
  have hf546 : σ537 (375) = fNo := (show σ537 (375) = σ516 (375) by rw [hs538, va_up_ne _ _ (by omega)]).trans hf525
  have hf547 : σ537 (359) = eJ G 4 (fun _ => 0) := (show σ537 (359) = σ516 (359) by rw [hs538, va_up_ne _ _ (by omega)]).trans hf526
  have hf548 : σ537 (360) = eJ G 96 (fun _ => 0) := (show σ537 (360) = σ516 (360) by rw [hs538, va_up_ne _ _ (by omega)]).trans hf527
  have hf549 : σ537 (361) = eJ G 24 (fun _ => 0) := (show σ537 (361) = σ516 (361) by rw [hs538, va_up_ne _ _ (by omega)]).trans hf528
  have hf550 : σ537 (362) = eJ G 64 (fun _ => 0) := (show σ537 (362) = σ516 (362) by rw [hs538, va_up_ne _ _ (by omega)]).trans hf529
  have hf551 : σ537 (363) = eJ G 64 (fun _ => 0) := (show σ537 (363) = σ516 (363) by rw [hs538, va_up_ne _ _ (by omega)]).trans hf530
  have hf552 : σ537 (364) = eJ G 64 (fun _ => 0) := (show σ537 (364) = σ516 (364) by rw [hs538, va_up_ne _ _ (by omega)]).trans hf531
  have hf553 : σ537 (365) = eJ G 64 (fun _ => 0) := (show σ537 (365) = σ516 (365) by rw [hs538, va_up_ne _ _ (by omega)]).trans hf532
  have hf554 : σ537 (366) = eJ G 64 (fun _ => 0) := (show σ537 (366) = σ516 (366) by rw [hs538, va_up_ne _ _ (by omega)]).trans hf533
  have hf555 : σ537 (367) = eJ G 64 (fun _ => 0) := (show σ537 (367) = σ516 (367) by rw [hs538, va_up_ne _ _ (by omega)]).trans hf534
  have hf556 : σ537 (368) = eJ G 64 (fun _ => 0) := (show σ537 (368) = σ516 (368) by rw [hs538, va_up_ne _ _ (by omega)]).trans hf536
  have hf557 : σ537 (358) = eO 9 [.ref (ad1 359), .int (iv (0)), .ref (ad48 360), .ref (ad96 361), .int (iv (3)), .int (iv (1)), .int (iv (0)), .int (iv (0)), .long (jv (0)), .long (jv (0)), .int (iv (0)), .int (iv (0)), .int (iv (0)), .long (jv (0)), .long (jv (0)), .int (iv (0)), .ref (ad187 362), .ref (ad237 363), .ref (ad288 364), .ref (ad340 365), .ref (ad393 366), .ref (ad447 367), .ref (ad502 368), .null, .null, .null, .int (iv (0)), .null, .null, .null, .null, .int (iv (0)), .int (iv (0))] := by rw [hs538, va_up_self]
  refine v_aload_n hX d_Mo_init_93 0 rfl ?_
  refine v_bipush hX (64) d_Mo_init_94 rfl ?_
  refine g_newL hX hj503 (g := 369) (by omega) hf540 64 (mT 757 (by decide +kernel) rfl) d_Mo_init_96 rfl (by decide) ⟨by decide, by decide⟩ (fun ad558 hj559 hx560 => ?_)
  have ex561 : exA σ ad ad558 := exA_tr ex505 mo539 hx560
  have e562 : ad558 358 = ad502 358 := hx560 358 (by omega) (by rw [hf557]; exact eO_ne (by decide))
  rw [← e562]
  have t563 : ad558 359 = ad1 359 := (hx560 359 (by omega) (by rw [hf547]; exact eJ_ne)).trans t507
  have t564 : ad558 360 = ad48 360 := (hx560 360 (by omega) (by rw [hf548]; exact eJ_ne)).trans t508
  have t565 : ad558 361 = ad96 361 := (hx560 361 (by omega) (by rw [hf549]; exact eJ_ne)).trans t509
  have t566 : ad558 362 = ad187 362 := (hx560 362 (by omega) (by rw [hf550]; exact eJ_ne)).trans t510
  have t567 : ad558 363 = ad237 363 := (hx560 363 (by omega) (by rw [hf551]; exact eJ_ne)).trans t511
  have t568 : ad558 364 = ad288 364 := (hx560 364 (by omega) (by rw [hf552]; exact eJ_ne)).trans t512
  have t569 : ad558 365 = ad340 365 := (hx560 365 (by omega) (by rw [hf553]; exact eJ_ne)).trans t513
  have t570 : ad558 366 = ad393 366 := (hx560 366 (by omega) (by rw [hf554]; exact eJ_ne)).trans t514
  have t571 : ad558 367 = ad447 367 := (hx560 367 (by omega) (by rw [hf555]; exact eJ_ne)).trans t515
  have t572 : ad558 368 = ad502 368 := (hx560 368 (by omega) (by rw [hf556]; exact eJ_ne))
  obtain ⟨σ573, hs574⟩ : ∃ s9, s9 = va_up σ537 (369) (eL G 64 (fun _ => 0)) := ⟨_, rfl⟩
  rw [← hs574]
  have mo575 : moN σ σ573 := by rw [hs574]; exact moN_up mo539 _ eL_ne
  have hf576 : σ573 (370) = fNo := (show σ573 (370) = σ537 (370) by rw [hs574, va_up_ne _ _ (by omega)]).trans hf541
  have hf577 : σ573 (371) = fNo := (show σ573 (371) = σ537 (371) by rw [hs574, va_up_ne _ _ (by omega)]).trans hf542
  have hf578 : σ573 (372) = fNo := (show σ573 (372) = σ537 (372) by rw [hs574, va_up_ne _ _ (by omega)]).trans hf543
  have hf579 : σ573 (373) = fNo := (show σ573 (373) = σ537 (373) by rw [hs574, va_up_ne _ _ (by omega)]).trans hf544
  have hf580 : σ573 (374) = fNo := (show σ573 (374) = σ537 (374) by rw [hs574, va_up_ne _ _ (by omega)]).trans hf545
  have hf581 : σ573 (375) = fNo := (show σ573 (375) = σ537 (375) by rw [hs574, va_up_ne _ _ (by omega)]).trans hf546
  have hf582 : σ573 (359) = eJ G 4 (fun _ => 0) := (show σ573 (359) = σ537 (359) by rw [hs574, va_up_ne _ _ (by omega)]).trans hf547
  have hf583 : σ573 (360) = eJ G 96 (fun _ => 0) := (show σ573 (360) = σ537 (360) by rw [hs574, va_up_ne _ _ (by omega)]).trans hf548
  have hf584 : σ573 (361) = eJ G 24 (fun _ => 0) := (show σ573 (361) = σ537 (361) by rw [hs574, va_up_ne _ _ (by omega)]).trans hf549
  have hf585 : σ573 (362) = eJ G 64 (fun _ => 0) := (show σ573 (362) = σ537 (362) by rw [hs574, va_up_ne _ _ (by omega)]).trans hf550
  have hf586 : σ573 (363) = eJ G 64 (fun _ => 0) := (show σ573 (363) = σ537 (363) by rw [hs574, va_up_ne _ _ (by omega)]).trans hf551
  have hf587 : σ573 (364) = eJ G 64 (fun _ => 0) := (show σ573 (364) = σ537 (364) by rw [hs574, va_up_ne _ _ (by omega)]).trans hf552
  have hf588 : σ573 (365) = eJ G 64 (fun _ => 0) := (show σ573 (365) = σ537 (365) by rw [hs574, va_up_ne _ _ (by omega)]).trans hf553
  have hf589 : σ573 (366) = eJ G 64 (fun _ => 0) := (show σ573 (366) = σ537 (366) by rw [hs574, va_up_ne _ _ (by omega)]).trans hf554
  have hf590 : σ573 (367) = eJ G 64 (fun _ => 0) := (show σ573 (367) = σ537 (367) by rw [hs574, va_up_ne _ _ (by omega)]).trans hf555
  have hf591 : σ573 (368) = eJ G 64 (fun _ => 0) := (show σ573 (368) = σ537 (368) by rw [hs574, va_up_ne _ _ (by omega)]).trans hf556
  have hf592 : σ573 (358) = eO 9 [.ref (ad1 359), .int (iv (0)), .ref (ad48 360), .ref (ad96 361), .int (iv (3)), .int (iv (1)), .int (iv (0)), .int (iv (0)), .long (jv (0)), .long (jv (0)), .int (iv (0)), .int (iv (0)), .int (iv (0)), .long (jv (0)), .long (jv (0)), .int (iv (0)), .ref (ad187 362), .ref (ad237 363), .ref (ad288 364), .ref (ad340 365), .ref (ad393 366), .ref (ad447 367), .ref (ad502 368), .null, .null, .null, .int (iv (0)), .null, .null, .null, .null, .int (iv (0)), .int (iv (0))] := (show σ573 (358) = σ537 (358) by rw [hs574, va_up_ne _ _ (by omega)]).trans hf557
  have hf593 : σ573 (369) = eL G 64 (fun _ => 0) := by rw [hs574, va_up_self]
  refine g_putF (i := 358) (fs' := [.ref (ad1 359), .int (iv (0)), .ref (ad48 360), .ref (ad96 361), .int (iv (3)), .int (iv (1)), .int (iv (0)), .int (iv (0)), .long (jv (0)), .long (jv (0)), .int (iv (0)), .int (iv (0)), .int (iv (0)), .long (jv (0)), .long (jv (0)), .int (iv (0)), .ref (ad187 362), .ref (ad237 363), .ref (ad288 364), .ref (ad340 365), .ref (ad393 366), .ref (ad447 367), .ref (ad502 368), .ref (ad558 369), .null, .null, .int (iv (0)), .null, .null, .null, .null, .int (iv (0)), .int (iv (0))]) hX hj559 pF_Mo_47 rfl d_Mo_init_98 (by omega) hf592 rfl rfl (Nat.le_of_ble_eq_true rfl) rfl ?_
  obtain ⟨σ594, hs595⟩ : ∃ s9, s9 = va_up σ573 (358) (eO 9 [.ref (ad1 359), .int (iv (0)), .ref (ad48 360), .ref (ad96 361), .int (iv (3)), .int (iv (1)), .int (iv (0)), .int (iv (0)), .long (jv (0)), .long (jv (0)), .int (iv (0)), .int (iv (0)), .int (iv (0)), .long (jv (0)), .long (jv (0)), .int (iv (0)), .ref (ad187 362), .ref (ad237 363), .ref (ad288 364), .ref (ad340 365), .ref (ad393 366), .ref (ad447 367), .ref (ad502 368), .ref (ad558 369), .null, .null, .int (iv (0)), .null, .null, .null, .null, .int (iv (0)), .int (iv (0))]) := ⟨_, rfl⟩
  rw [← hs595]
  have mo596 : moN σ σ594 := by rw [hs595]; exact moN_up mo575 _ (eO_ne (by decide))
  have hf597 : σ594 (370) = fNo := (show σ594 (370) = σ573 (370) by rw [hs595, va_up_ne _ _ (by omega)]).trans hf576
  have hf598 : σ594 (371) = fNo := (show σ594 (371) = σ573 (371) by rw [hs595, va_up_ne _ _ (by omega)]).trans hf577
  have hf599 : σ594 (372) = fNo := (show σ594 (372) = σ573 (372) by rw [hs595, va_up_ne _ _ (by omega)]).trans hf578
  have hf600 : σ594 (373) = fNo := (show σ594 (373) = σ573 (373) by rw [hs595, va_up_ne _ _ (by omega)]).trans hf579
  have hf601 : σ594 (374) = fNo := (show σ594 (374) = σ573 (374) by rw [hs595, va_up_ne _ _ (by omega)]).trans hf580
  have hf602 : σ594 (375) = fNo := (show σ594 (375) = σ573 (375) by rw [hs595, va_up_ne _ _ (by omega)]).trans hf581
  have hf603 : σ594 (359) = eJ G 4 (fun _ => 0) := (show σ594 (359) = σ573 (359) by rw [hs595, va_up_ne _ _ (by omega)]).trans hf582
  have hf604 : σ594 (360) = eJ G 96 (fun _ => 0) := (show σ594 (360) = σ573 (360) by rw [hs595, va_up_ne _ _ (by omega)]).trans hf583
  have hf605 : σ594 (361) = eJ G 24 (fun _ => 0) := (show σ594 (361) = σ573 (361) by rw [hs595, va_up_ne _ _ (by omega)]).trans hf584
  have hf606 : σ594 (362) = eJ G 64 (fun _ => 0) := (show σ594 (362) = σ573 (362) by rw [hs595, va_up_ne _ _ (by omega)]).trans hf585
  have hf607 : σ594 (363) = eJ G 64 (fun _ => 0) := (show σ594 (363) = σ573 (363) by rw [hs595, va_up_ne _ _ (by omega)]).trans hf586
  have hf608 : σ594 (364) = eJ G 64 (fun _ => 0) := (show σ594 (364) = σ573 (364) by rw [hs595, va_up_ne _ _ (by omega)]).trans hf587
  have hf609 : σ594 (365) = eJ G 64 (fun _ => 0) := (show σ594 (365) = σ573 (365) by rw [hs595, va_up_ne _ _ (by omega)]).trans hf588
  have hf610 : σ594 (366) = eJ G 64 (fun _ => 0) := (show σ594 (366) = σ573 (366) by rw [hs595, va_up_ne _ _ (by omega)]).trans hf589
  have hf611 : σ594 (367) = eJ G 64 (fun _ => 0) := (show σ594 (367) = σ573 (367) by rw [hs595, va_up_ne _ _ (by omega)]).trans hf590
  have hf612 : σ594 (368) = eJ G 64 (fun _ => 0) := (show σ594 (368) = σ573 (368) by rw [hs595, va_up_ne _ _ (by omega)]).trans hf591
  have hf613 : σ594 (369) = eL G 64 (fun _ => 0) := (show σ594 (369) = σ573 (369) by rw [hs595, va_up_ne _ _ (by omega)]).trans hf593
  have hf614 : σ594 (358) = eO 9 [.ref (ad1 359), .int (iv (0)), .ref (ad48 360), .ref (ad96 361), .int (iv (3)), .int (iv (1)), .int (iv (0)), .int (iv (0)), .long (jv (0)), .long (jv (0)), .int (iv (0)), .int (iv (0)), .int (iv (0)), .long (jv (0)), .long (jv (0)), .int (iv (0)), .ref (ad187 362), .ref (ad237 363), .ref (ad288 364), .ref (ad340 365), .ref (ad393 366), .ref (ad447 367), .ref (ad502 368), .ref (ad558 369), .null, .null, .int (iv (0)), .null, .null, .null, .null, .int (iv (0)), .int (iv (0))] := by rw [hs595, va_up_self]
  refine v_aload_n hX d_Mo_init_101 0 rfl ?_
  refine v_bipush hX (64) d_Mo_init_102 rfl ?_
  refine g_newL hX hj559 (g := 370) (by omega) hf597 64 (mT 757 (by decide +kernel) rfl) d_Mo_init_104 rfl (by decide) ⟨by decide, by decide⟩ (fun ad615 hj616 hx617 => ?_)
  have ex618 : exA σ ad ad615 := exA_tr ex561 mo596 hx617
  have e619 : ad615 358 = ad558 358 := hx617 358 (by omega) (by rw [hf614]; exact eO_ne (by decide))
  rw [← e619]
  have t620 : ad615 359 = ad1 359 := (hx617 359 (by omega) (by rw [hf603]; exact eJ_ne)).trans t563
  have t621 : ad615 360 = ad48 360 := (hx617 360 (by omega) (by rw [hf604]; exact eJ_ne)).trans t564
  have t622 : ad615 361 = ad96 361 := (hx617 361 (by omega) (by rw [hf605]; exact eJ_ne)).trans t565
  have t623 : ad615 362 = ad187 362 := (hx617 362 (by omega) (by rw [hf606]; exact eJ_ne)).trans t566
  have t624 : ad615 363 = ad237 363 := (hx617 363 (by omega) (by rw [hf607]; exact eJ_ne)).trans t567
  have t625 : ad615 364 = ad288 364 := (hx617 364 (by omega) (by rw [hf608]; exact eJ_ne)).trans t568
  have t626 : ad615 365 = ad340 365 := (hx617 365 (by omega) (by rw [hf609]; exact eJ_ne)).trans t569
  have t627 : ad615 366 = ad393 366 := (hx617 366 (by omega) (by rw [hf610]; exact eJ_ne)).trans t570
  have t628 : ad615 367 = ad447 367 := (hx617 367 (by omega) (by rw [hf611]; exact eJ_ne)).trans t571
  have t629 : ad615 368 = ad502 368 := (hx617 368 (by omega) (by rw [hf612]; exact eJ_ne)).trans t572
  have t630 : ad615 369 = ad558 369 := (hx617 369 (by omega) (by rw [hf613]; exact eL_ne))
  obtain ⟨σ631, hs632⟩ : ∃ s9, s9 = va_up σ594 (370) (eL G 64 (fun _ => 0)) := ⟨_, rfl⟩
  rw [← hs632]
  have mo633 : moN σ σ631 := by rw [hs632]; exact moN_up mo596 _ eL_ne
  have hf634 : σ631 (371) = fNo := (show σ631 (371) = σ594 (371) by rw [hs632, va_up_ne _ _ (by omega)]).trans hf598
  have hf635 : σ631 (372) = fNo := (show σ631 (372) = σ594 (372) by rw [hs632, va_up_ne _ _ (by omega)]).trans hf599
  have hf636 : σ631 (373) = fNo := (show σ631 (373) = σ594 (373) by rw [hs632, va_up_ne _ _ (by omega)]).trans hf600
  have hf637 : σ631 (374) = fNo := (show σ631 (374) = σ594 (374) by rw [hs632, va_up_ne _ _ (by omega)]).trans hf601
  have hf638 : σ631 (375) = fNo := (show σ631 (375) = σ594 (375) by rw [hs632, va_up_ne _ _ (by omega)]).trans hf602
  have hf639 : σ631 (359) = eJ G 4 (fun _ => 0) := (show σ631 (359) = σ594 (359) by rw [hs632, va_up_ne _ _ (by omega)]).trans hf603
  have hf640 : σ631 (360) = eJ G 96 (fun _ => 0) := (show σ631 (360) = σ594 (360) by rw [hs632, va_up_ne _ _ (by omega)]).trans hf604
  have hf641 : σ631 (361) = eJ G 24 (fun _ => 0) := (show σ631 (361) = σ594 (361) by rw [hs632, va_up_ne _ _ (by omega)]).trans hf605
  have hf642 : σ631 (362) = eJ G 64 (fun _ => 0) := (show σ631 (362) = σ594 (362) by rw [hs632, va_up_ne _ _ (by omega)]).trans hf606
  have hf643 : σ631 (363) = eJ G 64 (fun _ => 0) := (show σ631 (363) = σ594 (363) by rw [hs632, va_up_ne _ _ (by omega)]).trans hf607
  have hf644 : σ631 (364) = eJ G 64 (fun _ => 0) := (show σ631 (364) = σ594 (364) by rw [hs632, va_up_ne _ _ (by omega)]).trans hf608
  have hf645 : σ631 (365) = eJ G 64 (fun _ => 0) := (show σ631 (365) = σ594 (365) by rw [hs632, va_up_ne _ _ (by omega)]).trans hf609
  have hf646 : σ631 (366) = eJ G 64 (fun _ => 0) := (show σ631 (366) = σ594 (366) by rw [hs632, va_up_ne _ _ (by omega)]).trans hf610
  have hf647 : σ631 (367) = eJ G 64 (fun _ => 0) := (show σ631 (367) = σ594 (367) by rw [hs632, va_up_ne _ _ (by omega)]).trans hf611
  have hf648 : σ631 (368) = eJ G 64 (fun _ => 0) := (show σ631 (368) = σ594 (368) by rw [hs632, va_up_ne _ _ (by omega)]).trans hf612
  have hf649 : σ631 (369) = eL G 64 (fun _ => 0) := (show σ631 (369) = σ594 (369) by rw [hs632, va_up_ne _ _ (by omega)]).trans hf613
  have hf650 : σ631 (358) = eO 9 [.ref (ad1 359), .int (iv (0)), .ref (ad48 360), .ref (ad96 361), .int (iv (3)), .int (iv (1)), .int (iv (0)), .int (iv (0)), .long (jv (0)), .long (jv (0)), .int (iv (0)), .int (iv (0)), .int (iv (0)), .long (jv (0)), .long (jv (0)), .int (iv (0)), .ref (ad187 362), .ref (ad237 363), .ref (ad288 364), .ref (ad340 365), .ref (ad393 366), .ref (ad447 367), .ref (ad502 368), .ref (ad558 369), .null, .null, .int (iv (0)), .null, .null, .null, .null, .int (iv (0)), .int (iv (0))] := (show σ631 (358) = σ594 (358) by rw [hs632, va_up_ne _ _ (by omega)]).trans hf614
  have hf651 : σ631 (370) = eL G 64 (fun _ => 0) := by rw [hs632, va_up_self]
  refine g_putF (i := 358) (fs' := [.ref (ad1 359), .int (iv (0)), .ref (ad48 360), .ref (ad96 361), .int (iv (3)), .int (iv (1)), .int (iv (0)), .int (iv (0)), .long (jv (0)), .long (jv (0)), .int (iv (0)), .int (iv (0)), .int (iv (0)), .long (jv (0)), .long (jv (0)), .int (iv (0)), .ref (ad187 362), .ref (ad237 363), .ref (ad288 364), .ref (ad340 365), .ref (ad393 366), .ref (ad447 367), .ref (ad502 368), .ref (ad558 369), .ref (ad615 370), .null, .int (iv (0)), .null, .null, .null, .null, .int (iv (0)), .int (iv (0))]) hX hj616 pF_Mo_51 rfl d_Mo_init_106 (by omega) hf650 rfl rfl (Nat.le_of_ble_eq_true rfl) rfl ?_
  obtain ⟨σ652, hs653⟩ : ∃ s9, s9 = va_up σ631 (358) (eO 9 [.ref (ad1 359), .int (iv (0)), .ref (ad48 360), .ref (ad96 361), .int (iv (3)), .int (iv (1)), .int (iv (0)), .int (iv (0)), .long (jv (0)), .long (jv (0)), .int (iv (0)), .int (iv (0)), .int (iv (0)), .long (jv (0)), .long (jv (0)), .int (iv (0)), .ref (ad187 362), .ref (ad237 363), .ref (ad288 364), .ref (ad340 365), .ref (ad393 366), .ref (ad447 367), .ref (ad502 368), .ref (ad558 369), .ref (ad615 370), .null, .int (iv (0)), .null, .null, .null, .null, .int (iv (0)), .int (iv (0))]) := ⟨_, rfl⟩
  rw [← hs653]
  have mo654 : moN σ σ652 := by rw [hs653]; exact moN_up mo633 _ (eO_ne (by decide))
  have hf655 : σ652 (371) = fNo := (show σ652 (371) = σ631 (371) by rw [hs653, va_up_ne _ _ (by omega)]).trans hf634
  have hf656 : σ652 (372) = fNo := (show σ652 (372) = σ631 (372) by rw [hs653, va_up_ne _ _ (by omega)]).trans hf635
  have hf657 : σ652 (373) = fNo := (show σ652 (373) = σ631 (373) by rw [hs653, va_up_ne _ _ (by omega)]).trans hf636
  have hf658 : σ652 (374) = fNo := (show σ652 (374) = σ631 (374) by rw [hs653, va_up_ne _ _ (by omega)]).trans hf637
  have hf659 : σ652 (375) = fNo := (show σ652 (375) = σ631 (375) by rw [hs653, va_up_ne _ _ (by omega)]).trans hf638
  have hf660 : σ652 (359) = eJ G 4 (fun _ => 0) := (show σ652 (359) = σ631 (359) by rw [hs653, va_up_ne _ _ (by omega)]).trans hf639
  have hf661 : σ652 (360) = eJ G 96 (fun _ => 0) := (show σ652 (360) = σ631 (360) by rw [hs653, va_up_ne _ _ (by omega)]).trans hf640
  have hf662 : σ652 (361) = eJ G 24 (fun _ => 0) := (show σ652 (361) = σ631 (361) by rw [hs653, va_up_ne _ _ (by omega)]).trans hf641
  have hf663 : σ652 (362) = eJ G 64 (fun _ => 0) := (show σ652 (362) = σ631 (362) by rw [hs653, va_up_ne _ _ (by omega)]).trans hf642
  have hf664 : σ652 (363) = eJ G 64 (fun _ => 0) := (show σ652 (363) = σ631 (363) by rw [hs653, va_up_ne _ _ (by omega)]).trans hf643
  have hf665 : σ652 (364) = eJ G 64 (fun _ => 0) := (show σ652 (364) = σ631 (364) by rw [hs653, va_up_ne _ _ (by omega)]).trans hf644
  have hf666 : σ652 (365) = eJ G 64 (fun _ => 0) := (show σ652 (365) = σ631 (365) by rw [hs653, va_up_ne _ _ (by omega)]).trans hf645
  have hf667 : σ652 (366) = eJ G 64 (fun _ => 0) := (show σ652 (366) = σ631 (366) by rw [hs653, va_up_ne _ _ (by omega)]).trans hf646
  have hf668 : σ652 (367) = eJ G 64 (fun _ => 0) := (show σ652 (367) = σ631 (367) by rw [hs653, va_up_ne _ _ (by omega)]).trans hf647
  have hf669 : σ652 (368) = eJ G 64 (fun _ => 0) := (show σ652 (368) = σ631 (368) by rw [hs653, va_up_ne _ _ (by omega)]).trans hf648
  have hf670 : σ652 (369) = eL G 64 (fun _ => 0) := (show σ652 (369) = σ631 (369) by rw [hs653, va_up_ne _ _ (by omega)]).trans hf649
  have hf671 : σ652 (370) = eL G 64 (fun _ => 0) := (show σ652 (370) = σ631 (370) by rw [hs653, va_up_ne _ _ (by omega)]).trans hf651
  have hf672 : σ652 (358) = eO 9 [.ref (ad1 359), .int (iv (0)), .ref (ad48 360), .ref (ad96 361), .int (iv (3)), .int (iv (1)), .int (iv (0)), .int (iv (0)), .long (jv (0)), .long (jv (0)), .int (iv (0)), .int (iv (0)), .int (iv (0)), .long (jv (0)), .long (jv (0)), .int (iv (0)), .ref (ad187 362), .ref (ad237 363), .ref (ad288 364), .ref (ad340 365), .ref (ad393 366), .ref (ad447 367), .ref (ad502 368), .ref (ad558 369), .ref (ad615 370), .null, .int (iv (0)), .null, .null, .null, .null, .int (iv (0)), .int (iv (0))] := by rw [hs653, va_up_self]
  refine v_aload_n hX d_Mo_init_109 0 rfl ?_
  refine v_iconst hX (4) d_Mo_init_110 ?_
  refine g_newJ hX hj616 (g := 371) (by omega) hf655 4 (mT 97 (by decide +kernel) rfl) d_Mo_init_111 rfl (by decide) ⟨by decide, by decide⟩ (fun ad673 hj674 hx675 => ?_)
  have ex676 : exA σ ad ad673 := exA_tr ex618 mo654 hx675
  have e677 : ad673 358 = ad615 358 := hx675 358 (by omega) (by rw [hf672]; exact eO_ne (by decide))
  rw [← e677]
  have t678 : ad673 359 = ad1 359 := (hx675 359 (by omega) (by rw [hf660]; exact eJ_ne)).trans t620
  have t679 : ad673 360 = ad48 360 := (hx675 360 (by omega) (by rw [hf661]; exact eJ_ne)).trans t621
  have t680 : ad673 361 = ad96 361 := (hx675 361 (by omega) (by rw [hf662]; exact eJ_ne)).trans t622
  have t681 : ad673 362 = ad187 362 := (hx675 362 (by omega) (by rw [hf663]; exact eJ_ne)).trans t623
  have t682 : ad673 363 = ad237 363 := (hx675 363 (by omega) (by rw [hf664]; exact eJ_ne)).trans t624
  have t683 : ad673 364 = ad288 364 := (hx675 364 (by omega) (by rw [hf665]; exact eJ_ne)).trans t625
  have t684 : ad673 365 = ad340 365 := (hx675 365 (by omega) (by rw [hf666]; exact eJ_ne)).trans t626
  have t685 : ad673 366 = ad393 366 := (hx675 366 (by omega) (by rw [hf667]; exact eJ_ne)).trans t627
  have t686 : ad673 367 = ad447 367 := (hx675 367 (by omega) (by rw [hf668]; exact eJ_ne)).trans t628
  have t687 : ad673 368 = ad502 368 := (hx675 368 (by omega) (by rw [hf669]; exact eJ_ne)).trans t629
  have t688 : ad673 369 = ad558 369 := (hx675 369 (by omega) (by rw [hf670]; exact eL_ne)).trans t630
  have t689 : ad673 370 = ad615 370 := (hx675 370 (by omega) (by rw [hf671]; exact eL_ne))
  obtain ⟨σ690, hs691⟩ : ∃ s9, s9 = va_up σ652 (371) (eJ G 4 (fun _ => 0)) := ⟨_, rfl⟩
  rw [← hs691]
  have mo692 : moN σ σ690 := by rw [hs691]; exact moN_up mo654 _ eJ_ne
  have hf693 : σ690 (372) = fNo := (show σ690 (372) = σ652 (372) by rw [hs691, va_up_ne _ _ (by omega)]).trans hf656
  have hf694 : σ690 (373) = fNo := (show σ690 (373) = σ652 (373) by rw [hs691, va_up_ne _ _ (by omega)]).trans hf657
  have hf695 : σ690 (374) = fNo := (show σ690 (374) = σ652 (374) by rw [hs691, va_up_ne _ _ (by omega)]).trans hf658
  have hf696 : σ690 (375) = fNo := (show σ690 (375) = σ652 (375) by rw [hs691, va_up_ne _ _ (by omega)]).trans hf659
  have hf697 : σ690 (359) = eJ G 4 (fun _ => 0) := (show σ690 (359) = σ652 (359) by rw [hs691, va_up_ne _ _ (by omega)]).trans hf660
  have hf698 : σ690 (360) = eJ G 96 (fun _ => 0) := (show σ690 (360) = σ652 (360) by rw [hs691, va_up_ne _ _ (by omega)]).trans hf661
  have hf699 : σ690 (361) = eJ G 24 (fun _ => 0) := (show σ690 (361) = σ652 (361) by rw [hs691, va_up_ne _ _ (by omega)]).trans hf662
  have hf700 : σ690 (362) = eJ G 64 (fun _ => 0) := (show σ690 (362) = σ652 (362) by rw [hs691, va_up_ne _ _ (by omega)]).trans hf663
  have hf701 : σ690 (363) = eJ G 64 (fun _ => 0) := (show σ690 (363) = σ652 (363) by rw [hs691, va_up_ne _ _ (by omega)]).trans hf664
  have hf702 : σ690 (364) = eJ G 64 (fun _ => 0) := (show σ690 (364) = σ652 (364) by rw [hs691, va_up_ne _ _ (by omega)]).trans hf665
  have hf703 : σ690 (365) = eJ G 64 (fun _ => 0) := (show σ690 (365) = σ652 (365) by rw [hs691, va_up_ne _ _ (by omega)]).trans hf666
  have hf704 : σ690 (366) = eJ G 64 (fun _ => 0) := (show σ690 (366) = σ652 (366) by rw [hs691, va_up_ne _ _ (by omega)]).trans hf667
  have hf705 : σ690 (367) = eJ G 64 (fun _ => 0) := (show σ690 (367) = σ652 (367) by rw [hs691, va_up_ne _ _ (by omega)]).trans hf668
  have hf706 : σ690 (368) = eJ G 64 (fun _ => 0) := (show σ690 (368) = σ652 (368) by rw [hs691, va_up_ne _ _ (by omega)]).trans hf669
  have hf707 : σ690 (369) = eL G 64 (fun _ => 0) := (show σ690 (369) = σ652 (369) by rw [hs691, va_up_ne _ _ (by omega)]).trans hf670
  have hf708 : σ690 (370) = eL G 64 (fun _ => 0) := (show σ690 (370) = σ652 (370) by rw [hs691, va_up_ne _ _ (by omega)]).trans hf671
  have hf709 : σ690 (358) = eO 9 [.ref (ad1 359), .int (iv (0)), .ref (ad48 360), .ref (ad96 361), .int (iv (3)), .int (iv (1)), .int (iv (0)), .int (iv (0)), .long (jv (0)), .long (jv (0)), .int (iv (0)), .int (iv (0)), .int (iv (0)), .long (jv (0)), .long (jv (0)), .int (iv (0)), .ref (ad187 362), .ref (ad237 363), .ref (ad288 364), .ref (ad340 365), .ref (ad393 366), .ref (ad447 367), .ref (ad502 368), .ref (ad558 369), .ref (ad615 370), .null, .int (iv (0)), .null, .null, .null, .null, .int (iv (0)), .int (iv (0))] := (show σ690 (358) = σ652 (358) by rw [hs691, va_up_ne _ _ (by omega)]).trans hf672
  have hf710 : σ690 (371) = eJ G 4 (fun _ => 0) := by rw [hs691, va_up_self]
  refine g_putF (i := 358) (fs' := [.ref (ad1 359), .int (iv (0)), .ref (ad48 360), .ref (ad96 361), .int (iv (3)), .int (iv (1)), .int (iv (0)), .int (iv (0)), .long (jv (0)), .long (jv (0)), .int (iv (0)), .int (iv (0)), .int (iv (0)), .long (jv (0)), .long (jv (0)), .int (iv (0)), .ref (ad187 362), .ref (ad237 363), .ref (ad288 364), .ref (ad340 365), .ref (ad393 366), .ref (ad447 367), .ref (ad502 368), .ref (ad558 369), .ref (ad615 370), .ref (ad673 371), .int (iv (0)), .null, .null, .null, .null, .int (iv (0)), .int (iv (0))]) hX hj674 pF_Mo_54 rfl d_Mo_init_113 (by omega) hf709 rfl rfl (Nat.le_of_ble_eq_true rfl) rfl ?_
  obtain ⟨σ711, hs712⟩ : ∃ s9, s9 = va_up σ690 (358) (eO 9 [.ref (ad1 359), .int (iv (0)), .ref (ad48 360), .ref (ad96 361), .int (iv (3)), .int (iv (1)), .int (iv (0)), .int (iv (0)), .long (jv (0)), .long (jv (0)), .int (iv (0)), .int (iv (0)), .int (iv (0)), .long (jv (0)), .long (jv (0)), .int (iv (0)), .ref (ad187 362), .ref (ad237 363), .ref (ad288 364), .ref (ad340 365), .ref (ad393 366), .ref (ad447 367), .ref (ad502 368), .ref (ad558 369), .ref (ad615 370), .ref (ad673 371), .int (iv (0)), .null, .null, .null, .null, .int (iv (0)), .int (iv (0))]) := ⟨_, rfl⟩
  rw [← hs712]
  have mo713 : moN σ σ711 := by rw [hs712]; exact moN_up mo692 _ (eO_ne (by decide))
  have hf714 : σ711 (372) = fNo := (show σ711 (372) = σ690 (372) by rw [hs712, va_up_ne _ _ (by omega)]).trans hf693
  have hf715 : σ711 (373) = fNo := (show σ711 (373) = σ690 (373) by rw [hs712, va_up_ne _ _ (by omega)]).trans hf694
  have hf716 : σ711 (374) = fNo := (show σ711 (374) = σ690 (374) by rw [hs712, va_up_ne _ _ (by omega)]).trans hf695
  have hf717 : σ711 (375) = fNo := (show σ711 (375) = σ690 (375) by rw [hs712, va_up_ne _ _ (by omega)]).trans hf696
  have hf718 : σ711 (359) = eJ G 4 (fun _ => 0) := (show σ711 (359) = σ690 (359) by rw [hs712, va_up_ne _ _ (by omega)]).trans hf697
  have hf719 : σ711 (360) = eJ G 96 (fun _ => 0) := (show σ711 (360) = σ690 (360) by rw [hs712, va_up_ne _ _ (by omega)]).trans hf698
  have hf720 : σ711 (361) = eJ G 24 (fun _ => 0) := (show σ711 (361) = σ690 (361) by rw [hs712, va_up_ne _ _ (by omega)]).trans hf699
  have hf721 : σ711 (362) = eJ G 64 (fun _ => 0) := (show σ711 (362) = σ690 (362) by rw [hs712, va_up_ne _ _ (by omega)]).trans hf700
  have hf722 : σ711 (363) = eJ G 64 (fun _ => 0) := (show σ711 (363) = σ690 (363) by rw [hs712, va_up_ne _ _ (by omega)]).trans hf701
  have hf723 : σ711 (364) = eJ G 64 (fun _ => 0) := (show σ711 (364) = σ690 (364) by rw [hs712, va_up_ne _ _ (by omega)]).trans hf702
  have hf724 : σ711 (365) = eJ G 64 (fun _ => 0) := (show σ711 (365) = σ690 (365) by rw [hs712, va_up_ne _ _ (by omega)]).trans hf703
  have hf725 : σ711 (366) = eJ G 64 (fun _ => 0) := (show σ711 (366) = σ690 (366) by rw [hs712, va_up_ne _ _ (by omega)]).trans hf704
  have hf726 : σ711 (367) = eJ G 64 (fun _ => 0) := (show σ711 (367) = σ690 (367) by rw [hs712, va_up_ne _ _ (by omega)]).trans hf705
  have hf727 : σ711 (368) = eJ G 64 (fun _ => 0) := (show σ711 (368) = σ690 (368) by rw [hs712, va_up_ne _ _ (by omega)]).trans hf706
  have hf728 : σ711 (369) = eL G 64 (fun _ => 0) := (show σ711 (369) = σ690 (369) by rw [hs712, va_up_ne _ _ (by omega)]).trans hf707
  have hf729 : σ711 (370) = eL G 64 (fun _ => 0) := (show σ711 (370) = σ690 (370) by rw [hs712, va_up_ne _ _ (by omega)]).trans hf708
  have hf730 : σ711 (371) = eJ G 4 (fun _ => 0) := (show σ711 (371) = σ690 (371) by rw [hs712, va_up_ne _ _ (by omega)]).trans hf710
  have hf731 : σ711 (358) = eO 9 [.ref (ad1 359), .int (iv (0)), .ref (ad48 360), .ref (ad96 361), .int (iv (3)), .int (iv (1)), .int (iv (0)), .int (iv (0)), .long (jv (0)), .long (jv (0)), .int (iv (0)), .int (iv (0)), .int (iv (0)), .long (jv (0)), .long (jv (0)), .int (iv (0)), .ref (ad187 362), .ref (ad237 363), .ref (ad288 364), .ref (ad340 365), .ref (ad393 366), .ref (ad447 367), .ref (ad502 368), .ref (ad558 369), .ref (ad615 370), .ref (ad673 371), .int (iv (0)), .null, .null, .null, .null, .int (iv (0)), .int (iv (0))] := by rw [hs712, va_up_self]
  refine v_aload_n hX d_Mo_init_116 0 rfl ?_
  refine v_sipush hX (3072) d_Mo_init_117 rfl ?_
  refine g_newJ hX hj674 (g := 372) (by omega) hf714 3072 (mT 97 (by decide +kernel) rfl) d_Mo_init_120 rfl (by decide) ⟨by decide, by decide⟩ (fun ad732 hj733 hx734 => ?_)
  have ex735 : exA σ ad ad732 := exA_tr ex676 mo713 hx734
  have e736 : ad732 358 = ad673 358 := hx734 358 (by omega) (by rw [hf731]; exact eO_ne (by decide))
  rw [← e736]
  have t737 : ad732 359 = ad1 359 := (hx734 359 (by omega) (by rw [hf718]; exact eJ_ne)).trans t678
  have t738 : ad732 360 = ad48 360 := (hx734 360 (by omega) (by rw [hf719]; exact eJ_ne)).trans t679
  have t739 : ad732 361 = ad96 361 := (hx734 361 (by omega) (by rw [hf720]; exact eJ_ne)).trans t680
  have t740 : ad732 362 = ad187 362 := (hx734 362 (by omega) (by rw [hf721]; exact eJ_ne)).trans t681
  have t741 : ad732 363 = ad237 363 := (hx734 363 (by omega) (by rw [hf722]; exact eJ_ne)).trans t682
  have t742 : ad732 364 = ad288 364 := (hx734 364 (by omega) (by rw [hf723]; exact eJ_ne)).trans t683
  have t743 : ad732 365 = ad340 365 := (hx734 365 (by omega) (by rw [hf724]; exact eJ_ne)).trans t684
  have t744 : ad732 366 = ad393 366 := (hx734 366 (by omega) (by rw [hf725]; exact eJ_ne)).trans t685
  have t745 : ad732 367 = ad447 367 := (hx734 367 (by omega) (by rw [hf726]; exact eJ_ne)).trans t686
  have t746 : ad732 368 = ad502 368 := (hx734 368 (by omega) (by rw [hf727]; exact eJ_ne)).trans t687
  have t747 : ad732 369 = ad558 369 := (hx734 369 (by omega) (by rw [hf728]; exact eL_ne)).trans t688
  have t748 : ad732 370 = ad615 370 := (hx734 370 (by omega) (by rw [hf729]; exact eL_ne)).trans t689
  have t749 : ad732 371 = ad673 371 := (hx734 371 (by omega) (by rw [hf730]; exact eJ_ne))
  obtain ⟨σ750, hs751⟩ : ∃ s9, s9 = va_up σ711 (372) (eJ G 3072 (fun _ => 0)) := ⟨_, rfl⟩
  rw [← hs751]
  have mo752 : moN σ σ750 := by rw [hs751]; exact moN_up mo713 _ eJ_ne
  have hf753 : σ750 (373) = fNo := (show σ750 (373) = σ711 (373) by rw [hs751, va_up_ne _ _ (by omega)]).trans hf715
  have hf754 : σ750 (374) = fNo := (show σ750 (374) = σ711 (374) by rw [hs751, va_up_ne _ _ (by omega)]).trans hf716
  have hf755 : σ750 (375) = fNo := (show σ750 (375) = σ711 (375) by rw [hs751, va_up_ne _ _ (by omega)]).trans hf717
  have hf756 : σ750 (359) = eJ G 4 (fun _ => 0) := (show σ750 (359) = σ711 (359) by rw [hs751, va_up_ne _ _ (by omega)]).trans hf718
  have hf757 : σ750 (360) = eJ G 96 (fun _ => 0) := (show σ750 (360) = σ711 (360) by rw [hs751, va_up_ne _ _ (by omega)]).trans hf719
  have hf758 : σ750 (361) = eJ G 24 (fun _ => 0) := (show σ750 (361) = σ711 (361) by rw [hs751, va_up_ne _ _ (by omega)]).trans hf720
  have hf759 : σ750 (362) = eJ G 64 (fun _ => 0) := (show σ750 (362) = σ711 (362) by rw [hs751, va_up_ne _ _ (by omega)]).trans hf721
  have hf760 : σ750 (363) = eJ G 64 (fun _ => 0) := (show σ750 (363) = σ711 (363) by rw [hs751, va_up_ne _ _ (by omega)]).trans hf722
  have hf761 : σ750 (364) = eJ G 64 (fun _ => 0) := (show σ750 (364) = σ711 (364) by rw [hs751, va_up_ne _ _ (by omega)]).trans hf723
  have hf762 : σ750 (365) = eJ G 64 (fun _ => 0) := (show σ750 (365) = σ711 (365) by rw [hs751, va_up_ne _ _ (by omega)]).trans hf724
  have hf763 : σ750 (366) = eJ G 64 (fun _ => 0) := (show σ750 (366) = σ711 (366) by rw [hs751, va_up_ne _ _ (by omega)]).trans hf725
  have hf764 : σ750 (367) = eJ G 64 (fun _ => 0) := (show σ750 (367) = σ711 (367) by rw [hs751, va_up_ne _ _ (by omega)]).trans hf726
  have hf765 : σ750 (368) = eJ G 64 (fun _ => 0) := (show σ750 (368) = σ711 (368) by rw [hs751, va_up_ne _ _ (by omega)]).trans hf727
  have hf766 : σ750 (369) = eL G 64 (fun _ => 0) := (show σ750 (369) = σ711 (369) by rw [hs751, va_up_ne _ _ (by omega)]).trans hf728
  have hf767 : σ750 (370) = eL G 64 (fun _ => 0) := (show σ750 (370) = σ711 (370) by rw [hs751, va_up_ne _ _ (by omega)]).trans hf729
  have hf768 : σ750 (371) = eJ G 4 (fun _ => 0) := (show σ750 (371) = σ711 (371) by rw [hs751, va_up_ne _ _ (by omega)]).trans hf730
  have hf769 : σ750 (358) = eO 9 [.ref (ad1 359), .int (iv (0)), .ref (ad48 360), .ref (ad96 361), .int (iv (3)), .int (iv (1)), .int (iv (0)), .int (iv (0)), .long (jv (0)), .long (jv (0)), .int (iv (0)), .int (iv (0)), .int (iv (0)), .long (jv (0)), .long (jv (0)), .int (iv (0)), .ref (ad187 362), .ref (ad237 363), .ref (ad288 364), .ref (ad340 365), .ref (ad393 366), .ref (ad447 367), .ref (ad502 368), .ref (ad558 369), .ref (ad615 370), .ref (ad673 371), .int (iv (0)), .null, .null, .null, .null, .int (iv (0)), .int (iv (0))] := (show σ750 (358) = σ711 (358) by rw [hs751, va_up_ne _ _ (by omega)]).trans hf731
  have hf770 : σ750 (372) = eJ G 3072 (fun _ => 0) := by rw [hs751, va_up_self]
  refine g_putF (i := 358) (fs' := [.ref (ad1 359), .int (iv (0)), .ref (ad48 360), .ref (ad96 361), .int (iv (3)), .int (iv (1)), .int (iv (0)), .int (iv (0)), .long (jv (0)), .long (jv (0)), .int (iv (0)), .int (iv (0)), .int (iv (0)), .long (jv (0)), .long (jv (0)), .int (iv (0)), .ref (ad187 362), .ref (ad237 363), .ref (ad288 364), .ref (ad340 365), .ref (ad393 366), .ref (ad447 367), .ref (ad502 368), .ref (ad558 369), .ref (ad615 370), .ref (ad673 371), .int (iv (0)), .ref (ad732 372), .null, .null, .null, .int (iv (0)), .int (iv (0))]) hX hj733 pF_Mo_57 rfl d_Mo_init_122 (by omega) hf769 rfl rfl (Nat.le_of_ble_eq_true rfl) rfl ?_
  obtain ⟨σ771, hs772⟩ : ∃ s9, s9 = va_up σ750 (358) (eO 9 [.ref (ad1 359), .int (iv (0)), .ref (ad48 360), .ref (ad96 361), .int (iv (3)), .int (iv (1)), .int (iv (0)), .int (iv (0)), .long (jv (0)), .long (jv (0)), .int (iv (0)), .int (iv (0)), .int (iv (0)), .long (jv (0)), .long (jv (0)), .int (iv (0)), .ref (ad187 362), .ref (ad237 363), .ref (ad288 364), .ref (ad340 365), .ref (ad393 366), .ref (ad447 367), .ref (ad502 368), .ref (ad558 369), .ref (ad615 370), .ref (ad673 371), .int (iv (0)), .ref (ad732 372), .null, .null, .null, .int (iv (0)), .int (iv (0))]) := ⟨_, rfl⟩
  rw [← hs772]
  have mo773 : moN σ σ771 := by rw [hs772]; exact moN_up mo752 _ (eO_ne (by decide))
  have hf774 : σ771 (373) = fNo := (show σ771 (373) = σ750 (373) by rw [hs772, va_up_ne _ _ (by omega)]).trans hf753
  have hf775 : σ771 (374) = fNo := (show σ771 (374) = σ750 (374) by rw [hs772, va_up_ne _ _ (by omega)]).trans hf754
  have hf776 : σ771 (375) = fNo := (show σ771 (375) = σ750 (375) by rw [hs772, va_up_ne _ _ (by omega)]).trans hf755
  have hf777 : σ771 (359) = eJ G 4 (fun _ => 0) := (show σ771 (359) = σ750 (359) by rw [hs772, va_up_ne _ _ (by omega)]).trans hf756
  have hf778 : σ771 (360) = eJ G 96 (fun _ => 0) := (show σ771 (360) = σ750 (360) by rw [hs772, va_up_ne _ _ (by omega)]).trans hf757
  have hf779 : σ771 (361) = eJ G 24 (fun _ => 0) := (show σ771 (361) = σ750 (361) by rw [hs772, va_up_ne _ _ (by omega)]).trans hf758
  have hf780 : σ771 (362) = eJ G 64 (fun _ => 0) := (show σ771 (362) = σ750 (362) by rw [hs772, va_up_ne _ _ (by omega)]).trans hf759
  have hf781 : σ771 (363) = eJ G 64 (fun _ => 0) := (show σ771 (363) = σ750 (363) by rw [hs772, va_up_ne _ _ (by omega)]).trans hf760
  have hf782 : σ771 (364) = eJ G 64 (fun _ => 0) := (show σ771 (364) = σ750 (364) by rw [hs772, va_up_ne _ _ (by omega)]).trans hf761
  have hf783 : σ771 (365) = eJ G 64 (fun _ => 0) := (show σ771 (365) = σ750 (365) by rw [hs772, va_up_ne _ _ (by omega)]).trans hf762
  have hf784 : σ771 (366) = eJ G 64 (fun _ => 0) := (show σ771 (366) = σ750 (366) by rw [hs772, va_up_ne _ _ (by omega)]).trans hf763
  have hf785 : σ771 (367) = eJ G 64 (fun _ => 0) := (show σ771 (367) = σ750 (367) by rw [hs772, va_up_ne _ _ (by omega)]).trans hf764
  have hf786 : σ771 (368) = eJ G 64 (fun _ => 0) := (show σ771 (368) = σ750 (368) by rw [hs772, va_up_ne _ _ (by omega)]).trans hf765
  have hf787 : σ771 (369) = eL G 64 (fun _ => 0) := (show σ771 (369) = σ750 (369) by rw [hs772, va_up_ne _ _ (by omega)]).trans hf766
  have hf788 : σ771 (370) = eL G 64 (fun _ => 0) := (show σ771 (370) = σ750 (370) by rw [hs772, va_up_ne _ _ (by omega)]).trans hf767
  have hf789 : σ771 (371) = eJ G 4 (fun _ => 0) := (show σ771 (371) = σ750 (371) by rw [hs772, va_up_ne _ _ (by omega)]).trans hf768
  have hf790 : σ771 (372) = eJ G 3072 (fun _ => 0) := (show σ771 (372) = σ750 (372) by rw [hs772, va_up_ne _ _ (by omega)]).trans hf770
  have hf791 : σ771 (358) = eO 9 [.ref (ad1 359), .int (iv (0)), .ref (ad48 360), .ref (ad96 361), .int (iv (3)), .int (iv (1)), .int (iv (0)), .int (iv (0)), .long (jv (0)), .long (jv (0)), .int (iv (0)), .int (iv (0)), .int (iv (0)), .long (jv (0)), .long (jv (0)), .int (iv (0)), .ref (ad187 362), .ref (ad237 363), .ref (ad288 364), .ref (ad340 365), .ref (ad393 366), .ref (ad447 367), .ref (ad502 368), .ref (ad558 369), .ref (ad615 370), .ref (ad673 371), .int (iv (0)), .ref (ad732 372), .null, .null, .null, .int (iv (0)), .int (iv (0))] := by rw [hs772, va_up_self]
  refine v_aload_n hX d_Mo_init_125 0 rfl ?_
  refine v_bipush hX (48) d_Mo_init_126 rfl ?_
  refine g_newL hX hj733 (g := 373) (by omega) hf774 48 (mT 757 (by decide +kernel) rfl) d_Mo_init_128 rfl (by decide) ⟨by decide, by decide⟩ (fun ad792 hj793 hx794 => ?_)
  have ex795 : exA σ ad ad792 := exA_tr ex735 mo773 hx794
  have e796 : ad792 358 = ad732 358 := hx794 358 (by omega) (by rw [hf791]; exact eO_ne (by decide))
  rw [← e796]
  have t797 : ad792 359 = ad1 359 := (hx794 359 (by omega) (by rw [hf777]; exact eJ_ne)).trans t737
  have t798 : ad792 360 = ad48 360 := (hx794 360 (by omega) (by rw [hf778]; exact eJ_ne)).trans t738
  have t799 : ad792 361 = ad96 361 := (hx794 361 (by omega) (by rw [hf779]; exact eJ_ne)).trans t739
  have t800 : ad792 362 = ad187 362 := (hx794 362 (by omega) (by rw [hf780]; exact eJ_ne)).trans t740
  have t801 : ad792 363 = ad237 363 := (hx794 363 (by omega) (by rw [hf781]; exact eJ_ne)).trans t741
  have t802 : ad792 364 = ad288 364 := (hx794 364 (by omega) (by rw [hf782]; exact eJ_ne)).trans t742
  have t803 : ad792 365 = ad340 365 := (hx794 365 (by omega) (by rw [hf783]; exact eJ_ne)).trans t743
  have t804 : ad792 366 = ad393 366 := (hx794 366 (by omega) (by rw [hf784]; exact eJ_ne)).trans t744
  have t805 : ad792 367 = ad447 367 := (hx794 367 (by omega) (by rw [hf785]; exact eJ_ne)).trans t745
  have t806 : ad792 368 = ad502 368 := (hx794 368 (by omega) (by rw [hf786]; exact eJ_ne)).trans t746
  have t807 : ad792 369 = ad558 369 := (hx794 369 (by omega) (by rw [hf787]; exact eL_ne)).trans t747
  have t808 : ad792 370 = ad615 370 := (hx794 370 (by omega) (by rw [hf788]; exact eL_ne)).trans t748
  have t809 : ad792 371 = ad673 371 := (hx794 371 (by omega) (by rw [hf789]; exact eJ_ne)).trans t749
  have t810 : ad792 372 = ad732 372 := (hx794 372 (by omega) (by rw [hf790]; exact eJ_ne))
  obtain ⟨σ811, hs812⟩ : ∃ s9, s9 = va_up σ771 (373) (eL G 48 (fun _ => 0)) := ⟨_, rfl⟩
  rw [← hs812]
  have mo813 : moN σ σ811 := by rw [hs812]; exact moN_up mo773 _ eL_ne
  have hf814 : σ811 (374) = fNo := (show σ811 (374) = σ771 (374) by rw [hs812, va_up_ne _ _ (by omega)]).trans hf775
  have hf815 : σ811 (375) = fNo := (show σ811 (375) = σ771 (375) by rw [hs812, va_up_ne _ _ (by omega)]).trans hf776
  have hf816 : σ811 (359) = eJ G 4 (fun _ => 0) := (show σ811 (359) = σ771 (359) by rw [hs812, va_up_ne _ _ (by omega)]).trans hf777
  have hf817 : σ811 (360) = eJ G 96 (fun _ => 0) := (show σ811 (360) = σ771 (360) by rw [hs812, va_up_ne _ _ (by omega)]).trans hf778
  have hf818 : σ811 (361) = eJ G 24 (fun _ => 0) := (show σ811 (361) = σ771 (361) by rw [hs812, va_up_ne _ _ (by omega)]).trans hf779
  have hf819 : σ811 (362) = eJ G 64 (fun _ => 0) := (show σ811 (362) = σ771 (362) by rw [hs812, va_up_ne _ _ (by omega)]).trans hf780
  have hf820 : σ811 (363) = eJ G 64 (fun _ => 0) := (show σ811 (363) = σ771 (363) by rw [hs812, va_up_ne _ _ (by omega)]).trans hf781
  have hf821 : σ811 (364) = eJ G 64 (fun _ => 0) := (show σ811 (364) = σ771 (364) by rw [hs812, va_up_ne _ _ (by omega)]).trans hf782
  have hf822 : σ811 (365) = eJ G 64 (fun _ => 0) := (show σ811 (365) = σ771 (365) by rw [hs812, va_up_ne _ _ (by omega)]).trans hf783
  have hf823 : σ811 (366) = eJ G 64 (fun _ => 0) := (show σ811 (366) = σ771 (366) by rw [hs812, va_up_ne _ _ (by omega)]).trans hf784
  have hf824 : σ811 (367) = eJ G 64 (fun _ => 0) := (show σ811 (367) = σ771 (367) by rw [hs812, va_up_ne _ _ (by omega)]).trans hf785
  have hf825 : σ811 (368) = eJ G 64 (fun _ => 0) := (show σ811 (368) = σ771 (368) by rw [hs812, va_up_ne _ _ (by omega)]).trans hf786
  have hf826 : σ811 (369) = eL G 64 (fun _ => 0) := (show σ811 (369) = σ771 (369) by rw [hs812, va_up_ne _ _ (by omega)]).trans hf787
  have hf827 : σ811 (370) = eL G 64 (fun _ => 0) := (show σ811 (370) = σ771 (370) by rw [hs812, va_up_ne _ _ (by omega)]).trans hf788
  have hf828 : σ811 (371) = eJ G 4 (fun _ => 0) := (show σ811 (371) = σ771 (371) by rw [hs812, va_up_ne _ _ (by omega)]).trans hf789
  have hf829 : σ811 (372) = eJ G 3072 (fun _ => 0) := (show σ811 (372) = σ771 (372) by rw [hs812, va_up_ne _ _ (by omega)]).trans hf790
  have hf830 : σ811 (358) = eO 9 [.ref (ad1 359), .int (iv (0)), .ref (ad48 360), .ref (ad96 361), .int (iv (3)), .int (iv (1)), .int (iv (0)), .int (iv (0)), .long (jv (0)), .long (jv (0)), .int (iv (0)), .int (iv (0)), .int (iv (0)), .long (jv (0)), .long (jv (0)), .int (iv (0)), .ref (ad187 362), .ref (ad237 363), .ref (ad288 364), .ref (ad340 365), .ref (ad393 366), .ref (ad447 367), .ref (ad502 368), .ref (ad558 369), .ref (ad615 370), .ref (ad673 371), .int (iv (0)), .ref (ad732 372), .null, .null, .null, .int (iv (0)), .int (iv (0))] := (show σ811 (358) = σ771 (358) by rw [hs812, va_up_ne _ _ (by omega)]).trans hf791
  have hf831 : σ811 (373) = eL G 48 (fun _ => 0) := by rw [hs812, va_up_self]
  refine g_putF (i := 358) (fs' := [.ref (ad1 359), .int (iv (0)), .ref (ad48 360), .ref (ad96 361), .int (iv (3)), .int (iv (1)), .int (iv (0)), .int (iv (0)), .long (jv (0)), .long (jv (0)), .int (iv (0)), .int (iv (0)), .int (iv (0)), .long (jv (0)), .long (jv (0)), .int (iv (0)), .ref (ad187 362), .ref (ad237 363), .ref (ad288 364), .ref (ad340 365), .ref (ad393 366), .ref (ad447 367), .ref (ad502 368), .ref (ad558 369), .ref (ad615 370), .ref (ad673 371), .int (iv (0)), .ref (ad732 372), .ref (ad792 373), .null, .null, .int (iv (0)), .int (iv (0))]) hX hj793 pF_Mo_60 rfl d_Mo_init_130 (by omega) hf830 rfl rfl (Nat.le_of_ble_eq_true rfl) rfl ?_
  obtain ⟨σ832, hs833⟩ : ∃ s9, s9 = va_up σ811 (358) (eO 9 [.ref (ad1 359), .int (iv (0)), .ref (ad48 360), .ref (ad96 361), .int (iv (3)), .int (iv (1)), .int (iv (0)), .int (iv (0)), .long (jv (0)), .long (jv (0)), .int (iv (0)), .int (iv (0)), .int (iv (0)), .long (jv (0)), .long (jv (0)), .int (iv (0)), .ref (ad187 362), .ref (ad237 363), .ref (ad288 364), .ref (ad340 365), .ref (ad393 366), .ref (ad447 367), .ref (ad502 368), .ref (ad558 369), .ref (ad615 370), .ref (ad673 371), .int (iv (0)), .ref (ad732 372), .ref (ad792 373), .null, .null, .int (iv (0)), .int (iv (0))]) := ⟨_, rfl⟩
  rw [← hs833]
  have mo834 : moN σ σ832 := by rw [hs833]; exact moN_up mo813 _ (eO_ne (by decide))
  have hf835 : σ832 (374) = fNo := (show σ832 (374) = σ811 (374) by rw [hs833, va_up_ne _ _ (by omega)]).trans hf814
  have hf836 : σ832 (375) = fNo := (show σ832 (375) = σ811 (375) by rw [hs833, va_up_ne _ _ (by omega)]).trans hf815
  have hf837 : σ832 (359) = eJ G 4 (fun _ => 0) := (show σ832 (359) = σ811 (359) by rw [hs833, va_up_ne _ _ (by omega)]).trans hf816
  have hf838 : σ832 (360) = eJ G 96 (fun _ => 0) := (show σ832 (360) = σ811 (360) by rw [hs833, va_up_ne _ _ (by omega)]).trans hf817
  have hf839 : σ832 (361) = eJ G 24 (fun _ => 0) := (show σ832 (361) = σ811 (361) by rw [hs833, va_up_ne _ _ (by omega)]).trans hf818
  have hf840 : σ832 (362) = eJ G 64 (fun _ => 0) := (show σ832 (362) = σ811 (362) by rw [hs833, va_up_ne _ _ (by omega)]).trans hf819
  have hf841 : σ832 (363) = eJ G 64 (fun _ => 0) := (show σ832 (363) = σ811 (363) by rw [hs833, va_up_ne _ _ (by omega)]).trans hf820
  have hf842 : σ832 (364) = eJ G 64 (fun _ => 0) := (show σ832 (364) = σ811 (364) by rw [hs833, va_up_ne _ _ (by omega)]).trans hf821
  have hf843 : σ832 (365) = eJ G 64 (fun _ => 0) := (show σ832 (365) = σ811 (365) by rw [hs833, va_up_ne _ _ (by omega)]).trans hf822
  have hf844 : σ832 (366) = eJ G 64 (fun _ => 0) := (show σ832 (366) = σ811 (366) by rw [hs833, va_up_ne _ _ (by omega)]).trans hf823
  have hf845 : σ832 (367) = eJ G 64 (fun _ => 0) := (show σ832 (367) = σ811 (367) by rw [hs833, va_up_ne _ _ (by omega)]).trans hf824
  have hf846 : σ832 (368) = eJ G 64 (fun _ => 0) := (show σ832 (368) = σ811 (368) by rw [hs833, va_up_ne _ _ (by omega)]).trans hf825
  have hf847 : σ832 (369) = eL G 64 (fun _ => 0) := (show σ832 (369) = σ811 (369) by rw [hs833, va_up_ne _ _ (by omega)]).trans hf826
  have hf848 : σ832 (370) = eL G 64 (fun _ => 0) := (show σ832 (370) = σ811 (370) by rw [hs833, va_up_ne _ _ (by omega)]).trans hf827
  have hf849 : σ832 (371) = eJ G 4 (fun _ => 0) := (show σ832 (371) = σ811 (371) by rw [hs833, va_up_ne _ _ (by omega)]).trans hf828
  have hf850 : σ832 (372) = eJ G 3072 (fun _ => 0) := (show σ832 (372) = σ811 (372) by rw [hs833, va_up_ne _ _ (by omega)]).trans hf829
  have hf851 : σ832 (373) = eL G 48 (fun _ => 0) := (show σ832 (373) = σ811 (373) by rw [hs833, va_up_ne _ _ (by omega)]).trans hf831
  have hf852 : σ832 (358) = eO 9 [.ref (ad1 359), .int (iv (0)), .ref (ad48 360), .ref (ad96 361), .int (iv (3)), .int (iv (1)), .int (iv (0)), .int (iv (0)), .long (jv (0)), .long (jv (0)), .int (iv (0)), .int (iv (0)), .int (iv (0)), .long (jv (0)), .long (jv (0)), .int (iv (0)), .ref (ad187 362), .ref (ad237 363), .ref (ad288 364), .ref (ad340 365), .ref (ad393 366), .ref (ad447 367), .ref (ad502 368), .ref (ad558 369), .ref (ad615 370), .ref (ad673 371), .int (iv (0)), .ref (ad732 372), .ref (ad792 373), .null, .null, .int (iv (0)), .int (iv (0))] := by rw [hs833, va_up_self]
  refine v_aload_n hX d_Mo_init_133 0 rfl ?_
  refine v_bipush hX (48) d_Mo_init_134 rfl ?_
  refine g_newL hX hj793 (g := 374) (by omega) hf835 48 (mT 757 (by decide +kernel) rfl) d_Mo_init_136 rfl (by decide) ⟨by decide, by decide⟩ (fun ad853 hj854 hx855 => ?_)
  have ex856 : exA σ ad ad853 := exA_tr ex795 mo834 hx855
  have e857 : ad853 358 = ad792 358 := hx855 358 (by omega) (by rw [hf852]; exact eO_ne (by decide))
  rw [← e857]
  have t858 : ad853 359 = ad1 359 := (hx855 359 (by omega) (by rw [hf837]; exact eJ_ne)).trans t797
  have t859 : ad853 360 = ad48 360 := (hx855 360 (by omega) (by rw [hf838]; exact eJ_ne)).trans t798
  have t860 : ad853 361 = ad96 361 := (hx855 361 (by omega) (by rw [hf839]; exact eJ_ne)).trans t799
  have t861 : ad853 362 = ad187 362 := (hx855 362 (by omega) (by rw [hf840]; exact eJ_ne)).trans t800
  have t862 : ad853 363 = ad237 363 := (hx855 363 (by omega) (by rw [hf841]; exact eJ_ne)).trans t801
  have t863 : ad853 364 = ad288 364 := (hx855 364 (by omega) (by rw [hf842]; exact eJ_ne)).trans t802
  have t864 : ad853 365 = ad340 365 := (hx855 365 (by omega) (by rw [hf843]; exact eJ_ne)).trans t803
  have t865 : ad853 366 = ad393 366 := (hx855 366 (by omega) (by rw [hf844]; exact eJ_ne)).trans t804
  have t866 : ad853 367 = ad447 367 := (hx855 367 (by omega) (by rw [hf845]; exact eJ_ne)).trans t805
  have t867 : ad853 368 = ad502 368 := (hx855 368 (by omega) (by rw [hf846]; exact eJ_ne)).trans t806
  have t868 : ad853 369 = ad558 369 := (hx855 369 (by omega) (by rw [hf847]; exact eL_ne)).trans t807
  have t869 : ad853 370 = ad615 370 := (hx855 370 (by omega) (by rw [hf848]; exact eL_ne)).trans t808
  have t870 : ad853 371 = ad673 371 := (hx855 371 (by omega) (by rw [hf849]; exact eJ_ne)).trans t809
  have t871 : ad853 372 = ad732 372 := (hx855 372 (by omega) (by rw [hf850]; exact eJ_ne)).trans t810
  have t872 : ad853 373 = ad792 373 := (hx855 373 (by omega) (by rw [hf851]; exact eL_ne))
  obtain ⟨σ873, hs874⟩ : ∃ s9, s9 = va_up σ832 (374) (eL G 48 (fun _ => 0)) := ⟨_, rfl⟩
  rw [← hs874]
  have mo875 : moN σ σ873 := by rw [hs874]; exact moN_up mo834 _ eL_ne
  have hf876 : σ873 (375) = fNo := (show σ873 (375) = σ832 (375) by rw [hs874, va_up_ne _ _ (by omega)]).trans hf836
  have hf877 : σ873 (359) = eJ G 4 (fun _ => 0) := (show σ873 (359) = σ832 (359) by rw [hs874, va_up_ne _ _ (by omega)]).trans hf837
  have hf878 : σ873 (360) = eJ G 96 (fun _ => 0) := (show σ873 (360) = σ832 (360) by rw [hs874, va_up_ne _ _ (by omega)]).trans hf838
  have hf879 : σ873 (361) = eJ G 24 (fun _ => 0) := (show σ873 (361) = σ832 (361) by rw [hs874, va_up_ne _ _ (by omega)]).trans hf839
  have hf880 : σ873 (362) = eJ G 64 (fun _ => 0) := (show σ873 (362) = σ832 (362) by rw [hs874, va_up_ne _ _ (by omega)]).trans hf840
  have hf881 : σ873 (363) = eJ G 64 (fun _ => 0) := (show σ873 (363) = σ832 (363) by rw [hs874, va_up_ne _ _ (by omega)]).trans hf841
  have hf882 : σ873 (364) = eJ G 64 (fun _ => 0) := (show σ873 (364) = σ832 (364) by rw [hs874, va_up_ne _ _ (by omega)]).trans hf842
  have hf883 : σ873 (365) = eJ G 64 (fun _ => 0) := (show σ873 (365) = σ832 (365) by rw [hs874, va_up_ne _ _ (by omega)]).trans hf843
  have hf884 : σ873 (366) = eJ G 64 (fun _ => 0) := (show σ873 (366) = σ832 (366) by rw [hs874, va_up_ne _ _ (by omega)]).trans hf844
  have hf885 : σ873 (367) = eJ G 64 (fun _ => 0) := (show σ873 (367) = σ832 (367) by rw [hs874, va_up_ne _ _ (by omega)]).trans hf845
  have hf886 : σ873 (368) = eJ G 64 (fun _ => 0) := (show σ873 (368) = σ832 (368) by rw [hs874, va_up_ne _ _ (by omega)]).trans hf846
  have hf887 : σ873 (369) = eL G 64 (fun _ => 0) := (show σ873 (369) = σ832 (369) by rw [hs874, va_up_ne _ _ (by omega)]).trans hf847
  have hf888 : σ873 (370) = eL G 64 (fun _ => 0) := (show σ873 (370) = σ832 (370) by rw [hs874, va_up_ne _ _ (by omega)]).trans hf848
  have hf889 : σ873 (371) = eJ G 4 (fun _ => 0) := (show σ873 (371) = σ832 (371) by rw [hs874, va_up_ne _ _ (by omega)]).trans hf849
  have hf890 : σ873 (372) = eJ G 3072 (fun _ => 0) := (show σ873 (372) = σ832 (372) by rw [hs874, va_up_ne _ _ (by omega)]).trans hf850
  have hf891 : σ873 (373) = eL G 48 (fun _ => 0) := (show σ873 (373) = σ832 (373) by rw [hs874, va_up_ne _ _ (by omega)]).trans hf851
  have hf892 : σ873 (358) = eO 9 [.ref (ad1 359), .int (iv (0)), .ref (ad48 360), .ref (ad96 361), .int (iv (3)), .int (iv (1)), .int (iv (0)), .int (iv (0)), .long (jv (0)), .long (jv (0)), .int (iv (0)), .int (iv (0)), .int (iv (0)), .long (jv (0)), .long (jv (0)), .int (iv (0)), .ref (ad187 362), .ref (ad237 363), .ref (ad288 364), .ref (ad340 365), .ref (ad393 366), .ref (ad447 367), .ref (ad502 368), .ref (ad558 369), .ref (ad615 370), .ref (ad673 371), .int (iv (0)), .ref (ad732 372), .ref (ad792 373), .null, .null, .int (iv (0)), .int (iv (0))] := (show σ873 (358) = σ832 (358) by rw [hs874, va_up_ne _ _ (by omega)]).trans hf852
  have hf893 : σ873 (374) = eL G 48 (fun _ => 0) := by rw [hs874, va_up_self]
  refine g_putF (i := 358) (fs' := [.ref (ad1 359), .int (iv (0)), .ref (ad48 360), .ref (ad96 361), .int (iv (3)), .int (iv (1)), .int (iv (0)), .int (iv (0)), .long (jv (0)), .long (jv (0)), .int (iv (0)), .int (iv (0)), .int (iv (0)), .long (jv (0)), .long (jv (0)), .int (iv (0)), .ref (ad187 362), .ref (ad237 363), .ref (ad288 364), .ref (ad340 365), .ref (ad393 366), .ref (ad447 367), .ref (ad502 368), .ref (ad558 369), .ref (ad615 370), .ref (ad673 371), .int (iv (0)), .ref (ad732 372), .ref (ad792 373), .ref (ad853 374), .null, .int (iv (0)), .int (iv (0))]) hX hj854 pF_Mo_63 rfl d_Mo_init_138 (by omega) hf892 rfl rfl (Nat.le_of_ble_eq_true rfl) rfl ?_
  obtain ⟨σ894, hs895⟩ : ∃ s9, s9 = va_up σ873 (358) (eO 9 [.ref (ad1 359), .int (iv (0)), .ref (ad48 360), .ref (ad96 361), .int (iv (3)), .int (iv (1)), .int (iv (0)), .int (iv (0)), .long (jv (0)), .long (jv (0)), .int (iv (0)), .int (iv (0)), .int (iv (0)), .long (jv (0)), .long (jv (0)), .int (iv (0)), .ref (ad187 362), .ref (ad237 363), .ref (ad288 364), .ref (ad340 365), .ref (ad393 366), .ref (ad447 367), .ref (ad502 368), .ref (ad558 369), .ref (ad615 370), .ref (ad673 371), .int (iv (0)), .ref (ad732 372), .ref (ad792 373), .ref (ad853 374), .null, .int (iv (0)), .int (iv (0))]) := ⟨_, rfl⟩
  rw [← hs895]
  have mo896 : moN σ σ894 := by rw [hs895]; exact moN_up mo875 _ (eO_ne (by decide))
  have hf897 : σ894 (375) = fNo := (show σ894 (375) = σ873 (375) by rw [hs895, va_up_ne _ _ (by omega)]).trans hf876
  have hf898 : σ894 (359) = eJ G 4 (fun _ => 0) := (show σ894 (359) = σ873 (359) by rw [hs895, va_up_ne _ _ (by omega)]).trans hf877
  have hf899 : σ894 (360) = eJ G 96 (fun _ => 0) := (show σ894 (360) = σ873 (360) by rw [hs895, va_up_ne _ _ (by omega)]).trans hf878
  have hf900 : σ894 (361) = eJ G 24 (fun _ => 0) := (show σ894 (361) = σ873 (361) by rw [hs895, va_up_ne _ _ (by omega)]).trans hf879
  have hf901 : σ894 (362) = eJ G 64 (fun _ => 0) := (show σ894 (362) = σ873 (362) by rw [hs895, va_up_ne _ _ (by omega)]).trans hf880
  have hf902 : σ894 (363) = eJ G 64 (fun _ => 0) := (show σ894 (363) = σ873 (363) by rw [hs895, va_up_ne _ _ (by omega)]).trans hf881
  have hf903 : σ894 (364) = eJ G 64 (fun _ => 0) := (show σ894 (364) = σ873 (364) by rw [hs895, va_up_ne _ _ (by omega)]).trans hf882
  have hf904 : σ894 (365) = eJ G 64 (fun _ => 0) := (show σ894 (365) = σ873 (365) by rw [hs895, va_up_ne _ _ (by omega)]).trans hf883
  have hf905 : σ894 (366) = eJ G 64 (fun _ => 0) := (show σ894 (366) = σ873 (366) by rw [hs895, va_up_ne _ _ (by omega)]).trans hf884
  have hf906 : σ894 (367) = eJ G 64 (fun _ => 0) := (show σ894 (367) = σ873 (367) by rw [hs895, va_up_ne _ _ (by omega)]).trans hf885
  have hf907 : σ894 (368) = eJ G 64 (fun _ => 0) := (show σ894 (368) = σ873 (368) by rw [hs895, va_up_ne _ _ (by omega)]).trans hf886
  have hf908 : σ894 (369) = eL G 64 (fun _ => 0) := (show σ894 (369) = σ873 (369) by rw [hs895, va_up_ne _ _ (by omega)]).trans hf887
  have hf909 : σ894 (370) = eL G 64 (fun _ => 0) := (show σ894 (370) = σ873 (370) by rw [hs895, va_up_ne _ _ (by omega)]).trans hf888
  have hf910 : σ894 (371) = eJ G 4 (fun _ => 0) := (show σ894 (371) = σ873 (371) by rw [hs895, va_up_ne _ _ (by omega)]).trans hf889
  have hf911 : σ894 (372) = eJ G 3072 (fun _ => 0) := (show σ894 (372) = σ873 (372) by rw [hs895, va_up_ne _ _ (by omega)]).trans hf890
  have hf912 : σ894 (373) = eL G 48 (fun _ => 0) := (show σ894 (373) = σ873 (373) by rw [hs895, va_up_ne _ _ (by omega)]).trans hf891
  have hf913 : σ894 (374) = eL G 48 (fun _ => 0) := (show σ894 (374) = σ873 (374) by rw [hs895, va_up_ne _ _ (by omega)]).trans hf893
  have hf914 : σ894 (358) = eO 9 [.ref (ad1 359), .int (iv (0)), .ref (ad48 360), .ref (ad96 361), .int (iv (3)), .int (iv (1)), .int (iv (0)), .int (iv (0)), .long (jv (0)), .long (jv (0)), .int (iv (0)), .int (iv (0)), .int (iv (0)), .long (jv (0)), .long (jv (0)), .int (iv (0)), .ref (ad187 362), .ref (ad237 363), .ref (ad288 364), .ref (ad340 365), .ref (ad393 366), .ref (ad447 367), .ref (ad502 368), .ref (ad558 369), .ref (ad615 370), .ref (ad673 371), .int (iv (0)), .ref (ad732 372), .ref (ad792 373), .ref (ad853 374), .null, .int (iv (0)), .int (iv (0))] := by rw [hs895, va_up_self]
  refine v_aload_n hX d_Mo_init_141 0 rfl ?_
  refine v_bipush hX (64) d_Mo_init_142 rfl ?_
  refine g_newJ hX hj854 (g := 375) (by omega) hf897 64 (mT 97 (by decide +kernel) rfl) d_Mo_init_144 rfl (by decide) ⟨by decide, by decide⟩ (fun ad915 hj916 hx917 => ?_)
  have ex918 : exA σ ad ad915 := exA_tr ex856 mo896 hx917
  have e919 : ad915 358 = ad853 358 := hx917 358 (by omega) (by rw [hf914]; exact eO_ne (by decide))
  rw [← e919]
  have t920 : ad915 359 = ad1 359 := (hx917 359 (by omega) (by rw [hf898]; exact eJ_ne)).trans t858
  have t921 : ad915 360 = ad48 360 := (hx917 360 (by omega) (by rw [hf899]; exact eJ_ne)).trans t859
  have t922 : ad915 361 = ad96 361 := (hx917 361 (by omega) (by rw [hf900]; exact eJ_ne)).trans t860
  have t923 : ad915 362 = ad187 362 := (hx917 362 (by omega) (by rw [hf901]; exact eJ_ne)).trans t861
  have t924 : ad915 363 = ad237 363 := (hx917 363 (by omega) (by rw [hf902]; exact eJ_ne)).trans t862
  have t925 : ad915 364 = ad288 364 := (hx917 364 (by omega) (by rw [hf903]; exact eJ_ne)).trans t863
  have t926 : ad915 365 = ad340 365 := (hx917 365 (by omega) (by rw [hf904]; exact eJ_ne)).trans t864
  have t927 : ad915 366 = ad393 366 := (hx917 366 (by omega) (by rw [hf905]; exact eJ_ne)).trans t865
  have t928 : ad915 367 = ad447 367 := (hx917 367 (by omega) (by rw [hf906]; exact eJ_ne)).trans t866
  have t929 : ad915 368 = ad502 368 := (hx917 368 (by omega) (by rw [hf907]; exact eJ_ne)).trans t867
  have t930 : ad915 369 = ad558 369 := (hx917 369 (by omega) (by rw [hf908]; exact eL_ne)).trans t868
  have t931 : ad915 370 = ad615 370 := (hx917 370 (by omega) (by rw [hf909]; exact eL_ne)).trans t869
  have t932 : ad915 371 = ad673 371 := (hx917 371 (by omega) (by rw [hf910]; exact eJ_ne)).trans t870
  have t933 : ad915 372 = ad732 372 := (hx917 372 (by omega) (by rw [hf911]; exact eJ_ne)).trans t871
  have t934 : ad915 373 = ad792 373 := (hx917 373 (by omega) (by rw [hf912]; exact eL_ne)).trans t872
  have t935 : ad915 374 = ad853 374 := (hx917 374 (by omega) (by rw [hf913]; exact eL_ne))
  obtain ⟨σ936, hs937⟩ : ∃ s9, s9 = va_up σ894 (375) (eJ G 64 (fun _ => 0)) := ⟨_, rfl⟩
  rw [← hs937]
  have mo938 : moN σ σ936 := by rw [hs937]; exact moN_up mo896 _ eJ_ne
  have hf939 : σ936 (359) = eJ G 4 (fun _ => 0) := (show σ936 (359) = σ894 (359) by rw [hs937, va_up_ne _ _ (by omega)]).trans hf898
  have hf940 : σ936 (360) = eJ G 96 (fun _ => 0) := (show σ936 (360) = σ894 (360) by rw [hs937, va_up_ne _ _ (by omega)]).trans hf899
  have hf941 : σ936 (361) = eJ G 24 (fun _ => 0) := (show σ936 (361) = σ894 (361) by rw [hs937, va_up_ne _ _ (by omega)]).trans hf900
  have hf942 : σ936 (362) = eJ G 64 (fun _ => 0) := (show σ936 (362) = σ894 (362) by rw [hs937, va_up_ne _ _ (by omega)]).trans hf901
  have hf943 : σ936 (363) = eJ G 64 (fun _ => 0) := (show σ936 (363) = σ894 (363) by rw [hs937, va_up_ne _ _ (by omega)]).trans hf902
  have hf944 : σ936 (364) = eJ G 64 (fun _ => 0) := (show σ936 (364) = σ894 (364) by rw [hs937, va_up_ne _ _ (by omega)]).trans hf903
  have hf945 : σ936 (365) = eJ G 64 (fun _ => 0) := (show σ936 (365) = σ894 (365) by rw [hs937, va_up_ne _ _ (by omega)]).trans hf904
  have hf946 : σ936 (366) = eJ G 64 (fun _ => 0) := (show σ936 (366) = σ894 (366) by rw [hs937, va_up_ne _ _ (by omega)]).trans hf905
  have hf947 : σ936 (367) = eJ G 64 (fun _ => 0) := (show σ936 (367) = σ894 (367) by rw [hs937, va_up_ne _ _ (by omega)]).trans hf906
  have hf948 : σ936 (368) = eJ G 64 (fun _ => 0) := (show σ936 (368) = σ894 (368) by rw [hs937, va_up_ne _ _ (by omega)]).trans hf907
  have hf949 : σ936 (369) = eL G 64 (fun _ => 0) := (show σ936 (369) = σ894 (369) by rw [hs937, va_up_ne _ _ (by omega)]).trans hf908
  have hf950 : σ936 (370) = eL G 64 (fun _ => 0) := (show σ936 (370) = σ894 (370) by rw [hs937, va_up_ne _ _ (by omega)]).trans hf909
  have hf951 : σ936 (371) = eJ G 4 (fun _ => 0) := (show σ936 (371) = σ894 (371) by rw [hs937, va_up_ne _ _ (by omega)]).trans hf910
  have hf952 : σ936 (372) = eJ G 3072 (fun _ => 0) := (show σ936 (372) = σ894 (372) by rw [hs937, va_up_ne _ _ (by omega)]).trans hf911
  have hf953 : σ936 (373) = eL G 48 (fun _ => 0) := (show σ936 (373) = σ894 (373) by rw [hs937, va_up_ne _ _ (by omega)]).trans hf912
  have hf954 : σ936 (374) = eL G 48 (fun _ => 0) := (show σ936 (374) = σ894 (374) by rw [hs937, va_up_ne _ _ (by omega)]).trans hf913
  have hf955 : σ936 (358) = eO 9 [.ref (ad1 359), .int (iv (0)), .ref (ad48 360), .ref (ad96 361), .int (iv (3)), .int (iv (1)), .int (iv (0)), .int (iv (0)), .long (jv (0)), .long (jv (0)), .int (iv (0)), .int (iv (0)), .int (iv (0)), .long (jv (0)), .long (jv (0)), .int (iv (0)), .ref (ad187 362), .ref (ad237 363), .ref (ad288 364), .ref (ad340 365), .ref (ad393 366), .ref (ad447 367), .ref (ad502 368), .ref (ad558 369), .ref (ad615 370), .ref (ad673 371), .int (iv (0)), .ref (ad732 372), .ref (ad792 373), .ref (ad853 374), .null, .int (iv (0)), .int (iv (0))] := (show σ936 (358) = σ894 (358) by rw [hs937, va_up_ne _ _ (by omega)]).trans hf914
  have hf956 : σ936 (375) = eJ G 64 (fun _ => 0) := by rw [hs937, va_up_self]
  refine g_putF (i := 358) (fs' := [.ref (ad1 359), .int (iv (0)), .ref (ad48 360), .ref (ad96 361), .int (iv (3)), .int (iv (1)), .int (iv (0)), .int (iv (0)), .long (jv (0)), .long (jv (0)), .int (iv (0)), .int (iv (0)), .int (iv (0)), .long (jv (0)), .long (jv (0)), .int (iv (0)), .ref (ad187 362), .ref (ad237 363), .ref (ad288 364), .ref (ad340 365), .ref (ad393 366), .ref (ad447 367), .ref (ad502 368), .ref (ad558 369), .ref (ad615 370), .ref (ad673 371), .int (iv (0)), .ref (ad732 372), .ref (ad792 373), .ref (ad853 374), .ref (ad915 375), .int (iv (0)), .int (iv (0))]) hX hj916 pF_Mo_66 rfl d_Mo_init_146 (by omega) hf955 rfl rfl (Nat.le_of_ble_eq_true rfl) rfl ?_
  obtain ⟨σ957, hs958⟩ : ∃ s9, s9 = va_up σ936 (358) (eO 9 [.ref (ad1 359), .int (iv (0)), .ref (ad48 360), .ref (ad96 361), .int (iv (3)), .int (iv (1)), .int (iv (0)), .int (iv (0)), .long (jv (0)), .long (jv (0)), .int (iv (0)), .int (iv (0)), .int (iv (0)), .long (jv (0)), .long (jv (0)), .int (iv (0)), .ref (ad187 362), .ref (ad237 363), .ref (ad288 364), .ref (ad340 365), .ref (ad393 366), .ref (ad447 367), .ref (ad502 368), .ref (ad558 369), .ref (ad615 370), .ref (ad673 371), .int (iv (0)), .ref (ad732 372), .ref (ad792 373), .ref (ad853 374), .ref (ad915 375), .int (iv (0)), .int (iv (0))]) := ⟨_, rfl⟩
  rw [← hs958]
  have mo959 : moN σ σ957 := by rw [hs958]; exact moN_up mo938 _ (eO_ne (by decide))
  have hf960 : σ957 (359) = eJ G 4 (fun _ => 0) := (show σ957 (359) = σ936 (359) by rw [hs958, va_up_ne _ _ (by omega)]).trans hf939
  have hf961 : σ957 (360) = eJ G 96 (fun _ => 0) := (show σ957 (360) = σ936 (360) by rw [hs958, va_up_ne _ _ (by omega)]).trans hf940
  have hf962 : σ957 (361) = eJ G 24 (fun _ => 0) := (show σ957 (361) = σ936 (361) by rw [hs958, va_up_ne _ _ (by omega)]).trans hf941
  have hf963 : σ957 (362) = eJ G 64 (fun _ => 0) := (show σ957 (362) = σ936 (362) by rw [hs958, va_up_ne _ _ (by omega)]).trans hf942
  have hf964 : σ957 (363) = eJ G 64 (fun _ => 0) := (show σ957 (363) = σ936 (363) by rw [hs958, va_up_ne _ _ (by omega)]).trans hf943
  have hf965 : σ957 (364) = eJ G 64 (fun _ => 0) := (show σ957 (364) = σ936 (364) by rw [hs958, va_up_ne _ _ (by omega)]).trans hf944
  have hf966 : σ957 (365) = eJ G 64 (fun _ => 0) := (show σ957 (365) = σ936 (365) by rw [hs958, va_up_ne _ _ (by omega)]).trans hf945
  have hf967 : σ957 (366) = eJ G 64 (fun _ => 0) := (show σ957 (366) = σ936 (366) by rw [hs958, va_up_ne _ _ (by omega)]).trans hf946
  have hf968 : σ957 (367) = eJ G 64 (fun _ => 0) := (show σ957 (367) = σ936 (367) by rw [hs958, va_up_ne _ _ (by omega)]).trans hf947
  have hf969 : σ957 (368) = eJ G 64 (fun _ => 0) := (show σ957 (368) = σ936 (368) by rw [hs958, va_up_ne _ _ (by omega)]).trans hf948
  have hf970 : σ957 (369) = eL G 64 (fun _ => 0) := (show σ957 (369) = σ936 (369) by rw [hs958, va_up_ne _ _ (by omega)]).trans hf949
  have hf971 : σ957 (370) = eL G 64 (fun _ => 0) := (show σ957 (370) = σ936 (370) by rw [hs958, va_up_ne _ _ (by omega)]).trans hf950
  have hf972 : σ957 (371) = eJ G 4 (fun _ => 0) := (show σ957 (371) = σ936 (371) by rw [hs958, va_up_ne _ _ (by omega)]).trans hf951
  have hf973 : σ957 (372) = eJ G 3072 (fun _ => 0) := (show σ957 (372) = σ936 (372) by rw [hs958, va_up_ne _ _ (by omega)]).trans hf952
  have hf974 : σ957 (373) = eL G 48 (fun _ => 0) := (show σ957 (373) = σ936 (373) by rw [hs958, va_up_ne _ _ (by omega)]).trans hf953
  have hf975 : σ957 (374) = eL G 48 (fun _ => 0) := (show σ957 (374) = σ936 (374) by rw [hs958, va_up_ne _ _ (by omega)]).trans hf954
  have hf976 : σ957 (375) = eJ G 64 (fun _ => 0) := (show σ957 (375) = σ936 (375) by rw [hs958, va_up_ne _ _ (by omega)]).trans hf956
  have hf977 : σ957 (358) = eO 9 [.ref (ad1 359), .int (iv (0)), .ref (ad48 360), .ref (ad96 361), .int (iv (3)), .int (iv (1)), .int (iv (0)), .int (iv (0)), .long (jv (0)), .long (jv (0)), .int (iv (0)), .int (iv (0)), .int (iv (0)), .long (jv (0)), .long (jv (0)), .int (iv (0)), .ref (ad187 362), .ref (ad237 363), .ref (ad288 364), .ref (ad340 365), .ref (ad393 366), .ref (ad447 367), .ref (ad502 368), .ref (ad558 369), .ref (ad615 370), .ref (ad673 371), .int (iv (0)), .ref (ad732 372), .ref (ad792 373), .ref (ad853 374), .ref (ad915 375), .int (iv (0)), .int (iv (0))] := by rw [hs958, va_up_self]
  have hf978 : σ957 (358) = eO 9 [.ref (ad915 359), .int (iv (0)), .ref (ad915 360), .ref (ad915 361), .int (iv (3)), .int (iv (1)), .int (iv (0)), .int (iv (0)), .long (jv (0)), .long (jv (0)), .int (iv (0)), .int (iv (0)), .int (iv (0)), .long (jv (0)), .long (jv (0)), .int (iv (0)), .ref (ad915 362), .ref (ad915 363), .ref (ad915 364), .ref (ad915 365), .ref (ad915 366), .ref (ad915 367), .ref (ad915 368), .ref (ad915 369), .ref (ad915 370), .ref (ad915 371), .int (iv (0)), .ref (ad915 372), .ref (ad915 373), .ref (ad915 374), .ref (ad915 375), .int (iv (0)), .int (iv (0))] := by rw [t920, t921, t922, t923, t924, t925, t926, t927, t928, t929, t930, t931, t932, t933, t934, t935]; exact hf977
  refine v_widen (kc' := rk_Mo.cells) (ks' := rk_Mo.slots) (by decide) (by decide) ?_
  have hE : σ957 358 = moE ad915 0 3 1 0 (fun _ => 0) := hf978
  have hPM : pMo G ad915 σ957 0 (fun _ _ => 0) (fun _ => 0) (fun _ => 0) 3 1 0 (fun _ => 0) := ⟨hE, ⟨_, hf960, fun _ _ => rfl⟩, ⟨_, hf961, fun _ _ _ _ => rfl⟩, _, hf962, fun _ _ => rfl⟩
  have hPA : pMa G σ957 (fun _ _ => 0) := ⟨(fun q a b => by rcases (show q = 362 ∨ q = 363 ∨ q = 364 ∨ q = 365 ∨ q = 366 ∨ q = 367 ∨ q = 368 by omega) with rfl | rfl | rfl | rfl | rfl | rfl | rfl <;> first | exact hf963 | exact hf964 | exact hf965 | exact hf966 | exact hf967 | exact hf968 | exact hf969), (fun q a b => by rcases (show q = 369 ∨ q = 370 by omega) with rfl | rfl <;> first | exact hf970 | exact hf971), hf972, hf973, (fun q a b => by rcases (show q = 373 ∨ q = 374 by omega) with rfl | rfl <;> first | exact hf974 | exact hf975), hf976⟩
  exact hret _ _ _ d_Mo_init_149 ⟨ad915, σ957, hj916, ex918, rfl, hPM, hPA, (fun q hq => by rw [hs958, va_up_ne _ _ (by omega), hs937, va_up_ne _ _ (by omega), hs895, va_up_ne _ _ (by omega), hs874, va_up_ne _ _ (by omega), hs833, va_up_ne _ _ (by omega), hs812, va_up_ne _ _ (by omega), hs772, va_up_ne _ _ (by omega), hs751, va_up_ne _ _ (by omega), hs712, va_up_ne _ _ (by omega), hs691, va_up_ne _ _ (by omega), hs653, va_up_ne _ _ (by omega), hs632, va_up_ne _ _ (by omega), hs595, va_up_ne _ _ (by omega), hs574, va_up_ne _ _ (by omega), hs538, va_up_ne _ _ (by omega), hs517, va_up_ne _ _ (by omega), hs482, va_up_ne _ _ (by omega), hs461, va_up_ne _ _ (by omega), hs427, va_up_ne _ _ (by omega), hs406, va_up_ne _ _ (by omega), hs373, va_up_ne _ _ (by omega), hs352, va_up_ne _ _ (by omega), hs320, va_up_ne _ _ (by omega), hs299, va_up_ne _ _ (by omega), hs268, va_up_ne _ _ (by omega), hs247, va_up_ne _ _ (by omega), hs217, va_up_ne _ _ (by omega), hs196, va_up_ne _ _ (by omega), hs167, va_up_ne _ _ (by omega), hs146, va_up_ne _ _ (by omega), hs125, va_up_ne _ _ (by omega), hs104, va_up_ne _ _ (by omega), hs76, va_up_ne _ _ (by omega), hs55, va_up_ne _ _ (by omega), hs28, va_up_ne _ _ (by omega), hs7, va_up_ne _ _ (by omega)])⟩
