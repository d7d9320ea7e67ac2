/-! CONSTRUCTORS; by program -/
abbrev rk_Fra : Room := { frames := 1, cells := 0, slots := 0, locals := 20 }
abbrev rk_Lim : Room := { frames := 1, cells := 0, slots := 0, locals := 20 }
abbrev rk_Cut : Room := { frames := 2, cells := 1, slots := 2, locals := 40 }
abbrev rk_Nod : Room := { frames := 3, cells := 2, slots := 6, locals := 60 }
abbrev rk_Sur : Room := { frames := 3, cells := 4, slots := 12, locals := 60 }
abbrev rk_Tab : Room := { frames := 1, cells := 34, slots := 563, locals := 20 }
abbrev rk_Tre : Room := { frames := 4, cells := 142, slots := 893, locals := 81 }
abbrev rk_Pru : Room := { frames := 2, cells := 28, slots := 122, locals := 40 }
abbrev rk_Bs : Room := { frames := 5, cells := 357, slots := 2519, locals := 105 }
abbrev rk_Mo : Room := { frames := 1, cells := 17, slots := 3936, locals := 20 }
set_option maxHeartbeats 1000000 in
set_option maxRecDepth 100000 in
theorem n_Fra {G : xG} {ad : Nat → Nat} (hj : adOk ad 400) {σ : xF} (i : Nat) (hi : i < 400) (hb : σ i = eO 1 [.int (iv (0)), .int (iv (0))]) : ∀ l, gVo l G fZ ad 400 y_Fra_init (.code y_Fra_init c_Fra_init 1 none) rk_Fra [.ref (ad i)] σ (fun σ' => σ' = va_up σ i (eO 1 [.int (iv 0), .int (iv 1)])) := by
  intro l
  refine mV_of (by decide) (Nat.le_of_ble_eq_true rfl) (fun X hX hret => ?_)
  show vV G X 0 0 0 [(0, .ref (ad i))] [] (ov fZ ad 400 σ)
  refine v_aload_n hX d_Fra_init_0 0 rfl ?_
  refine v_objInit hX d_Fra_init_1 (mT 137 (by decide +kernel) rfl) (mT 62 (by decide +kernel) rfl) (mT 63 (by decide +kernel) rfl) (by decide) (by decide) ?_
  refine v_aload_n hX d_Fra_init_4 0 rfl ?_
  refine v_iconst hX (0) d_Fra_init_5 ?_
  refine g_put (i := i) (fs' := [.int (iv (0)), .int (iv (0))]) hX hj pf_Fra_9 d_Fra_init_6 (by omega) hb rfl rfl (Nat.le_of_ble_eq_true rfl) rfl ?_
  obtain ⟨σ1, hs2⟩ : ∃ s9, s9 = va_up σ (i) (eO 1 [.int (iv (0)), .int (iv (0))]) := ⟨_, rfl⟩
  rw [← hs2]
  have mo3 : moN σ σ1 := by rw [hs2]; exact moN_up (moN_r σ) _ (eO_ne (by decide))
  have hf4 : σ1 (i) = eO 1 [.int (iv (0)), .int (iv (0))] := by rw [hs2, va_up_self]
  refine v_aload_n hX d_Fra_init_9 0 rfl ?_
  refine v_iconst hX (1) d_Fra_init_10 ?_
  refine g_put (i := i) (fs' := [.int (iv (0)), .int (iv (1))]) hX hj pf_Fra_15 d_Fra_init_11 (by omega) hf4 rfl rfl (Nat.le_of_ble_eq_true rfl) rfl ?_
  obtain ⟨σ5, hs6⟩ : ∃ s9, s9 = va_up σ1 (i) (eO 1 [.int (iv (0)), .int (iv (1))]) := ⟨_, rfl⟩
  rw [← hs6]
  have mo7 : moN σ σ5 := by rw [hs6]; exact moN_up mo3 _ (eO_ne (by decide))
  have hf8 : σ5 (i) = eO 1 [.int (iv (0)), .int (iv (1))] := by rw [hs6, va_up_self]
  refine v_widen (kc' := rk_Fra.cells) (ks' := rk_Fra.slots) (by decide) (by decide) ?_
  exact hret _ _ _ d_Fra_init_14 ⟨σ5, rfl, (by rw [hs6, hs2, bx_uu])⟩

set_option maxHeartbeats 1000000 in
set_option maxRecDepth 100000 in
theorem n_Lim {G : xG} {ad : Nat → Nat} (hj : adOk ad 400) {σ : xF} (i : Nat) (hi : i < 400) (hb : σ i = eO 2 [.int (iv (0)), .int (iv (0)), .int (iv (0))]) : ∀ l, gVo l G fZ ad 400 y_Lim_init (.code y_Lim_init c_Lim_init 1 none) rk_Lim [.ref (ad i)] σ (fun σ' => σ' = va_up σ i (eO 2 [.int (iv 3), .int (iv 1), .int (iv 0)])) := by
  intro l
  refine mV_of (by decide) (Nat.le_of_ble_eq_true rfl) (fun X hX hret => ?_)
  show vV G X 0 0 0 [(0, .ref (ad i))] [] (ov fZ ad 400 σ)
  refine v_aload_n hX d_Lim_init_0 0 rfl ?_
  refine v_objInit hX d_Lim_init_1 (mT 103 (by decide +kernel) rfl) (mT 62 (by decide +kernel) rfl) (mT 63 (by decide +kernel) rfl) (by decide) (by decide) ?_
  refine v_aload_n hX d_Lim_init_4 0 rfl ?_
  refine v_iconst hX (3) d_Lim_init_5 ?_
  refine g_put (i := i) (fs' := [.int (iv (3)), .int (iv (0)), .int (iv (0))]) hX hj pf_Lim_7 d_Lim_init_6 (by omega) hb rfl rfl (Nat.le_of_ble_eq_true rfl) rfl ?_
  obtain ⟨σ1, hs2⟩ : ∃ s9, s9 = va_up σ (i) (eO 2 [.int (iv (3)), .int (iv (0)), .int (iv (0))]) := ⟨_, rfl⟩
  rw [← hs2]
  have mo3 : moN σ σ1 := by rw [hs2]; exact moN_up (moN_r σ) _ (eO_ne (by decide))
  have hf4 : σ1 (i) = eO 2 [.int (iv (3)), .int (iv (0)), .int (iv (0))] := by rw [hs2, va_up_self]
  refine v_aload_n hX d_Lim_init_9 0 rfl ?_
  refine v_iconst hX (1) d_Lim_init_10 ?_
  refine g_put (i := i) (fs' := [.int (iv (3)), .int (iv (1)), .int (iv (0))]) hX hj pf_Lim_13 d_Lim_init_11 (by omega) hf4 rfl rfl (Nat.le_of_ble_eq_true rfl) rfl ?_
  obtain ⟨σ5, hs6⟩ : ∃ s9, s9 = va_up σ1 (i) (eO 2 [.int (iv (3)), .int (iv (1)), .int (iv (0))]) := ⟨_, rfl⟩
  rw [← hs6]
  have mo7 : moN σ σ5 := by rw [hs6]; exact moN_up mo3 _ (eO_ne (by decide))
  have hf8 : σ5 (i) = eO 2 [.int (iv (3)), .int (iv (1)), .int (iv (0))] := by rw [hs6, va_up_self]
  refine v_aload_n hX d_Lim_init_14 0 rfl ?_
  refine v_iconst hX (0) d_Lim_init_15 ?_
  refine g_put (i := i) (fs' := [.int (iv (3)), .int (iv (1)), .int (iv (0))]) hX hj pf_Lim_16 d_Lim_init_16 (by omega) hf8 rfl rfl (Nat.le_of_ble_eq_true rfl) rfl ?_
  obtain ⟨σ9, hs10⟩ : ∃ s9, s9 = va_up σ5 (i) (eO 2 [.int (iv (3)), .int (iv (1)), .int (iv (0))]) := ⟨_, rfl⟩
  rw [← hs10]
  have mo11 : moN σ σ9 := by rw [hs10]; exact moN_up mo7 _ (eO_ne (by decide))
  have hf12 : σ9 (i) = eO 2 [.int (iv (3)), .int (iv (1)), .int (iv (0))] := by rw [hs10, va_up_self]
  refine v_widen (kc' := rk_Lim.cells) (ks' := rk_Lim.slots) (by decide) (by decide) ?_
  exact hret _ _ _ d_Lim_init_19 ⟨σ9, rfl, (by rw [hs10, hs6, hs2, bx_uu, bx_uu])⟩

set_option maxHeartbeats 1000000 in
set_option maxRecDepth 100000 in
theorem n_Cut {G : xG} {ad : Nat → Nat} (hj : adOk ad 400) {σ : xF} (i g : Nat) (hi : i < 400) (hg : g < 400) (hig : i ≠ g) (hb : σ i = eO 0 [.null, .int (iv (0)), .int (iv (0)), .int (iv (0))]) (hn : σ g = fNo) : ∀ l, gC l G ad y_Cut_init (.code y_Cut_init c_Cut_init 1 none) rk_Cut [.ref (ad i)] σ (fun ad' σ' => σ' i = eO 0 [.ref (ad' g), .int (iv 0), .int (iv 0), .int (iv 0)] ∧ σ' g = eO 1 [.int (iv 0), .int (iv 1)] ∧ (∀ q, q ≠ i ∧ q ≠ g → σ' q = σ q)) := by
  intro l
  refine mV_of (by decide) (Nat.le_of_ble_eq_true rfl) (fun X hX hret => ?_)
  show vV G X 0 0 0 [(0, .ref (ad i))] [] (ov fZ ad 400 σ)
  refine v_aload_n hX d_Cut_init_0 0 rfl ?_
  refine v_objInit hX d_Cut_init_1 (mT 131 (by decide +kernel) rfl) (mT 62 (by decide +kernel) rfl) (mT 63 (by decide +kernel) rfl) (by decide) (by decide) ?_
  refine v_aload_n hX d_Cut_init_4 0 rfl ?_
  refine g_new hX hj (g := g) (by omega) hn nw_Cut_7 d_Cut_init_5 ⟨by decide, by decide⟩ (fun ad1 hj2 hx3 => ?_)
  have ex4 : exA σ ad ad1 := exA_tr (exA_r σ ad) (moN_r σ) hx3
  have e5 : ad1 i = ad i := hx3 i (by omega) (by rw [hb]; exact eO_ne (by decide))
  rw [← e5]
  obtain ⟨σ6, hs7⟩ : ∃ s9, s9 = va_up σ (g) (eO 1 [.int (iv (0)), .int (iv (0))]) := ⟨_, rfl⟩
  rw [← hs7]
  have mo8 : moN σ σ6 := by rw [hs7]; exact moN_up (moN_r σ) _ (eO_ne (by decide))
  have hf9 : σ6 (i) = eO 0 [.null, .int (iv (0)), .int (iv (0)), .int (iv (0))] := (show σ6 (i) = σ (i) by rw [hs7, va_up_ne _ _ (by omega)]).trans hb
  have hf10 : σ6 (g) = eO 1 [.int (iv (0)), .int (iv (0))] := by rw [hs7, va_up_self]
  refine v_dup hX d_Cut_init_8 rfl ?_
  refine v_callN (As := []) (b := ad1 g) (st := [.ref (ad1 g), .ref (ad1 i)]) hX (fun l => n_Fra hj2 (g) (by omega) hf10 l) cl_Cut_9 d_Cut_init_9 rfl ⟨by decide, by decide⟩ ⟨by decide, by decide⟩ (Nat.le_of_ble_eq_true rfl) (fun f9 hf9 => ?_)
  obtain ⟨σ11, ef9, hp12⟩ := hf9
  subst ef9
  have hf13 : σ11 (i) = eO 0 [.null, .int (iv (0)), .int (iv (0)), .int (iv (0))] := (show σ11 (i) = σ6 (i) by rw [hp12, va_up_ne _ _ (by omega)]).trans hf9
  have hf14 : σ11 (g) = eO 1 [.int (iv (0)), .int (iv (1))] := by rw [hp12, va_up_self]
  have mo15 : moN σ σ11 := by rw [hp12]; exact moN_up mo8 _ (eO_ne (by decide))
  refine g_putF (i := i) (fs' := [.ref (ad1 g), .int (iv (0)), .int (iv (0)), .int (iv (0))]) hX hj2 pF_Cut_10 rfl d_Cut_init_12 (by omega) hf13 rfl rfl (Nat.le_of_ble_eq_true rfl) rfl ?_
  obtain ⟨σ16, hs17⟩ : ∃ s9, s9 = va_up σ11 (i) (eO 0 [.ref (ad1 g), .int (iv (0)), .int (iv (0)), .int (iv (0))]) := ⟨_, rfl⟩
  rw [← hs17]
  have mo18 : moN σ σ16 := by rw [hs17]; exact moN_up mo15 _ (eO_ne (by decide))
  have hf19 : σ16 (g) = eO 1 [.int (iv (0)), .int (iv (1))] := (show σ16 (g) = σ11 (g) by rw [hs17, va_up_ne _ _ (by omega)]).trans hf14
  have hf20 : σ16 (i) = eO 0 [.ref (ad1 g), .int (iv (0)), .int (iv (0)), .int (iv (0))] := by rw [hs17, va_up_self]
  refine v_widen (kc' := rk_Cut.cells) (ks' := rk_Cut.slots) (by decide) (by decide) ?_
  exact hret _ _ _ d_Cut_init_15 ⟨ad1, σ16, hj2, ex4, rfl, hf20, hf19, (fun q hq => by rw [hs17, va_up_ne _ _ (by omega), hp12, va_up_ne _ _ (by omega), hs7, va_up_ne _ _ (by omega)])⟩

set_option maxHeartbeats 1000000 in
set_option maxRecDepth 100000 in
theorem n_Nod {G : xG} {ad : Nat → Nat} (hj : adOk ad 400) {σ : xF} (b : Nat) (num : Int) (hb3 : b + 2 < 400) (hb : σ b = eO 3 [.int (iv (0)), .null, .int (iv (0)), .int (iv (0)), .int (iv (0)), .int (iv (0)), .null, .null, .int (iv (0)), .int (iv (0)), .int (iv (0)), .int (iv (0))]) (hn1 : σ (b + 1) = fNo) (hn2 : σ (b + 2) = fNo) : ∀ l, gC l G ad y_Nod_init (.code y_Nod_init c_Nod_init 2 none) rk_Nod [.ref (ad b), .int (iv (num))] σ (fun ad' σ' => σ' b = eO 3 [.int (iv (num)), .ref (ad' (b + 1)), .int (iv (0)), .int (iv (0)), .int (iv (0)), .int (iv (0)), .null, .null, .int (iv (0)), .int (iv (0)), .int (iv (0)), .int (iv (0))] ∧ σ' (b + 1) = eO 0 [.ref (ad' (b + 2)), .int (iv 0), .int (iv 0), .int (iv 0)] ∧ σ' (b + 2) = eO 1 [.int (iv 0), .int (iv 1)] ∧ (∀ q, q ≠ b ∧ q ≠ b + 1 ∧ q ≠ b + 2 → σ' q = σ q)) := by
  intro l
  refine mV_of (by decide) (Nat.le_of_ble_eq_true rfl) (fun X hX hret => ?_)
  show vV G X 0 0 0 [(0, .ref (ad b)), (1, .int (iv (num)))] [] (ov fZ ad 400 σ)
  refine v_aload_n hX d_Nod_init_0 0 rfl ?_
  refine v_objInit hX d_Nod_init_1 (mT 197 (by decide +kernel) rfl) (mT 62 (by decide +kernel) rfl) (mT 63 (by decide +kernel) rfl) (by decide) (by decide) ?_
  refine v_aload_n hX d_Nod_init_4 0 rfl ?_
  refine g_new hX hj (g := b + 1) (by omega) hn1 nw_Nod_9 d_Nod_init_5 ⟨by decide, by decide⟩ (fun ad1 hj2 hx3 => ?_)
  have ex4 : exA σ ad ad1 := exA_tr (exA_r σ ad) (moN_r σ) hx3
  have e5 : ad1 b = ad b := hx3 b (by omega) (by rw [hb]; exact eO_ne (by decide))
  rw [← e5]
  obtain ⟨σ6, hs7⟩ : ∃ s9, s9 = va_up σ (b + 1) (eO 0 [.null, .int (iv (0)), .int (iv (0)), .int (iv (0))]) := ⟨_, rfl⟩
  rw [← hs7]
  have mo8 : moN σ σ6 := by rw [hs7]; exact moN_up (moN_r σ) _ (eO_ne (by decide))
  have hf9 : σ6 (b) = eO 3 [.int (iv (0)), .null, .int (iv (0)), .int (iv (0)), .int (iv (0)), .int (iv (0)), .null, .null, .int (iv (0)), .int (iv (0)), .int (iv (0)), .int (iv (0))] := (show σ6 (b) = σ (b) by rw [hs7, va_up_ne _ _ (by omega)]).trans hb
  have hf10 : σ6 (b + 2) = fNo := (show σ6 (b + 2) = σ (b + 2) by rw [hs7, va_up_ne _ _ (by omega)]).trans hn2
  have hf11 : σ6 (b + 1) = eO 0 [.null, .int (iv (0)), .int (iv (0)), .int (iv (0))] := by rw [hs7, va_up_self]
  refine v_dup hX d_Nod_init_8 rfl ?_
  refine g_callN (As := []) (b := ad1 (b + 1)) (st := [.ref (ad1 (b + 1)), .ref (ad1 b)]) hX (n_Cut hj2 (b + 1) (b + 2) (by omega) (by omega) (by omega) hf11 hf10) cl_Nod_11 d_Nod_init_9 rfl ⟨by decide, by decide⟩ ⟨by decide, by decide⟩ (Nat.le_of_ble_eq_true rfl) (fun ad12 σ13 hj14 hx15 hp16 => ?_)
  obtain ⟨k171, k172, k173⟩ := hp16
  have ex18 : exA σ ad ad12 := exA_tr ex4 mo8 hx15
  have e19 : ad12 b = ad1 b := hx15 b (by omega) (by rw [hf9]; exact eO_ne (by decide))
  have e20 : ad12 (b + 1) = ad1 (b + 1) := hx15 (b + 1) (by omega) (by rw [hf11]; exact eO_ne (by decide))
  rw [← e19]
  rw [← e20]
  have hf21 : σ13 (b) = eO 3 [.int (iv (0)), .null, .int (iv (0)), .int (iv (0)), .int (iv (0)), .int (iv (0)), .null, .null, .int (iv (0)), .int (iv (0)), .int (iv (0)), .int (iv (0))] := (show σ13 (b) = σ6 (b) from k173 _ (by omega)).trans hf9
  have mo22 : moN σ σ13 := moN_2 mo8 (by rw [k171]; exact eO_ne (by decide)) (by rw [k172]; exact eO_ne (by decide)) k173
  refine g_putF (i := b) (fs' := [.int (iv (0)), .ref (ad12 (b + 1)), .int (iv (0)), .int (iv (0)), .int (iv (0)), .int (iv (0)), .null, .null, .int (iv (0)), .int (iv (0)), .int (iv (0)), .int (iv (0))]) hX hj14 pF_Nod_12 rfl d_Nod_init_12 (by omega) hf21 rfl rfl (Nat.le_of_ble_eq_true rfl) rfl ?_
  obtain ⟨σ23, hs24⟩ : ∃ s9, s9 = va_up σ13 (b) (eO 3 [.int (iv (0)), .ref (ad12 (b + 1)), .int (iv (0)), .int (iv (0)), .int (iv (0)), .int (iv (0)), .null, .null, .int (iv (0)), .int (iv (0)), .int (iv (0)), .int (iv (0))]) := ⟨_, rfl⟩
  rw [← hs24]
  have mo25 : moN σ σ23 := by rw [hs24]; exact moN_up mo22 _ (eO_ne (by decide))
  have hf26 : σ23 (b + 1) = eO 0 [.ref (ad12 (b + 2)), .int (iv (0)), .int (iv (0)), .int (iv (0))] := (show σ23 (b + 1) = σ13 (b + 1) by rw [hs24, va_up_ne _ _ (by omega)]).trans k171
  have hf27 : σ23 (b + 2) = eO 1 [.int (iv (0)), .int (iv (1))] := (show σ23 (b + 2) = σ13 (b + 2) by rw [hs24, va_up_ne _ _ (by omega)]).trans k172
  have hf28 : σ23 (b) = eO 3 [.int (iv (0)), .ref (ad12 (b + 1)), .int (iv (0)), .int (iv (0)), .int (iv (0)), .int (iv (0)), .null, .null, .int (iv (0)), .int (iv (0)), .int (iv (0)), .int (iv (0))] := by rw [hs24, va_up_self]
  refine v_aload_n hX d_Nod_init_15 0 rfl ?_
  refine v_iload_n hX d_Nod_init_16 1 rfl ?_
  refine g_putF (i := b) (fs' := [.int (iv (num)), .ref (ad12 (b + 1)), .int (iv (0)), .int (iv (0)), .int (iv (0)), .int (iv (0)), .null, .null, .int (iv (0)), .int (iv (0)), .int (iv (0)), .int (iv (0))]) hX hj14 pF_Nod_18 rfl d_Nod_init_17 (by omega) hf28 rfl rfl (Nat.le_of_ble_eq_true rfl) rfl ?_
  obtain ⟨σ29, hs30⟩ : ∃ s9, s9 = va_up σ23 (b) (eO 3 [.int (iv (num)), .ref (ad12 (b + 1)), .int (iv (0)), .int (iv (0)), .int (iv (0)), .int (iv (0)), .null, .null, .int (iv (0)), .int (iv (0)), .int (iv (0)), .int (iv (0))]) := ⟨_, rfl⟩
  rw [← hs30]
  have mo31 : moN σ σ29 := by rw [hs30]; exact moN_up mo25 _ (eO_ne (by decide))
  have hf32 : σ29 (b + 1) = eO 0 [.ref (ad12 (b + 2)), .int (iv (0)), .int (iv (0)), .int (iv (0))] := (show σ29 (b + 1) = σ23 (b + 1) by rw [hs30, va_up_ne _ _ (by omega)]).trans hf26
  have hf33 : σ29 (b + 2) = eO 1 [.int (iv (0)), .int (iv (1))] := (show σ29 (b + 2) = σ23 (b + 2) by rw [hs30, va_up_ne _ _ (by omega)]).trans hf27
  have hf34 : σ29 (b) = eO 3 [.int (iv (num)), .ref (ad12 (b + 1)), .int (iv (0)), .int (iv (0)), .int (iv (0)), .int (iv (0)), .null, .null, .int (iv (0)), .int (iv (0)), .int (iv (0)), .int (iv (0))] := by rw [hs30, va_up_self]
  refine v_widen (kc' := rk_Nod.cells) (ks' := rk_Nod.slots) (by decide) (by decide) ?_
  exact hret _ _ _ d_Nod_init_20 ⟨ad12, σ29, hj14, ex18, rfl, hf34, hf32, hf33, (fun q hq => by rw [hs30, va_up_ne _ _ (by omega), hs24, va_up_ne _ _ (by omega), k173 _ (by omega), hs7, va_up_ne _ _ (by omega)])⟩

set_option maxHeartbeats 1000000 in
set_option maxRecDepth 100000 in
theorem n_Sur {G : xG} {ad : Nat → Nat} (hj : adOk ad 400) {σ : xF} (hb : σ 3 = eO 5 [.null, .null, .null, .null]) (h1 : σ 1 ≠ fNo) (h2 : σ 2 ≠ fNo) (hn4 : σ 4 = fNo) (hn5 : σ 5 = fNo) (hn6 : σ 6 = fNo) (hn7 : σ 7 = fNo) : ∀ l, gC l G ad y_Sur_init (.code y_Sur_init c_Sur_init 3 none) rk_Sur [.ref (ad 3), .ref (ad 1), .ref (ad 2)] σ (fun ad' σ' => σ' 3 = eO 5 [.ref (ad' 4), .ref (ad' 6), .ref (ad' 1), .ref (ad' 2)] ∧ σ' 4 = eO 0 [.ref (ad' 5), .int (iv 0), .int (iv 0), .int (iv 0)] ∧ σ' 5 = eO 1 [.int (iv 0), .int (iv 1)] ∧ σ' 6 = eO 0 [.ref (ad' 7), .int (iv 0), .int (iv 0), .int (iv 0)] ∧ σ' 7 = eO 1 [.int (iv 0), .int (iv 1)] ∧ (∀ q, q < 3 ∨ 7 < q → σ' q = σ q)) := by
  intro l
  refine mV_of (by decide) (Nat.le_of_ble_eq_true rfl) (fun X hX hret => ?_)
  show vV G X 0 0 0 [(0, .ref (ad 3)), (1, .ref (ad 1)), (2, .ref (ad 2))] [] (ov fZ ad 400 σ)
  refine v_aload_n hX d_Sur_init_0 0 rfl ?_
  refine v_objInit hX d_Sur_init_1 (mT 125 (by decide +kernel) rfl) (mT 62 (by decide +kernel) rfl) (mT 63 (by decide +kernel) rfl) (by decide) (by decide) ?_
  refine v_aload_n hX d_Sur_init_4 0 rfl ?_
  refine g_new hX hj (g := 4) (by omega) hn4 nw_Sur_9 d_Sur_init_5 ⟨by decide, by decide⟩ (fun ad1 hj2 hx3 => ?_)
  have ex4 : exA σ ad ad1 := exA_tr (exA_r σ ad) (moN_r σ) hx3
  have e5 : ad1 3 = ad 3 := hx3 3 (by omega) (by rw [hb]; exact eO_ne (by decide))
  have e6 : ad1 1 = ad 1 := hx3 1 (by omega) h1
  have e7 : ad1 2 = ad 2 := hx3 2 (by omega) h2
  rw [← e5]
  rw [← e6]
  rw [← e7]
  obtain ⟨σ8, hs9⟩ : ∃ s9, s9 = va_up σ (4) (eO 0 [.null, .int (iv (0)), .int (iv (0)), .int (iv (0))]) := ⟨_, rfl⟩
  rw [← hs9]
  have mo10 : moN σ σ8 := by rw [hs9]; exact moN_up (moN_r σ) _ (eO_ne (by decide))
  have hf11 : σ8 (3) = eO 5 [.null, .null, .null, .null] := (show σ8 (3) = σ (3) by rw [hs9, va_up_ne _ _ (by omega)]).trans hb
  have hf12 : σ8 (1) ≠ fNo := by rw [show σ8 (1) = σ (1) by rw [hs9, va_up_ne _ _ (by omega)]]; exact h1
  have hf13 : σ8 (2) ≠ fNo := by rw [show σ8 (2) = σ (2) by rw [hs9, va_up_ne _ _ (by omega)]]; exact h2
  have hf14 : σ8 (5) = fNo := (show σ8 (5) = σ (5) by rw [hs9, va_up_ne _ _ (by omega)]).trans hn5
  have hf15 : σ8 (6) = fNo := (show σ8 (6) = σ (6) by rw [hs9, va_up_ne _ _ (by omega)]).trans hn6
  have hf16 : σ8 (7) = fNo := (show σ8 (7) = σ (7) by rw [hs9, va_up_ne _ _ (by omega)]).trans hn7
  have hf17 : σ8 (4) = eO 0 [.null, .int (iv (0)), .int (iv (0)), .int (iv (0))] := by rw [hs9, va_up_self]
  refine v_dup hX d_Sur_init_8 rfl ?_
  refine g_callN (As := []) (b := ad1 4) (st := [.ref (ad1 4), .ref (ad1 3)]) hX (n_Cut hj2 (4) (5) (by omega) (by omega) (by omega) hf17 hf14) cl_Sur_11 d_Sur_init_9 rfl ⟨by decide, by decide⟩ ⟨by decide, by decide⟩ (Nat.le_of_ble_eq_true rfl) (fun ad18 σ19 hj20 hx21 hp22 => ?_)
  obtain ⟨k231, k232, k233⟩ := hp22
  have ex24 : exA σ ad ad18 := exA_tr ex4 mo10 hx21
  have e25 : ad18 3 = ad1 3 := hx21 3 (by omega) (by rw [hf11]; exact eO_ne (by decide))
  have e26 : ad18 1 = ad1 1 := hx21 1 (by omega) hf12
  have e27 : ad18 2 = ad1 2 := hx21 2 (by omega) hf13
  have e28 : ad18 4 = ad1 4 := hx21 4 (by omega) (by rw [hf17]; exact eO_ne (by decide))
  rw [← e25]
  rw [← e26]
  rw [← e27]
  rw [← e28]
  have hf29 : σ19 (3) = eO 5 [.null, .null, .null, .null] := (show σ19 (3) = σ8 (3) from k233 _ (by omega)).trans hf11
  have hf30 : σ19 (1) ≠ fNo := by rw [show σ19 (1) = σ8 (1) from k233 _ (by omega)]; exact hf12
  have hf31 : σ19 (2) ≠ fNo := by rw [show σ19 (2) = σ8 (2) from k233 _ (by omega)]; exact hf13
  have hf32 : σ19 (6) = fNo := (show σ19 (6) = σ8 (6) from k233 _ (by omega)).trans hf15
  have hf33 : σ19 (7) = fNo := (show σ19 (7) = σ8 (7) from k233 _ (by omega)).trans hf16
  have mo34 : moN σ σ19 := moN_2 mo10 (by rw [k231]; exact eO_ne (by decide)) (by rw [k232]; exact eO_ne (by decide)) k233
  refine g_putF (i := 3) (fs' := [.ref (ad18 4), .null, .null, .null]) hX hj20 pF_Sur_12 rfl d_Sur_init_12 (by omega) hf29 rfl rfl (Nat.le_of_ble_eq_true rfl) rfl ?_
  obtain ⟨σ35, hs36⟩ : ∃ s9, s9 = va_up σ19 (3) (eO 5 [.ref (ad18 4), .null, .null, .null]) := ⟨_, rfl⟩
  rw [← hs36]
  have mo37 : moN σ σ35 := by rw [hs36]; exact moN_up mo34 _ (eO_ne (by decide))
  have hf38 : σ35 (1) ≠ fNo := by rw [show σ35 (1) = σ19 (1) by rw [hs36, va_up_ne _ _ (by omega)]]; exact hf30
  have hf39 : σ35 (2) ≠ fNo := by rw [show σ35 (2) = σ19 (2) by rw [hs36, va_up_ne _ _ (by omega)]]; exact hf31
  have hf40 : σ35 (6) = fNo := (show σ35 (6) = σ19 (6) by rw [hs36, va_up_ne _ _ (by omega)]).trans hf32
  have hf41 : σ35 (7) = fNo := (show σ35 (7) = σ19 (7) by rw [hs36, va_up_ne _ _ (by omega)]).trans hf33
  have hf42 : σ35 (4) = eO 0 [.ref (ad18 5), .int (iv (0)), .int (iv (0)), .int (iv (0))] := (show σ35 (4) = σ19 (4) by rw [hs36, va_up_ne _ _ (by omega)]).trans k231
  have hf43 : σ35 (5) = eO 1 [.int (iv (0)), .int (iv (1))] := (show σ35 (5) = σ19 (5) by rw [hs36, va_up_ne _ _ (by omega)]).trans k232
  have hf44 : σ35 (3) = eO 5 [.ref (ad18 4), .null, .null, .null] := by rw [hs36, va_up_self]
  refine v_aload_n hX d_Sur_init_15 0 rfl ?_
  refine g_new hX hj20 (g := 6) (by omega) hf40 nw_Sur_9 d_Sur_init_16 ⟨by decide, by decide⟩ (fun ad45 hj46 hx47 => ?_)
  have ex48 : exA σ ad ad45 := exA_tr ex24 mo37 hx47
  have e49 : ad45 3 = ad18 3 := hx47 3 (by omega) (by rw [hf44]; exact eO_ne (by decide))
  have e50 : ad45 1 = ad18 1 := hx47 1 (by omega) hf38
  have e51 : ad45 2 = ad18 2 := hx47 2 (by omega) hf39
  have e52 : ad45 4 = ad18 4 := hx47 4 (by omega) (by rw [hf42]; exact eO_ne (by decide))
  have e53 : ad45 5 = ad18 5 := hx47 5 (by omega) (by rw [hf43]; exact eO_ne (by decide))
  rw [← e49]
  rw [← e50]
  rw [← e51]
  have hf54 : σ35 (4) = eO 0 [.ref (ad45 5), .int (iv (0)), .int (iv (0)), .int (iv (0))] := by rw [e53]; exact hf42
  have hf55 : σ35 (3) = eO 5 [.ref (ad45 4), .null, .null, .null] := by rw [e52]; exact hf44
  obtain ⟨σ56, hs57⟩ : ∃ s9, s9 = va_up σ35 (6) (eO 0 [.null, .int (iv (0)), .int (iv (0)), .int (iv (0))]) := ⟨_, rfl⟩
  rw [← hs57]
  have mo58 : moN σ σ56 := by rw [hs57]; exact moN_up mo37 _ (eO_ne (by decide))
  have hf59 : σ56 (1) ≠ fNo := by rw [show σ56 (1) = σ35 (1) by rw [hs57, va_up_ne _ _ (by omega)]]; exact hf38
  have hf60 : σ56 (2) ≠ fNo := by rw [show σ56 (2) = σ35 (2) by rw [hs57, va_up_ne _ _ (by omega)]]; exact hf39
  have hf61 : σ56 (7) = fNo := (show σ56 (7) = σ35 (7) by rw [hs57, va_up_ne _ _ (by omega)]).trans hf41
  have hf62 : σ56 (4) = eO 0 [.ref (ad45 5), .int (iv (0)), .int (iv (0)), .int (iv (0))] := (show σ56 (4) = σ35 (4) by rw [hs57, va_up_ne _ _ (by omega)]).trans hf54
  have hf63 : σ56 (5) = eO 1 [.int (iv (0)), .int (iv (1))] := (show σ56 (5) = σ35 (5) by rw [hs57, va_up_ne _ _ (by omega)]).trans hf43
  have hf64 : σ56 (3) = eO 5 [.ref (ad45 4), .null, .null, .null] := (show σ56 (3) = σ35 (3) by rw [hs57, va_up_ne _ _ (by omega)]).trans hf55
  have hf65 : σ56 (6) = eO 0 [.null, .int (iv (0)), .int (iv (0)), .int (iv (0))] := by rw [hs57, va_up_self]
  refine v_dup hX d_Sur_init_19 rfl ?_
  refine g_callN (As := []) (b := ad45 6) (st := [.ref (ad45 6), .ref (ad45 3)]) hX (n_Cut hj46 (6) (7) (by omega) (by omega) (by omega) hf65 hf61) cl_Sur_11 d_Sur_init_20 rfl ⟨by decide, by decide⟩ ⟨by decide, by decide⟩ (Nat.le_of_ble_eq_true rfl) (fun ad66 σ67 hj68 hx69 hp70 => ?_)
  obtain ⟨k711, k712, k713⟩ := hp70
  have ex72 : exA σ ad ad66 := exA_tr ex48 mo58 hx69
  have e73 : ad66 3 = ad45 3 := hx69 3 (by omega) (by rw [hf64]; exact eO_ne (by decide))
  have e74 : ad66 1 = ad45 1 := hx69 1 (by omega) hf59
  have e75 : ad66 2 = ad45 2 := hx69 2 (by omega) hf60
  have e76 : ad66 6 = ad45 6 := hx69 6 (by omega) (by rw [hf65]; exact eO_ne (by decide))
  have e77 : ad66 4 = ad45 4 := hx69 4 (by omega) (by rw [hf62]; exact eO_ne (by decide))
  have e78 : ad66 5 = ad45 5 := hx69 5 (by omega) (by rw [hf63]; exact eO_ne (by decide))
  rw [← e73]
  rw [← e74]
  rw [← e75]
  rw [← e76]
  have hf79 : σ56 (4) = eO 0 [.ref (ad66 5), .int (iv (0)), .int (iv (0)), .int (iv (0))] := by rw [e78]; exact hf62
  have hf80 : σ56 (3) = eO 5 [.ref (ad66 4), .null, .null, .null] := by rw [e77]; exact hf64
  have hf81 : σ67 (1) ≠ fNo := by rw [show σ67 (1) = σ56 (1) from k713 _ (by omega)]; exact hf59
  have hf82 : σ67 (2) ≠ fNo := by rw [show σ67 (2) = σ56 (2) from k713 _ (by omega)]; exact hf60
  have hf83 : σ67 (4) = eO 0 [.ref (ad66 5), .int (iv (0)), .int (iv (0)), .int (iv (0))] := (show σ67 (4) = σ56 (4) from k713 _ (by omega)).trans hf79
  have hf84 : σ67 (5) = eO 1 [.int (iv (0)), .int (iv (1))] := (show σ67 (5) = σ56 (5) from k713 _ (by omega)).trans hf63
  have hf85 : σ67 (3) = eO 5 [.ref (ad66 4), .null, .null, .null] := (show σ67 (3) = σ56 (3) from k713 _ (by omega)).trans hf80
  have mo86 : moN σ σ67 := moN_2 mo58 (by rw [k711]; exact eO_ne (by decide)) (by rw [k712]; exact eO_ne (by decide)) k713
  refine g_putF (i := 3) (fs' := [.ref (ad66 4), .ref (ad66 6), .null, .null]) hX hj68 pF_Sur_18 rfl d_Sur_init_23 (by omega) hf85 rfl rfl (Nat.le_of_ble_eq_true rfl) rfl ?_
  obtain ⟨σ87, hs88⟩ : ∃ s9, s9 = va_up σ67 (3) (eO 5 [.ref (ad66 4), .ref (ad66 6), .null, .null]) := ⟨_, rfl⟩
  rw [← hs88]
  have mo89 : moN σ σ87 := by rw [hs88]; exact moN_up mo86 _ (eO_ne (by decide))
  have hf90 : σ87 (1) ≠ fNo := by rw [show σ87 (1) = σ67 (1) by rw [hs88, va_up_ne _ _ (by omega)]]; exact hf81
  have hf91 : σ87 (2) ≠ fNo := by rw [show σ87 (2) = σ67 (2) by rw [hs88, va_up_ne _ _ (by omega)]]; exact hf82
  have hf92 : σ87 (4) = eO 0 [.ref (ad66 5), .int (iv (0)), .int (iv (0)), .int (iv (0))] := (show σ87 (4) = σ67 (4) by rw [hs88, va_up_ne _ _ (by omega)]).trans hf83
  have hf93 : σ87 (5) = eO 1 [.int (iv (0)), .int (iv (1))] := (show σ87 (5) = σ67 (5) by rw [hs88, va_up_ne _ _ (by omega)]).trans hf84
  have hf94 : σ87 (6) = eO 0 [.ref (ad66 7), .int (iv (0)), .int (iv (0)), .int (iv (0))] := (show σ87 (6) = σ67 (6) by rw [hs88, va_up_ne _ _ (by omega)]).trans k711
  have hf95 : σ87 (7) = eO 1 [.int (iv (0)), .int (iv (1))] := (show σ87 (7) = σ67 (7) by rw [hs88, va_up_ne _ _ (by omega)]).trans k712
  have hf96 : σ87 (3) = eO 5 [.ref (ad66 4), .ref (ad66 6), .null, .null] := by rw [hs88, va_up_self]
  refine v_aload_n hX d_Sur_init_26 0 rfl ?_
  refine v_aload_n hX d_Sur_init_27 1 rfl ?_
  refine g_putF (i := 3) (fs' := [.ref (ad66 4), .ref (ad66 6), .ref (ad66 1), .null]) hX hj68 pF_Sur_21 rfl d_Sur_init_28 (by omega) hf96 rfl rfl (Nat.le_of_ble_eq_true rfl) rfl ?_
  obtain ⟨σ97, hs98⟩ : ∃ s9, s9 = va_up σ87 (3) (eO 5 [.ref (ad66 4), .ref (ad66 6), .ref (ad66 1), .null]) := ⟨_, rfl⟩
  rw [← hs98]
  have mo99 : moN σ σ97 := by rw [hs98]; exact moN_up mo89 _ (eO_ne (by decide))
  have hf100 : σ97 (1) ≠ fNo := by rw [show σ97 (1) = σ87 (1) by rw [hs98, va_up_ne _ _ (by omega)]]; exact hf90
  have hf101 : σ97 (2) ≠ fNo := by rw [show σ97 (2) = σ87 (2) by rw [hs98, va_up_ne _ _ (by omega)]]; exact hf91
  have hf102 : σ97 (4) = eO 0 [.ref (ad66 5), .int (iv (0)), .int (iv (0)), .int (iv (0))] := (show σ97 (4) = σ87 (4) by rw [hs98, va_up_ne _ _ (by omega)]).trans hf92
  have hf103 : σ97 (5) = eO 1 [.int (iv (0)), .int (iv (1))] := (show σ97 (5) = σ87 (5) by rw [hs98, va_up_ne _ _ (by omega)]).trans hf93
  have hf104 : σ97 (6) = eO 0 [.ref (ad66 7), .int (iv (0)), .int (iv (0)), .int (iv (0))] := (show σ97 (6) = σ87 (6) by rw [hs98, va_up_ne _ _ (by omega)]).trans hf94
  have hf105 : σ97 (7) = eO 1 [.int (iv (0)), .int (iv (1))] := (show σ97 (7) = σ87 (7) by rw [hs98, va_up_ne _ _ (by omega)]).trans hf95
  have hf106 : σ97 (3) = eO 5 [.ref (ad66 4), .ref (ad66 6), .ref (ad66 1), .null] := by rw [hs98, va_up_self]
  refine v_aload_n hX d_Sur_init_31 0 rfl ?_
  refine v_aload_n hX d_Sur_init_32 2 rfl ?_
  refine g_putF (i := 3) (fs' := [.ref (ad66 4), .ref (ad66 6), .ref (ad66 1), .ref (ad66 2)]) hX hj68 pF_Sur_25 rfl d_Sur_init_33 (by omega) hf106 rfl rfl (Nat.le_of_ble_eq_true rfl) rfl ?_
  obtain ⟨σ107, hs108⟩ : ∃ s9, s9 = va_up σ97 (3) (eO 5 [.ref (ad66 4), .ref (ad66 6), .ref (ad66 1), .ref (ad66 2)]) := ⟨_, rfl⟩
  rw [← hs108]
  have mo109 : moN σ σ107 := by rw [hs108]; exact moN_up mo99 _ (eO_ne (by decide))
  have hf110 : σ107 (1) ≠ fNo := by rw [show σ107 (1) = σ97 (1) by rw [hs108, va_up_ne _ _ (by omega)]]; exact hf100
  have hf111 : σ107 (2) ≠ fNo := by rw [show σ107 (2) = σ97 (2) by rw [hs108, va_up_ne _ _ (by omega)]]; exact hf101
  have hf112 : σ107 (4) = eO 0 [.ref (ad66 5), .int (iv (0)), .int (iv (0)), .int (iv (0))] := (show σ107 (4) = σ97 (4) by rw [hs108, va_up_ne _ _ (by omega)]).trans hf102
  have hf113 : σ107 (5) = eO 1 [.int (iv (0)), .int (iv (1))] := (show σ107 (5) = σ97 (5) by rw [hs108, va_up_ne _ _ (by omega)]).trans hf103
  have hf114 : σ107 (6) = eO 0 [.ref (ad66 7), .int (iv (0)), .int (iv (0)), .int (iv (0))] := (show σ107 (6) = σ97 (6) by rw [hs108, va_up_ne _ _ (by omega)]).trans hf104
  have hf115 : σ107 (7) = eO 1 [.int (iv (0)), .int (iv (1))] := (show σ107 (7) = σ97 (7) by rw [hs108, va_up_ne _ _ (by omega)]).trans hf105
  have hf116 : σ107 (3) = eO 5 [.ref (ad66 4), .ref (ad66 6), .ref (ad66 1), .ref (ad66 2)] := by rw [hs108, va_up_self]
  refine v_widen (kc' := rk_Sur.cells) (ks' := rk_Sur.slots) (by decide) (by decide) ?_
  exact hret _ _ _ d_Sur_init_36 ⟨ad66, σ107, hj68, ex72, rfl, hf116, hf112, hf113, hf114, hf115, (fun q hq => by rw [hs108, va_up_ne _ _ (by omega), hs98, va_up_ne _ _ (by omega), hs88, va_up_ne _ _ (by omega), k713 _ (by omega), hs57, va_up_ne _ _ (by omega), hs36, va_up_ne _ _ (by omega), k233 _ (by omega), hs9, va_up_ne _ _ (by omega)])⟩
